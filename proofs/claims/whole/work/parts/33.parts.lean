/-! the repeated roots of repeated roots (printed by wip/whole/t33.py) -/
def oneP : Po := fun k => if k = 0 then 1 else 0
/-- D behind D, n of them -/
def spN : Nat → Po → Option (List Po)
  | 0, _ => some []
  | n + 1, d => if sz (der d) = 0 then (spN n oneP).map (oneP :: ·) else match com d (der d) with
    | none => none
    | some g => (spN n g).map (g :: ·)
/-- D0 to D5 -/
def spl (p : Po) : Option (List Po) := if fit p = true then (spN 5 (up (cln p))).map ([up (cln p)] ++ ·) else none
theorem JP.any {J : amJ} {x : Nat} : JP J x (fun k => (J x k).toInt) := fun k _ => oI_of _
/-- what split() may change -/
def FrP (J J' : amJ) : Prop := ∀ y, y ≠ 42 → y ≠ 44 → (y < 51 ∨ 63 ≤ y) → J' y = J y
theorem FrP.rf {J : amJ} : FrP J J := fun _ _ _ _ => rfl
theorem FrP.tr {J J1 J2 : amJ} (h1 : FrP J J1) (h2 : FrP J1 J2) : FrP J J2 := fun y a b hy => (h2 y a b hy).trans (h1 y a b hy)
theorem Fr.pp {J J1 : amJ} {x : Nat} (hf : Fr J J1 x) (h1 : 51 ≤ x) (h2 : x < 63) : FrP J J1 := fun y _ _ hy => hf y (by omega)
theorem FrL.pp {J J1 : amJ} (hf : FrL [42, 44] J J1) : FrP J J1 := fun y h1 h2 _ => hf y (by simp; omega)
/-- the rows hold the list -/
def DM (J : amJ) (l : List Po) : Prop := ∀ k, k < l.length → JP J (51 + 2 * k + 1) (l.getD k zP)
theorem DM.snoc {J : amJ} {l : List Po} {b : Po} (hM : DM J l) (hb : JP J (51 + 2 * l.length + 1) b) : DM J (l ++ [b]) := fun k hk => by
  rw [List.length_append, List.length_singleton] at hk
  by_cases e : k = l.length
  · subst e; rw [gd_r]; exact hb
  · rw [gd_l (by omega)]; exact hM k (by omega)
theorem DM.fr {J J1 : amJ} {x : Nat} {l : List Po} (hM : DM J l) (hf : Fr J J1 x) (hx : 51 + 2 * l.length < x) : DM J1 l := fun k hk => (hM k hk).fr hf (by omega)
theorem DM.fl {J J1 : amJ} {l : List Po} (hM : DM J l) (hf : FrL [42, 44] J J1) : DM J1 l := fun k hk => (hM k hk).fl hf (by simp; omega)
/-- what split() leaves -/
def SpP (J : amJ) (R : amR) (o : Option (List Po)) (v : Option Value) (J' : amJ) (R' : amR) : Prop := FrP J J' ∧ amRok R' ∧ RC R R' ∧ (∃ x y, CO R' x y) ∧ ((∃ t, o = some t ∧ v = some (.int 1) ∧ t.length = 6 ∧ DM J' t ∧ LPb t) ∨ (o = none ∧ v = some (.int 0)))
theorem SpP.tr {J J1 J' : amJ} {R R1 R' : amR} {o : Option (List Po)} {v : Option Value} (h : SpP J1 R1 o v J' R') (h1 : FrP J J1) (h2 : RC R R1) : SpP J R o v J' R' := ⟨h1.tr h.1, h.2.1, h2.tr h.2.2.1, h.2.2.2⟩
theorem one_PB : PB 1000000 oneP := fun k _ => by unfold oneP; split <;> exact ⟨by decide, by decide⟩
section SPLIT
variable {L : Nat} {I : amI} {J : amJ} {R : amR} {Q : amQ} {a b c x y : Nat} {p q f : Po} {l : List Po}
theorem dr (hR : amRok R) : ∀ k, k < 6 → R 48 k = some (51 + 2 * k) := by
  intro k hk
  match k, hk with
  | 0, _ => exact hR 48 0 51 rfl
  | 1, _ => exact hR 48 1 53 rfl
  | 2, _ => exact hR 48 2 55 rfl
  | 3, _ => exact hR 48 3 57 rfl
  | 4, _ => exact hR 48 4 59 rfl
  | 5, _ => exact hR 48 5 61 rfl
theorem dp (hR : amRok R) : ∀ k, k < 6 → amPO (amSH L) R (51 + 2 * k) := by
  intro k hk
  match k, hk with
  | 0, _ => exact po51 hR
  | 1, _ => exact po53 hR
  | 2, _ => exact po55 hR
  | 3, _ => exact po57 hR
  | 4, _ => exact po59 hR
  | 5, _ => exact po61 hR
set_option maxHeartbeats 2000000 in
theorem c_result (hC : CO R x y) : Rv 25 [.ref 40] (amSH L) I J R (.ref x) := by
  intro Q hQ
  show Ex 25 0 [some (.ref 40)] [] (amSH L) I J R _
  refine LA0 e25_0 ?_
  refine Gr e25_1 (o40 L) hC.1 f64 ?_
  exact Ra e25_4 rt25 (hQ)
set_option maxHeartbeats 2000000 in
theorem d_lp : ∀ (n m : Nat) (l : List Po) (J : amJ) (R : amR) (x y : Nat) (l4 : Option Value), m + n = 6 → 1 ≤ m → l.length = m → amRok R → CO R x y → DM J l → LPb l → Ex 44 31 [some (.ref 47), some (.ref a), some (.int 1), some (.int (nI m)), l4] [] (amSH L) I J R (fun v I' J' R' => I' = I ∧ SpP J R ((spN n (l.getD (m - 1) zP)).map (l ++ ·)) v J' R') := by
  intro n
  induction n with
  | zero =>
    intro m l J R x y l4 hm h1 hl hR hC hM hS
    refine LI3 e44_31 ?_
    refine Ki e44_32 kbipush_6 ?_
    refine CN_ge (a := m) (b := 6) e44_34 t44_34 rfl (by decide) (by omega) (by omega) (fun _ => ?_) (fun q => by omega)
    refine LI2 e44_121 ?_
    exact Rz e44_122 rt44 (by decide) (by
    rw [spN]
    exact ⟨rfl, FrP.rf, hR, RC.rf, ⟨x, y, hC⟩, Or.inl ⟨l, by simp, rfl, by omega, hM, hS⟩⟩)
  | succ n ih =>
    intro m l J R x y l4 hm h1 hl hR hC hM hS
    have hd := hM (m - 1) (by omega)
    have hdB := hS (m - 1) (by omega)
    have hderB : PB 4000000000000000000 (der (l.getD (m - 1) zP)) := (der_PB hdB).mono (by decide)
    refine LI3 e44_31 ?_
    refine Ki e44_32 kbipush_6 ?_
    refine CN_ge (a := m) (b := 6) e44_34 t44_34 rfl (by decide) (by omega) (by omega) (fun q => absurd q (by omega)) (fun _ => ?_)
    refine LI2 e44_37 ?_
    refine B_eq e44_38 t44_38 (fun q => absurd q (by decide)) (fun _ => ?_)
    refine LA0 e44_41 ?_
    refine Gr e44_42 (o47 L) (hR 47 0 48 rfl) f384 ?_
    refine LI3 e44_45 ?_
    refine ArN (k := m) e44_46 (o48 L) (by decide) rfl (by omega) (by decide) (dr hR m (by omega)) ?_
    refine SA4 e44_47 rfl ?_
    refine LA4 e44_49 ?_
    refine LA0 e44_51 ?_
    refine Gr e44_52 (o47 L) (hR 47 0 48 rfl) f384 ?_
    refine LI3 e44_55 ?_
    refine Ki e44_56 kiconst_1 ?_
    refine IsubN (a := m) (b := 1) e44_57 rfl (by decide) (by omega) ?_
    refine ArN (k := m - 1) e44_58 (o48 L) (by decide) rfl (by omega) (by decide) (dr hR (m - 1) (by omega)) ?_
    refine Cv1p e44_59 c44_8 (dp (L := L) hR m (by omega)).1 (Nat.le_of_ble_eq_true rfl) (Nat.le_of_ble_eq_true rfl) (p_copy (dp hR m (by omega)) (dp hR (m - 1) (by omega)) (by omega) hd) ?_
    rintro _ I1 J1 R1 ⟨rfl, hI1, hR1, hF1, hP1⟩
    subst hI1
    subst hR1
    refine LA4 e44_62 ?_
    refine Cv0p e44_64 c44_16 (dp (L := L) hR m (by omega)).1 (Nat.le_of_ble_eq_true rfl) (Nat.le_of_ble_eq_true rfl) (p_derive (dp hR m (by omega)) hP1) ?_
    rintro _ I2 J2 R2 ⟨rfl, hI2, hR2, hF2, hP2⟩
    subst hI2
    subst hR2
    refine LA4 e44_67 ?_
    refine Cv0 e44_69 c44_5 (dp (L := L) hR m (by omega)).1 (Nat.le_of_ble_eq_true rfl) (Nat.le_of_ble_eq_true rfl) (p_degree (dp hR m (by omega)) hP2 hderB) ?_
    refine B_ge e44_72 t44_72 (fun h72 => ?_) (fun h72 => ?_)
    · refine LA0 e44_85 ?_
      refine Gr e44_86 (o47 L) (hR 47 2 40 rfl) f386 ?_
      refine LA0 e44_89 ?_
      refine Gr e44_90 (o47 L) (hR 47 0 48 rfl) f384 ?_
      refine LI3 e44_93 ?_
      refine Ki e44_94 kiconst_1 ?_
      refine IsubN (a := m) (b := 1) e44_95 rfl (by decide) (by omega) ?_
      refine ArN (k := m - 1) e44_96 (o48 L) (by decide) rfl (by omega) (by decide) (dr hR (m - 1) (by omega)) ?_
      refine LA4 e44_97 ?_
      refine Cv2p e44_99 c44_26 (o40 L) (Nat.le_of_ble_eq_true rfl) (Nat.le_of_ble_eq_true rfl) (c_find (L := L) hR hC (dp hR (m - 1) (by omega)) (dp hR m (by omega)) ⟨by omega, by omega⟩ ⟨by omega, by omega⟩ ⟨by omega, by omega⟩ ((hd.fr hF1 (by omega)).fr hF2 (by omega)) hP2 (hdB.mono (by decide)) hderB) ?_
      rintro v I3 J3 R3 ⟨hI3, hF3, hR3, hRC, x3, y3, hC3, hD⟩
      subst hI3
      have h0 : ¬ sz (der (l.getD (m - 1) zP)) = 0 := fun z => absurd ((dI_neg (sz_le _)).mpr z) (Int32.not_lt.mpr h72)
      rcases hD with ⟨g, hg, hv, hG⟩ | ⟨hn, hv⟩
      · cases hv
        refine SI2 e44_102 rfl ?_
        refine LA4 e44_103 ?_
        refine LA0 e44_105 ?_
        refine Gr e44_106 (o47 L) (hR3 47 2 40 rfl) f386 ?_
        refine Cv0 e44_109 c44_25 (o40 L) (Nat.le_of_ble_eq_true rfl) (Nat.le_of_ble_eq_true rfl) (c_result (L := L) hC3) ?_
        refine Cv1p e44_112 c44_8 (dp (L := L) hR3 m (by omega)).1 (Nat.le_of_ble_eq_true rfl) (Nat.le_of_ble_eq_true rfl) (p_copy (dp hR3 m (by omega)) (hC3.px hR3) (by have := hC3.2.2; omega) hG) ?_
        rintro _ I4 J4 R4 ⟨rfl, hI4, hR4, hF4, hP4⟩
        subst hI4
        subst hR4
        refine IncN3 (m := m) e44_115 rfl ?_
        refine Go e44_118 t44_118 ?_
        refine (ih (m + 1) (l ++ [g]) J4 _ x3 y3 _ (by omega) (by omega) (by rw [List.length_append, List.length_singleton, hl]) hR3 hC3 (((((hM.fr hF1 (by omega)).fr hF2 (by omega)).fl hF3).fr hF4 (by omega)).snoc (by rw [hl]; exact hP4)) (hS.snoc (com_PB hg))).mono (fun v I' J' R' hp => ⟨hp.1, ?_⟩)
        have hg2 : (l ++ [g]).getD (m + 1 - 1) zP = g := by rw [Nat.add_sub_cancel, ← hl]; exact gd_r
        have hp2 := hp.2
        rw [hg2] at hp2
        have he : (spN (n + 1) (l.getD (m - 1) zP)).map (l ++ ·) = (spN n g).map ((l ++ [g]) ++ ·) := by
          rw [spN, if_neg h0, hg]
          dsimp only
          cases spN n g with
          | none => rfl
          | some t => simp
        rw [he]
        exact hp2.tr (((hF1.pp (by omega) (by omega)).tr (hF2.pp (by omega) (by omega))).tr (hF3.pp.tr (hF4.pp (by omega) (by omega)))) hRC
      · cases hv
        have hG := JP.any (J := J3) (x := x3 + 1)
        refine SI2 e44_102 rfl ?_
        refine LA4 e44_103 ?_
        refine LA0 e44_105 ?_
        refine Gr e44_106 (o47 L) (hR3 47 2 40 rfl) f386 ?_
        refine Cv0 e44_109 c44_25 (o40 L) (Nat.le_of_ble_eq_true rfl) (Nat.le_of_ble_eq_true rfl) (c_result (L := L) hC3) ?_
        refine Cv1p e44_112 c44_8 (dp (L := L) hR3 m (by omega)).1 (Nat.le_of_ble_eq_true rfl) (Nat.le_of_ble_eq_true rfl) (p_copy (dp hR3 m (by omega)) (hC3.px hR3) (by have := hC3.2.2; omega) hG) ?_
        rintro _ I4 J4 R4 ⟨rfl, hI4, hR4, hF4, hP4⟩
        subst hI4
        subst hR4
        refine IncN3 (m := m) e44_115 rfl ?_
        refine Go e44_118 t44_118 ?_
        refine LI3 e44_31 ?_
        refine Ki e44_32 kbipush_6 ?_
        refine CN_ge (a := (m + 1)) (b := 6) e44_34 t44_34 rfl (by decide) (by omega) (by omega) (fun h34 => ?_) (fun h34 => ?_)
        · refine LI2 e44_121 ?_
          exact Rz e44_122 rt44 (by decide) (by
          rw [spN, if_neg h0, hn]
          exact ⟨rfl, (((hF1.pp (by omega) (by omega)).tr (hF2.pp (by omega) (by omega))).tr (hF3.pp.tr (hF4.pp (by omega) (by omega)))), hR3, hRC, ⟨x3, y3, hC3⟩, Or.inr ⟨rfl, rfl⟩⟩)
        · refine LI2 e44_37 ?_
          refine B_eq e44_38 t44_38 (fun _ => ?_) (fun q => absurd (rfl) q)
          refine LI2 e44_121 ?_
          exact Rz e44_122 rt44 (by decide) (by
          rw [spN, if_neg h0, hn]
          exact ⟨rfl, (((hF1.pp (by omega) (by omega)).tr (hF2.pp (by omega) (by omega))).tr (hF3.pp.tr (hF4.pp (by omega) (by omega)))), hR3, hRC, ⟨x3, y3, hC3⟩, Or.inr ⟨rfl, rfl⟩⟩)
    · refine LA4 e44_75 ?_
      refine Ki e44_77 kiconst_0 ?_
      refine K1 e44_78 ?_
      refine Cv2p e44_79 c44_4 (dp (L := L) hR m (by omega)).1 (Nat.le_of_ble_eq_true rfl) (Nat.le_of_ble_eq_true rfl) (p_put (k := 0) (v := 1) (dp hR m (by omega)) hP2 (by omega)) ?_
      rintro _ I3 J3 R3 ⟨rfl, hI3, hR3, hF3, hP3⟩
      subst hI3
      subst hR3
      refine Go e44_82 t44_82 ?_
      refine IncN3 (m := m) e44_115 rfl ?_
      refine Go e44_118 t44_118 ?_
      have h0 : sz (der (l.getD (m - 1) zP)) = 0 := (dI_neg (sz_le _)).mp (Int32.not_le.mp h72)
      have hP3' : JP J3 (51 + 2 * m + 1) oneP := hP3.cg (fun k hk => by
        unfold pU oneP
        by_cases e : k = 0
        · rw [if_pos e, if_pos e]
        · rw [if_neg e, if_neg e]; exact sz_zero (by omega) hk)
      refine (ih (m + 1) (l ++ [oneP]) J3 _ x y _ (by omega) (by omega) (by rw [List.length_append, List.length_singleton, hl]) hR hC ((((hM.fr hF1 (by omega)).fr hF2 (by omega)).fr hF3 (by omega)).snoc (by rw [hl]; exact hP3')) (hS.snoc one_PB)).mono (fun v I' J' R' hp => ⟨hp.1, ?_⟩)
      have hg2 : (l ++ [oneP]).getD (m + 1 - 1) zP = oneP := by rw [Nat.add_sub_cancel, ← hl]; exact gd_r
      have hp2 := hp.2
      rw [hg2] at hp2
      have he : (spN (n + 1) (l.getD (m - 1) zP)).map (l ++ ·) = (spN n oneP).map ((l ++ [oneP]) ++ ·) := by
        rw [spN, if_pos h0]
        cases spN n oneP with
        | none => rfl
        | some t => simp
      rw [he]
      exact hp2.tr (((hF1.pp (by omega) (by omega)).tr (hF2.pp (by omega) (by omega))).tr (hF3.pp (by omega) (by omega))) RC.rf
set_option maxHeartbeats 2000000 in
theorem d_split (hR : amRok R) (hC : CO R x y) (ha : amPO (amSH L) R a) (ha51 : a ≠ 51) (hp : JP J (a + 1) p) (hB : PB 4000000000000000000 p) : Cl 44 [.ref 47, .ref a] (amSH L) I J R (fun v I' J' R' => I' = I ∧ SpP J R (spl p) v J' R') := by
  show Ex 44 0 [some (.ref 47), some (.ref a), none, none, none] [] (amSH L) I J R _
  refine LA0 e44_0 ?_
  refine Gr e44_1 (o47 L) (hR 47 0 48 rfl) f384 ?_
  refine Ki e44_4 kiconst_0 ?_
  refine ArN (k := 0) e44_5 (o48 L) (by decide) (by decide) (by omega) (by decide) (hR 48 0 51 rfl) ?_
  refine LA1 e44_6 ?_
  refine Cv1p e44_7 c44_8 (o51 L) (Nat.le_of_ble_eq_true rfl) (Nat.le_of_ble_eq_true rfl) (p_copy (po51 hR) ha ha51 hp) ?_
  rintro _ I1 J1 R1 ⟨rfl, hI1, hR1, hF1, hP1⟩
  subst hI1
  subst hR1
  refine LA0 e44_10 ?_
  refine Gr e44_11 (o47 L) (hR 47 0 48 rfl) f384 ?_
  refine Ki e44_14 kiconst_0 ?_
  refine ArN (k := 0) e44_15 (o48 L) (by decide) (by decide) (by omega) (by decide) (hR 48 0 51 rfl) ?_
  refine Cv0p e44_16 c44_17 (o51 L) (Nat.le_of_ble_eq_true rfl) (Nat.le_of_ble_eq_true rfl) (p_clean (po51 hR) hP1 hB) ?_
  rintro _ I2 J2 R2 ⟨rfl, hI2, hR2, hF2, hP2⟩
  subst hI2
  subst hR2
  refine SI2 e44_19 rfl ?_
  refine LA0 e44_20 ?_
  refine Gr e44_21 (o47 L) (hR 47 0 48 rfl) f384 ?_
  refine Ki e44_24 kiconst_0 ?_
  refine ArN (k := 0) e44_25 (o48 L) (by decide) (by decide) (by omega) (by decide) (hR 48 0 51 rfl) ?_
  refine Cv0p e44_26 c44_13 (o51 L) (Nat.le_of_ble_eq_true rfl) (Nat.le_of_ble_eq_true rfl) (p_headUp (po51 hR) hP2 (cln_PB hB)) ?_
  rintro _ I3 J3 R3 ⟨rfl, hI3, hR3, hF3, hP3⟩
  subst hI3
  subst hR3
  refine Ki e44_29 kiconst_1 ?_
  refine SI3 e44_30 rfl ?_
  by_cases e1 : fit p = true
  · rw [show bI (fit p) = 1 from by rw [e1]; rfl]
    have hc : spl p = (spN 5 (up (cln p))).map ([up (cln p)] ++ ·) := by unfold spl; rw [if_pos e1]
    rw [hc]
    exact (d_lp (L := L) 5 1 [up (cln p)] J3 _ x y none (by omega) (by omega) rfl hR hC (fun k hk => by
      have : k = 0 := by rw [List.length_singleton] at hk; omega
      subst this
      exact hP3) (fun k hk => by
      have : k = 0 := by rw [List.length_singleton] at hk; omega
      subst this
      exact up_PB (fit_PB e1))).mono (fun v I' J' R' hp => ⟨hp.1, hp.2.tr ((hF1.pp (by omega) (by omega)).tr ((hF2.pp (by omega) (by omega)).tr (hF3.pp (by omega) (by omega)))) RC.rf⟩)
  · rw [show bI (fit p) = 0 from by rw [Bool.not_eq_true] at e1; rw [e1]; rfl]
    refine LI3 e44_31 ?_
    refine Ki e44_32 kbipush_6 ?_
    refine CN_ge (a := 1) (b := 6) e44_34 t44_34 rfl (by decide) (by omega) (by omega) (fun q => absurd q (by omega)) (fun _ => ?_)
    refine LI2 e44_37 ?_
    refine B_eq e44_38 t44_38 (fun _ => ?_) (fun q => absurd (rfl) q)
    refine LI2 e44_121 ?_
    exact Rz e44_122 rt44 (by decide) (⟨rfl, ((hF1.pp (by omega) (by omega)).tr ((hF2.pp (by omega) (by omega)).tr (hF3.pp (by omega) (by omega)))), hR, RC.rf, ⟨x, y, hC⟩, Or.inr ⟨by unfold spl; rw [if_neg e1], rfl⟩⟩)
end SPLIT
