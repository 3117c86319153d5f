/-! chains: how they are built (printed by wip/whole/t26.py) -/
def ng (p : Po) : Po := fun k => -p k
theorem sz_ng {p : Po} : sz (ng p) = sz p := by
  refine sz_of (sz_le p) (fun k g1 g2 => by unfold ng; rw [sz_zero g1 g2]; rfl) ?_
  rcases Nat.eq_zero_or_pos (sz p) with g | g
  · exact Or.inl g
  · have h := sz_head g
    refine Or.inr (fun z => h ?_)
    unfold ng at z
    omega
theorem ng_PB {B : Int} {p : Po} (h : PB B p) : PB B (ng p) := fun k hk => by
  obtain ⟨h1, h2⟩ := h k hk
  unfold ng
  exact ⟨by omega, by omega⟩
/-- what comes behind two members, the second of them first -/
def exN : Nat → Po → Po → Option (List Po)
  | 0, _, _ => some []
  | n + 1, a, b => if sz b = 0 then some [] else match rem a b with
    | none => none
    | some r => match exN n b (ng r) with
      | none => none
      | some t => some (b :: t)
theorem exN_more : ∀ {n m : Nat} {a b : Po}, sz b < n → sz b < m → exN n a b = exN m a b
  | 0, _, _, _, h, _ => absurd h (Nat.not_lt_zero _)
  | n + 1, 0, _, _, _, h => absurd h (Nat.not_lt_zero _)
  | n + 1, m + 1, a, b, h1, h2 => by
    rw [exN, exN]
    by_cases e : sz b = 0
    · rw [if_pos e, if_pos e]
    · rw [if_neg e, if_neg e]
      cases h : rem a b with
      | none => rfl
      | some r =>
        have h3 := rem_sz h (by omega)
        have h4 : sz (ng r) = sz r := sz_ng
        dsimp only
        rw [exN_more (n := n) (m := m) (by omega) (by omega)]
theorem gd_l {l m : List Po} {k : Nat} (h : k < l.length) : (l ++ m).getD k zP = l.getD k zP := by
  rw [List.getD_eq_getElem?_getD, List.getElem?_append_left h, ← List.getD_eq_getElem?_getD]
theorem gd_r {l : List Po} {b : Po} : (l ++ [b]).getD l.length zP = b := by simp
theorem CM.snoc {J : amJ} {h : Nat} {l : List Po} {b : Po} (hM : CM J h l) (hb : JP J (h + 4 + 2 * l.length + 1) b) : CM J h (l ++ [b]) := fun k hk => by
  rw [List.length_append, List.length_singleton] at hk
  by_cases e : k = l.length
  · subst e; rw [gd_r]; exact hb
  · rw [gd_l (by omega)]; exact hM k (by omega)
def LPb (l : List Po) : Prop := ∀ k, k < l.length → PB 1000000 (l.getD k zP)
theorem LPb.snoc {l : List Po} {b : Po} (hM : LPb l) (hb : PB 1000000 b) : LPb (l ++ [b]) := fun k hk => by
  rw [List.length_append, List.length_singleton] at hk
  by_cases e : k = l.length
  · subst e; rw [gd_r]; exact hb
  · rw [gd_l (by omega)]; exact hM k (by omega)
theorem LPb.lb {l : List Po} (h : LPb l) : LB l := fun k hk => (h k hk).mono (by decide)
/-- the chain's cells -/
def FrC (h : Nat) (J J' : amJ) : Prop := ∀ y, (y < h ∨ h + 24 ≤ y) → J' y = J y
theorem FrC.rf {h : Nat} {J : amJ} : FrC h J J := fun _ _ => rfl
theorem FrC.tr {h : Nat} {J J1 J2 : amJ} (h1 : FrC h J J1) (h2 : FrC h J1 J2) : FrC h J J2 := fun y hy => (h2 y hy).trans (h1 y hy)
theorem Fr.c {h x : Nat} {J J1 : amJ} (hf : Fr J J1 x) (h1 : h ≤ x) (h2 : x < h + 24) : FrC h J J1 := fun y hy => hf y (by omega)
theorem CM.fr {J J1 : amJ} {h x : Nat} {l : List Po} (hM : CM J h l) (hf : Fr J J1 x) (hx : h + 4 + 2 * l.length < x) : CM J1 h l := fun k hk => (hM k hk).fr hf (by omega)
def FrI (h : Nat) (I I' : amI) : Prop := ∀ y, y ≠ h → I' y = I y
theorem FrI.rf {h : Nat} {I : amI} : FrI h I I := fun _ _ => rfl
theorem FrI.tr {h : Nat} {I I1 I2 : amI} (h1 : FrI h I I1) (h2 : FrI h I1 I2) : FrI h I I2 := fun y hy => (h2 y hy).trans (h1 y hy)
theorem FrI.up {h k : Nat} {I I1 : amI} {v : Int32} (h1 : FrI h I I1) : FrI h I (amU I1 h k v) := fun y hy => by
  funext i
  rw [amU_ne hy, h1 y hy]
/-- the chain's object holds the list -/
def CI (I : amI) (J : amJ) (h : Nat) (l : List Po) : Prop := CM J h l ∧ LPb l ∧ 1 ≤ l.length ∧ l.length ≤ 9 ∧ I h 3 = nI l.length ∧ I h 4 = nI (tB l) ∧ I h 5 = nI (tU l)
/-- what extend() leaves, of a chain that was begun -/
def ExP (I : amI) (J : amJ) (h : Nat) (o : Option (List Po)) (v : Option Value) (I' : amI) (J' : amJ) : Prop := FrI h I I' ∧ FrC h J J' ∧ ((∃ t, o = some t ∧ v = some (.int 1) ∧ CI I' J' h t) ∨ (o = none ∧ v = some (.int 0)))
theorem ExP.tr {I I1 I' : amI} {J J1 J' : amJ} {h : Nat} {o : Option (List Po)} {v : Option Value} (hp : ExP I1 J1 h o v I' J') (h1 : FrI h I I1) (h2 : FrC h J J1) : ExP I J h o v I' J' := ⟨h1.tr hp.1, h2.tr hp.2.1, hp.2.2⟩
section BUILD
variable {L : Nat} {I : amI} {J : amJ} {R : amR} {Q : amQ} {a b c x y h : Nat} {p q : Po} {l : List Po}
set_option maxHeartbeats 2000000 in
theorem h_ext_end {f : Int32} (hf : f = 0 ∨ f = 1) (hh : CH h) (hR : amRok R) (hl : I h 3 = nI l.length) (hl1 : 1 ≤ l.length) (hl10 : l.length ≤ 10) (hM : CM J h l) (hB : LB l) (hQ : Q (some (.int f)) (amU (amU I h 4 (nI (tB l))) h 5 (nI (tU l))) J R) : Ex 31 116 [some (.ref h), some (.int f)] [] (amSH L) I J R Q := by
  refine LA0 e31_116 ?_
  refine LA0 e31_117 ?_
  refine Cv0 e31_118 c31_35 hh.o (Nat.le_of_ble_eq_true rfl) (Nat.le_of_ble_eq_true rfl) (h_below hh hR hl hl10 hM hB hl1) ?_
  refine Pi e31_121 hh.o f4 ?_
  refine LA0 e31_124 ?_
  refine LA0 e31_125 ?_
  refine Cv0 e31_126 c31_36 hh.o (Nat.le_of_ble_eq_true rfl) (Nat.le_of_ble_eq_true rfl) (h_above hh hR (by rw [amU_ni (by decide)]; exact hl) hl10 hM hB hl1) ?_
  refine Pi e31_129 hh.o f5 ?_
  refine LI1 e31_132 ?_
  exact Rz e31_133 rt31 hf (hQ)
set_option maxHeartbeats 2000000 in
theorem h_ext_lp (hh : CH h) (hR : amRok R) : ∀ (m n : Nat) (l : List Po) (b : Po) (I : amI) (J : amJ), sz b < m → l.length = n → 1 ≤ n → n + sz b ≤ 9 → I h 3 = nI n → CM J h l → LPb l → JP J (h + 4 + 2 * n + 1) b → PB 1000000 b → Ex 31 7 [some (.ref h), some (.int 1)] [] (amSH L) I J R (fun v I' J' R' => R' = R ∧ ExP I J h ((exN m (l.getD (n - 1) zP) b).map (l ++ ·)) v I' J') := by
  intro m
  induction m with
  | zero => intro n l b I J h; omega
  | succ m ih =>
    intro n l b I J hm hn h1 h9 hl hM hS hb hB
    have hB4 : PB 4000000000000000000 b := hB.mono (by decide)
    have haS := hS (n - 1) (by omega)
    refine LI1 e31_7 ?_
    refine B_eq e31_8 t31_8 (fun q => absurd q (by decide)) (fun _ => ?_)
    refine LA0 e31_11 ?_
    refine Gi e31_12 hh.o (amGi_of f3 (by decide)) ?_
    rw [hl]
    refine Ki e31_15 kbipush_10 ?_
    refine CN_ge (a := n) (b := 10) e31_17 t31_17 rfl (by decide) (by omega) (by omega) (fun q => absurd q (by omega)) (fun _ => ?_)
    refine LA0 e31_20 ?_
    refine Gr e31_21 hh.o (hh.r0 hR) f0 ?_
    refine LA0 e31_24 ?_
    refine Gi e31_25 hh.o (amGi_of f3 (by decide)) ?_
    rw [hl]
    refine ArN (k := n) e31_28 hh.oa (by decide) rfl (by omega) (by decide) (hh.rm hR n (by omega)) ?_
    refine Cv0 e31_29 c31_5 (hh.pm (L := L) hR n (by omega)).1 (Nat.le_of_ble_eq_true rfl) (Nat.le_of_ble_eq_true rfl) (p_degree (hh.pm hR n (by omega)) hb hB4) ?_
    refine B_lt e31_32 t31_32 (fun h32 => ?_) (fun h32 => ?_)
    · have he : (exN (m + 1) (l.getD (n - 1) zP) b).map (l ++ ·) = some l := by
        rw [exN, if_pos ((dI_neg (sz_le b)).mp h32)]
        simp
      rw [he]
      exact h_ext_end (l := l) (Or.inr rfl) hh hR (by rw [hn]; exact hl) (by omega) (by omega) hM hS.lb ⟨rfl, FrI.rf.up.up, FrC.rf, Or.inl ⟨l, rfl, rfl, hM, hS, by omega, by omega, by rw [amU_ni (by decide), amU_ni (by decide), hn]; exact hl, by rw [amU_ni (by decide), amU_same], amU_same⟩⟩
    · have h0 : ¬ sz b = 0 := fun z => h32 ((dI_neg (sz_le b)).mpr z)
      refine LA0 e31_35 ?_
      refine Dup e31_36 rfl ?_
      refine Gi e31_37 hh.o (amGi_of f3 (by decide)) ?_
      rw [hl]
      refine Ki e31_40 kiconst_1 ?_
      refine IaddN (a := n) (b := 1) e31_41 rfl (by decide) ?_
      refine Pi e31_42 hh.o f3 ?_
      refine LA0 e31_45 ?_
      refine Gi e31_46 hh.o (amGi_of f3 (by decide)) ?_
      rw [amU_same]
      refine Ki e31_49 kbipush_10 ?_
      refine CN_ge (a := (n + 1)) (b := 10) e31_51 t31_51 rfl (by decide) (by omega) (by omega) (fun q => absurd q (by omega)) (fun _ => ?_)
      refine LA0 e31_54 ?_
      refine Gr e31_55 hh.o (hh.r0 hR) f0 ?_
      refine LA0 e31_58 ?_
      refine Gi e31_59 hh.o (amGi_of f3 (by decide)) ?_
      rw [amU_same]
      refine ArN (k := n + 1) e31_62 hh.oa (by decide) rfl (by omega) (by decide) (hh.rm hR (n + 1) (by omega)) ?_
      refine LA0 e31_63 ?_
      refine Gr e31_64 hh.o (hh.r0 hR) f0 ?_
      refine LA0 e31_67 ?_
      refine Gi e31_68 hh.o (amGi_of f3 (by decide)) ?_
      rw [amU_same]
      refine Ki e31_71 kiconst_2 ?_
      refine IsubN (a := (n + 1)) (b := 2) e31_72 rfl (by decide) (by omega) ?_
      refine ArN (k := n - 1) e31_73 hh.oa (by decide) (by rw [show n + 1 - 2 = n - 1 from by omega]) (by omega) (by decide) (hh.rm hR (n - 1) (by omega)) ?_
      refine Cv1p e31_74 c31_8 (hh.pm (L := L) hR (n + 1) (by omega)).1 (Nat.le_of_ble_eq_true rfl) (Nat.le_of_ble_eq_true rfl) (p_copy (hh.pm hR (n + 1) (by omega)) (hh.pm hR (n - 1) (by omega)) (by omega) (hM (n - 1) (by omega))) ?_
      rintro _ I1 J1 R1 ⟨rfl, hI1, rfl, hF1, hP1⟩
      subst hI1
      refine LA0 e31_77 ?_
      refine Gr e31_78 hh.o (hh.r0 hR) f0 ?_
      refine LA0 e31_81 ?_
      refine Gi e31_82 hh.o (amGi_of f3 (by decide)) ?_
      rw [amU_same]
      refine ArN (k := n + 1) e31_85 hh.oa (by decide) rfl (by omega) (by decide) (hh.rm hR (n + 1) (by omega)) ?_
      refine LA0 e31_86 ?_
      refine Gr e31_87 hh.o (hh.r0 hR) f0 ?_
      refine LA0 e31_90 ?_
      refine Gi e31_91 hh.o (amGi_of f3 (by decide)) ?_
      rw [amU_same]
      refine Ki e31_94 kiconst_1 ?_
      refine IsubN (a := (n + 1)) (b := 1) e31_95 rfl (by decide) (by omega) ?_
      refine ArN (k := n) e31_96 hh.oa (by decide) (by rw [Nat.add_sub_cancel]) (by omega) (by decide) (hh.rm hR n (by omega)) ?_
      refine Cv1p e31_97 c31_18 (hh.pm (L := L) hR (n + 1) (by omega)).1 (Nat.le_of_ble_eq_true rfl) (Nat.le_of_ble_eq_true rfl) (p_reduce (hh.pm hR (n + 1) (by omega)) (hh.pm hR n (by omega)) (by omega) hP1 (haS.mono (by decide)) (hb.fr hF1 (by omega)) hB (by omega)) ?_
      rintro v I2 J2 R2 ⟨hI2, rfl, hF2, hD⟩
      subst hI2
      have hR2 := hR
      rcases hD with ⟨r, hr, rfl, hJ⟩ | ⟨hr, rfl, r, hrB, hJ⟩
      · refine SI1 e31_100 rfl ?_
        refine LA0 e31_101 ?_
        refine Gr e31_102 hh.o (hh.r0 hR) f0 ?_
        refine LA0 e31_105 ?_
        refine Gi e31_106 hh.o (amGi_of f3 (by decide)) ?_
        rw [amU_same]
        refine ArN (k := n + 1) e31_109 hh.oa (by decide) rfl (by omega) (by decide) (hh.rm hR (n + 1) (by omega)) ?_
        refine Cv0p e31_110 c31_12 (hh.pm (L := L) hR (n + 1) (by omega)).1 (Nat.le_of_ble_eq_true rfl) (Nat.le_of_ble_eq_true rfl) (p_turn (hh.pm hR2 (n + 1) (by omega)) hJ) ?_
        rintro _ I3 J3 R3 ⟨rfl, rfl, rfl, hF3, hJ3⟩
        refine Go e31_113 t31_113 ?_
        refine (ih (n + 1) (l ++ [b]) (ng r) _ _ (by have := rem_sz hr (by omega); rw [sz_ng]; omega) (by rw [List.length_append, List.length_singleton, hn]) (by omega) (by have := rem_sz hr (by omega); rw [sz_ng]; omega) amU_same ((hM.snoc (by rw [hn]; exact hb)).fr hF1 (by rw [List.length_append, List.length_singleton]; omega) |>.fr hF2 (by rw [List.length_append, List.length_singleton]; omega) |>.fr hF3 (by rw [List.length_append, List.length_singleton]; omega)) (hS.snoc hB) hJ3 (ng_PB (rem_PB hr))).mono (fun v I' J' R' hp => ⟨hp.1, ?_⟩)
        have hg : (l ++ [b]).getD (n + 1 - 1) zP = b := by rw [Nat.add_sub_cancel, ← hn]; exact gd_r
        have hp2 := hp.2
        rw [hg] at hp2
        have he : (exN (m + 1) (l.getD (n - 1) zP) b).map (l ++ ·) = (exN m b (ng r)).map ((l ++ [b]) ++ ·) := by
          rw [exN, if_neg h0, hr]
          dsimp only
          cases exN m b (ng r) with
          | none => rfl
          | some t => simp
        rw [he]
        exact hp2.tr FrI.rf.up ((hF1.c (by omega) (by omega)).tr ((hF2.c (by omega) (by omega)).tr (hF3.c (by omega) (by omega))))
      · refine SI1 e31_100 rfl ?_
        refine LA0 e31_101 ?_
        refine Gr e31_102 hh.o (hh.r0 hR) f0 ?_
        refine LA0 e31_105 ?_
        refine Gi e31_106 hh.o (amGi_of f3 (by decide)) ?_
        rw [amU_same]
        refine ArN (k := n + 1) e31_109 hh.oa (by decide) rfl (by omega) (by decide) (hh.rm hR (n + 1) (by omega)) ?_
        refine Cv0p e31_110 c31_12 (hh.pm (L := L) hR (n + 1) (by omega)).1 (Nat.le_of_ble_eq_true rfl) (Nat.le_of_ble_eq_true rfl) (p_turn (hh.pm hR2 (n + 1) (by omega)) hJ) ?_
        rintro _ I3 J3 R3 ⟨rfl, rfl, rfl, hF3, hJ3⟩
        refine Go e31_113 t31_113 ?_
        have he : (exN (m + 1) (l.getD (n - 1) zP) b).map (l ++ ·) = none := by
          rw [exN, if_neg h0, hr]; rfl
        rw [he]
        refine LI1 e31_7 ?_
        refine B_eq e31_8 t31_8 (fun _ => ?_) (fun q => absurd (rfl) q)
        exact h_ext_end (l := l ++ [b]) (Or.inl rfl) hh hR2 (by rw [amU_same, List.length_append, List.length_singleton, hn]) (by rw [List.length_append, List.length_singleton]; omega) (by rw [List.length_append, List.length_singleton]; omega) ((hM.snoc (by rw [hn]; exact hb)).fr hF1 (by rw [List.length_append, List.length_singleton]; omega) |>.fr hF2 (by rw [List.length_append, List.length_singleton]; omega) |>.fr hF3 (by rw [List.length_append, List.length_singleton]; omega)) (hS.snoc hB).lb ⟨rfl, FrI.rf.up.up.up, ((hF1.c (by omega) (by omega)).tr ((hF2.c (by omega) (by omega)).tr (hF3.c (by omega) (by omega)))), Or.inr ⟨rfl, rfl⟩⟩
end BUILD
