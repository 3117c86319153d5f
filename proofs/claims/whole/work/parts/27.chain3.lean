/-! chains: build and what they answer (printed by wip/whole/t27.py) -/
theorem cln_sz {p : Po} {m : Nat} (h : ∀ k, m ≤ k → k < 9 → p k = 0) : sz (cln p) ≤ m := sz_lt (fun k g1 g2 => by
  unfold cln
  rw [h k g1 g2, Int.zero_tdiv])
theorem der_sz {p : Po} : sz (cln (der p)) ≤ 8 := cln_sz (fun k g1 g2 => by unfold der; rw [if_neg (by omega)])
/-- CHAIN -/
noncomputable def chn (p : Po) : Option (List Po) := match fre p with
  | none => none
  | some f => if fit (der f) = true then (exN 10 f (cln (der f))).map ([f] ++ ·) else none
/-- the chain of SUM of SIGNS -/
noncomputable def chs (p q : Po) : Option (List Po) := match fre p with
  | none => none
  | some f => match rem (cv (der f) q) f with
    | none => none
    | some r => (exN 10 f r).map ([f] ++ ·)
/-- all that a build may change -/
def FrB (h : Nat) (J J' : amJ) : Prop := ∀ y, y ≠ 42 → y ≠ 44 → y ≠ 46 → (y < h ∨ h + 24 ≤ y) → J' y = J y
theorem FrB.rf {h : Nat} {J : amJ} : FrB h J J := fun _ _ _ _ _ => rfl
theorem FrB.tr {h : Nat} {J J1 J2 : amJ} (h1 : FrB h J J1) (h2 : FrB h J1 J2) : FrB h J J2 := fun y a b c hy => (h2 y a b c hy).trans (h1 y a b c hy)
theorem FrC.b {h : Nat} {J J1 : amJ} (hf : FrC h J J1) : FrB h J J1 := fun y _ _ _ hy => hf y hy
theorem FrL.b {h b : Nat} {J J1 : amJ} (hf : FrL [42, 44, 46, b + 1] J J1) (h1 : h ≤ b + 1) (h2 : b + 1 < h + 24) : FrB h J J1 := fun y g1 g2 g3 hy => hf y (by simp; omega)
/-- what a build leaves -/
def BuP (I : amI) (J : amJ) (R : amR) (h : Nat) (o : Option (List Po)) (v : Option Value) (I' : amI) (J' : amJ) (R' : amR) : Prop := FrI h I I' ∧ FrB h J J' ∧ amRok R' ∧ RC R R' ∧ (∃ x y, CO R' x y) ∧ ((∃ t, o = some t ∧ v = some (.int 1) ∧ CI I' J' h t) ∨ (o = none ∧ v = some (.int 0)))
theorem cvN_b {p q : Po} {k : Nat} {B C : Nat} (hp : ∀ k, k < 9 → (p k).natAbs ≤ B) (hq : ∀ k, k < 9 → (q k).natAbs ≤ C) (hk : k < 9) : ∀ n, n ≤ 9 → (cvN p q k n).natAbs ≤ n * (B * C)
  | 0, _ => by rw [cvN]; simp
  | n + 1, hn => by
    rw [cvN, Nat.succ_mul]
    have h1 := cvN_b hp hq hk n (by omega)
    by_cases e : n ≤ k
    · rw [if_pos e]
      have h2 := mul_b (hp n (by omega)) (hq (k - n) (by omega))
      omega
    · rw [if_neg e]; omega
theorem cv_PB {p q : Po} (hp : PB 8000000 p) (hq : PB 1000 q) : PB 4000000000000000000 (cv p q) := fun k hk => by
  have h := cvN_b (p := p) (q := q) (k := k) (B := 8000000) (C := 1000) (fun k hk => by obtain ⟨h1, h2⟩ := hp k hk; omega) (fun k hk => by obtain ⟨h1, h2⟩ := hq k hk; omega) hk 9 (by omega)
  unfold cv
  exact ⟨by omega, by omega⟩
section BUILD2
variable {L : Nat} {I : amI} {J : amJ} {R : amR} {Q : amQ} {a b c x y h : Nat} {p q f : Po} {l : List Po}
set_option maxHeartbeats 2000000 in
theorem h_extend (hh : CH h) (hR : amRok R) (hf : JP J (h + 4 + 2 * 0 + 1) f) (hb : JP J (h + 4 + 2 * 1 + 1) q) (hfB : PB 1000000 f) (hbB : PB 1000000 q) (hz : sz q ≤ 8) : Cl 31 [.ref h] (amSH L) I J R (fun v I' J' R' => R' = R ∧ ExP I J h ((exN 10 f q).map ([f] ++ ·)) v I' J') := by
  show Ex 31 0 [some (.ref h), none] [] (amSH L) I J R _
  refine LA0 e31_0 ?_
  refine Ki e31_1 kiconst_1 ?_
  refine Pi e31_2 hh.o f3 ?_
  refine Ki e31_5 kiconst_1 ?_
  refine SI1 e31_6 rfl ?_
  refine (h_ext_lp hh hR 10 1 [f] q (amU I h 3 1) J (by omega) rfl (by omega) (by omega) amU_same ?_ ?_ hb hbB).mono (fun v I' J' R' hp => ⟨hp.1, hp.2.tr FrI.rf.up FrC.rf⟩)
  · intro k hk
    have : k = 0 := by rw [List.length_singleton] at hk; omega
    subst this
    exact hf
  · intro k hk
    have : k = 0 := by rw [List.length_singleton] at hk; omega
    subst this
    exact hfB
set_option maxHeartbeats 2000000 in
theorem h_build (hh : CH h) (hR : amRok R) (hC : CO R x y) (ha : amPO (amSH L) R a) (hah : a ≠ h + 4) (hp : JP J (a + 1) p) (hpB : PB 4000000000000000000 p) (hok : FrOk p) : Cl 29 [.ref h, .ref a] (amSH L) I J R (fun v I' J' R' => BuP I J R h (chn p) v I' J' R') := by
  have hge := hh.ge
  have hnn : h ≠ 40 := by omega
  show Ex 29 0 [some (.ref h), some (.ref a)] [] (amSH L) I J R _
  refine LA0 e29_0 ?_
  refine Ki e29_1 kiconst_0 ?_
  refine Pi e29_2 hh.o f3 ?_
  refine LA0 e29_5 ?_
  refine Gr e29_6 hh.o (hh.r2 hR) f2 ?_
  refine LA1 e29_9 ?_
  refine LA0 e29_10 ?_
  refine Gr e29_11 hh.o (hh.r0 hR) f0 ?_
  refine Ki e29_14 kiconst_0 ?_
  refine ArN (k := 0) e29_15 hh.oa (by decide) (by decide) (by omega) (by decide) (hh.rm hR 0 (by omega)) ?_
  refine Cv2p e29_16 c29_27 (o40 L) (Nat.le_of_ble_eq_true rfl) (Nat.le_of_ble_eq_true rfl) (c_free (L := L) hR hC ha (hh.pm hR 0 (by omega)) (by omega) (by omega) (by omega) (by omega) hp hpB hok) ?_
  rintro v I1 J1 R1 ⟨hI1, hF1, hR1, hRC, hC1, hD⟩
  subst hI1
  rcases hD with ⟨f, hf, hv, hJ⟩ | ⟨hn, hv⟩
  · cases hv
    refine B_ne e29_19 t29_19 (fun _ => ?_) (fun q => absurd (by decide) q)
    refine LA0 e29_24 ?_
    refine Gr e29_25 hh.o (hh.r0 hR1) f0 ?_
    refine Ki e29_28 kiconst_1 ?_
    refine ArN (k := 1) e29_29 hh.oa (by decide) (by decide) (by omega) (by decide) (hh.rm hR1 1 (by omega)) ?_
    refine LA0 e29_30 ?_
    refine Gr e29_31 hh.o (hh.r0 hR1) f0 ?_
    refine Ki e29_34 kiconst_0 ?_
    refine ArN (k := 0) e29_35 hh.oa (by decide) (by decide) (by omega) (by decide) (hh.rm hR1 0 (by omega)) ?_
    refine Cv1p e29_36 c29_8 (hh.pm (L := L) hR1 1 (by omega)).1 (Nat.le_of_ble_eq_true rfl) (Nat.le_of_ble_eq_true rfl) (p_copy (hh.pm hR1 1 (by omega)) (hh.pm hR1 0 (by omega)) (by omega) hJ) ?_
    rintro _ I2 J2 R2 ⟨rfl, hI2, hR2, hF2, hP2⟩
    subst hI2
    subst hR2
    refine LA0 e29_39 ?_
    refine Gr e29_40 hh.o (hh.r0 hR1) f0 ?_
    refine Ki e29_43 kiconst_1 ?_
    refine ArN (k := 1) e29_44 hh.oa (by decide) (by decide) (by omega) (by decide) (hh.rm hR1 1 (by omega)) ?_
    refine Cv0p e29_45 c29_16 (hh.pm (L := L) hR1 1 (by omega)).1 (Nat.le_of_ble_eq_true rfl) (Nat.le_of_ble_eq_true rfl) (p_derive (hh.pm hR1 1 (by omega)) hP2) ?_
    rintro _ I3 J3 R3 ⟨rfl, hI3, hR3, hF3, hP3⟩
    subst hI3
    subst hR3
    refine LA0 e29_48 ?_
    refine Gr e29_49 hh.o (hh.r0 hR1) f0 ?_
    refine Ki e29_52 kiconst_1 ?_
    refine ArN (k := 1) e29_53 hh.oa (by decide) (by decide) (by omega) (by decide) (hh.rm hR1 1 (by omega)) ?_
    refine Cv0p e29_54 c29_17 (hh.pm (L := L) hR1 1 (by omega)).1 (Nat.le_of_ble_eq_true rfl) (Nat.le_of_ble_eq_true rfl) (p_clean (hh.pm hR1 1 (by omega)) hP3 ((der_PB (fre_PB hf)).mono (by decide))) ?_
    rintro _ I4 J4 R4 ⟨rfl, hI4, hR4, hF4, hP4⟩
    subst hI4
    subst hR4
    by_cases e1 : fit (der f) = true
    · rw [show bI (fit (der f)) = 1 from by rw [e1]; rfl]
      refine B_eq e29_57 t29_57 (fun q => absurd q (by decide)) (fun _ => ?_)
      refine LA0 e29_60 ?_
      refine Cv0p e29_61 c29_31 hh.o (Nat.le_of_ble_eq_true rfl) (Nat.le_of_ble_eq_true rfl) (h_extend (f := f) (q := cln (der f)) hh hR1 (((hJ.fr hF2 (by omega)).fr hF3 (by omega)).fr hF4 (by omega)) hP4 (fre_PB hf) (fit_PB e1) der_sz) ?_
      rintro v I5 J5 R5 ⟨hR5, hI5, hF5, hD⟩
      subst hR5
      have hc : chn p = (exN 10 f (cln (der f))).map ([f] ++ ·) := by unfold chn; rw [hf]; dsimp only; rw [if_pos e1]
      rw [hc]
      rcases hD with ⟨t, ht, hv, hCI⟩ | ⟨hn, hv⟩
      · cases hv
        refine B_eq e29_64 t29_64 (fun q => absurd q (by decide)) (fun _ => ?_)
        refine Ki e29_67 kiconst_1 ?_
        refine Go e29_68 t29_68 ?_
        exact Rz e29_72 rt29 (by decide) (⟨FrI.rf.up.tr hI5, ((((hF1.b (by omega) (by omega)).tr (hF2.c (by omega) (by omega)).b).tr (hF3.c (by omega) (by omega)).b).tr (hF4.c (by omega) (by omega)).b).tr hF5.b, hR1, hRC, hC1, Or.inl ⟨t, ht, rfl, hCI⟩⟩)
      · cases hv
        refine B_eq e29_64 t29_64 (fun _ => ?_) (fun q => absurd (rfl) q)
        refine Ki e29_71 kiconst_0 ?_
        exact Rz e29_72 rt29 (by decide) (⟨FrI.rf.up.tr hI5, ((((hF1.b (by omega) (by omega)).tr (hF2.c (by omega) (by omega)).b).tr (hF3.c (by omega) (by omega)).b).tr (hF4.c (by omega) (by omega)).b).tr hF5.b, hR1, hRC, hC1, Or.inr ⟨hn, rfl⟩⟩)
    · rw [show bI (fit (der f)) = 0 from by rw [Bool.not_eq_true] at e1; rw [e1]; rfl]
      refine B_eq e29_57 t29_57 (fun _ => ?_) (fun q => absurd (rfl) q)
      refine Ki e29_71 kiconst_0 ?_
      exact Rz e29_72 rt29 (by decide) (⟨FrI.rf.up, ((((hF1.b (by omega) (by omega)).tr (hF2.c (by omega) (by omega)).b).tr (hF3.c (by omega) (by omega)).b).tr (hF4.c (by omega) (by omega)).b), hR1, hRC, hC1, Or.inr ⟨by unfold chn; rw [hf]; dsimp only; rw [if_neg e1], rfl⟩⟩)
  · cases hv
    refine B_ne e29_19 t29_19 (fun q => absurd rfl q) (fun _ => ?_)
    refine Ki e29_22 kiconst_0 ?_
    exact Rz e29_23 rt29 (by decide) (⟨FrI.rf.up, hF1.b (by omega) (by omega), hR1, hRC, hC1, Or.inr ⟨by unfold chn; rw [hn], rfl⟩⟩)
end BUILD2
