/-! PART (printed by wip/whole/t35.py) -/
/-- PART m of what was split into l -/
noncomputable def pfm (l : List Po) (m : Nat) : Option Po :=
  if fit (quo (l.getD (m - 1) zP) (l.getD m zP)) = true ∧ fit (quo (l.getD m zP) (l.getD (m + 1) zP)) = true then
    if fit (quo (cln (quo (l.getD (m - 1) zP) (l.getD m zP))) (cln (quo (l.getD m zP) (l.getD (m + 1) zP)))) = true then
      some (cln (quo (cln (quo (l.getD (m - 1) zP) (l.getD m zP))) (cln (quo (l.getD m zP) (l.getD (m + 1) zP)))))
    else none
  else none
/-- the quotients are there -/
def PfOk (l : List Po) (m : Nat) : Prop := (0 < sz (l.getD m zP) ∧ ∃ s, Dv (l.getD (m - 1) zP) (l.getD m zP) s) ∧ (0 < sz (l.getD (m + 1) zP) ∧ ∃ s, Dv (l.getD m zP) (l.getD (m + 1) zP) s) ∧ (fit (quo (l.getD (m - 1) zP) (l.getD m zP)) = true → fit (quo (l.getD m zP) (l.getD (m + 1) zP)) = true → 0 < sz (cln (quo (l.getD m zP) (l.getD (m + 1) zP))) ∧ ∃ s, Dv (cln (quo (l.getD (m - 1) zP) (l.getD m zP))) (cln (quo (l.getD m zP) (l.getD (m + 1) zP))) s)
section FORM
variable {L : Nat} {I : amI} {J : amJ} {R : amR} {Q : amQ} {a b c m k : Nat} {p q f : Po} {l : List Po}
set_option maxHeartbeats 2000000 in
theorem d_rep (hR : amRok R) (hk : k < 6) : Rv 45 [.ref 47, .int (nI k)] (amSH L) I J R (.ref (51 + 2 * k)) := by
  intro Q hQ
  show Ex 45 0 [some (.ref 47), some (.int (nI k))] [] (amSH L) I J R _
  refine LI1 e45_0 ?_
  refine B_lt e45_1 t45_1 (fun q => absurd q (nI_pos (by omega))) (fun _ => ?_)
  refine LI1 e45_4 ?_
  refine Ki e45_5 kbipush_6 ?_
  refine CN_ge (a := k) (b := 6) e45_7 t45_7 rfl (by decide) (by omega) (by omega) (fun q => absurd q (by omega)) (fun _ => ?_)
  refine LA0 e45_10 ?_
  refine Gr e45_11 (o47 L) (hR 47 0 48 rfl) f384 ?_
  refine LI1 e45_14 ?_
  refine ArN (k := k) e45_15 (o48 L) (by decide) rfl (by omega) (by decide) (dr hR k (by omega)) ?_
  refine Go e45_16 t45_16 ?_
  exact Ra e45_25 rt45 (hQ)
set_option maxHeartbeats 2000000 in
theorem d_form (hR : amRok R) (ha : amPO (amSH L) R a) (ha1 : a + 1 < 49) (hl : l.length = 6) (hM : DM J l) (hB : LPb l) (hm1 : 1 ≤ m) (hm4 : m ≤ 4) (hok : PfOk l m) : Cl 46 [.ref 47, .int (nI m), .ref a] (amSH L) I J R (fun v I' J' R' => I' = I ∧ R' = R ∧ FrL [50, a + 1] J J' ∧ ((∃ g, pfm l m = some g ∧ v = some (.int 1) ∧ JP J' (a + 1) g) ∨ (pfm l m = none ∧ v = some (.int 0)))) := by
  obtain ⟨⟨hz1, hs1⟩, ⟨hz2, hs2⟩, hok3⟩ := hok
  have hd1 := quo_dv hs1
  have hd2 := quo_dv hs2
  show Ex 46 0 [some (.ref 47), some (.int (nI m)), some (.ref a)] [] (amSH L) I J R _
  refine LA2 e46_0 ?_
  refine LA0 e46_1 ?_
  refine LI1 e46_2 ?_
  refine Ki e46_3 kiconst_1 ?_
  refine IsubN (a := m) (b := 1) e46_4 rfl (by decide) (by omega) ?_
  refine Cv1 e46_5 c46_45 (o47 L) (Nat.le_of_ble_eq_true rfl) (Nat.le_of_ble_eq_true rfl) (d_rep hR (k := (m - 1)) (by omega)) ?_
  refine Cv1p e46_8 c46_8 ha.1 (Nat.le_of_ble_eq_true rfl) (Nat.le_of_ble_eq_true rfl) (p_copy ha (dp hR (m - 1) (by omega)) (by omega) (hM (m - 1) (by omega))) ?_
  rintro _ I1 J1 R1 ⟨rfl, hI1, hR1, hF1, hP1⟩
  subst hI1
  subst hR1
  refine LA2 e46_11 ?_
  refine LA0 e46_12 ?_
  refine LI1 e46_13 ?_
  refine Cv1 e46_14 c46_45 (o47 L) (Nat.le_of_ble_eq_true rfl) (Nat.le_of_ble_eq_true rfl) (d_rep hR (k := m) (by omega)) ?_
  refine Cv1p e46_17 c46_19 ha.1 (Nat.le_of_ble_eq_true rfl) (Nat.le_of_ble_eq_true rfl) (p_divide (l := sz (l.getD m zP) - 1) ha (dp hR m (by omega)) (by omega) hP1 ((hM m (by omega)).fr hF1 (by omega)) ((hB m (by omega)).mono (by decide)) (by omega) hd1.1 hd1.2.1 hd1.2.2.2) ?_
  rintro _ I2 J2 R2 ⟨rfl, hI2, hR2, hF2, hP2⟩
  subst hI2
  subst hR2
  refine LA0 e46_20 ?_
  refine Gr e46_21 (o47 L) (hR 47 1 49 rfl) f385 ?_
  refine LA0 e46_24 ?_
  refine LI1 e46_25 ?_
  refine Cv1 e46_26 c46_45 (o47 L) (Nat.le_of_ble_eq_true rfl) (Nat.le_of_ble_eq_true rfl) (d_rep hR (k := m) (by omega)) ?_
  refine Cv1p e46_29 c46_8 (o49 L) (Nat.le_of_ble_eq_true rfl) (Nat.le_of_ble_eq_true rfl) (p_copy (po49 hR) (dp hR m (by omega)) (by omega) (((hM m (by omega)).fr hF1 (by omega)).fr hF2 (by omega))) ?_
  rintro _ I3 J3 R3 ⟨rfl, hI3, hR3, hF3, hP3⟩
  subst hI3
  subst hR3
  refine LA0 e46_32 ?_
  refine Gr e46_33 (o47 L) (hR 47 1 49 rfl) f385 ?_
  refine LA0 e46_36 ?_
  refine LI1 e46_37 ?_
  refine Ki e46_38 kiconst_1 ?_
  refine IaddN (a := m) (b := 1) e46_39 rfl (by decide) ?_
  refine Cv1 e46_40 c46_45 (o47 L) (Nat.le_of_ble_eq_true rfl) (Nat.le_of_ble_eq_true rfl) (d_rep hR (k := (m + 1)) (by omega)) ?_
  refine Cv1p e46_43 c46_19 (o49 L) (Nat.le_of_ble_eq_true rfl) (Nat.le_of_ble_eq_true rfl) (p_divide (l := sz (l.getD (m + 1) zP) - 1) (po49 hR) (dp hR (m + 1) (by omega)) (by omega) hP3 ((((hM (m + 1) (by omega)).fr hF1 (by omega)).fr hF2 (by omega)).fr hF3 (by omega)) ((hB (m + 1) (by omega)).mono (by decide)) (by omega) hd2.1 hd2.2.1 hd2.2.2.2) ?_
  rintro _ I4 J4 R4 ⟨rfl, hI4, hR4, hF4, hP4⟩
  subst hI4
  subst hR4
  refine LA2 e46_46 ?_
  refine Cv0p e46_47 c46_17 ha.1 (Nat.le_of_ble_eq_true rfl) (Nat.le_of_ble_eq_true rfl) (p_clean ha ((hP2.fr hF3 (by omega)).fr hF4 (by omega)) hd1.2.2.1) ?_
  rintro _ I5 J5 R5 ⟨rfl, hI5, hR5, hF5, hP5⟩
  subst hI5
  subst hR5
  by_cases e1 : fit (quo (l.getD (m - 1) zP) (l.getD m zP)) = true
  · rw [show bI (fit (quo (l.getD (m - 1) zP) (l.getD m zP))) = 1 from by rw [e1]; rfl]
    refine B_eq e46_50 t46_50 (fun q => absurd q (by decide)) (fun _ => ?_)
    refine LA0 e46_53 ?_
    refine Gr e46_54 (o47 L) (hR 47 1 49 rfl) f385 ?_
    refine Cv0p e46_57 c46_17 (o49 L) (Nat.le_of_ble_eq_true rfl) (Nat.le_of_ble_eq_true rfl) (p_clean (po49 hR) (hP4.fr hF5 (by omega)) hd2.2.2.1) ?_
    rintro _ I6 J6 R6 ⟨rfl, hI6, hR6, hF6, hP6⟩
    subst hI6
    subst hR6
    by_cases e2 : fit (quo (l.getD m zP) (l.getD (m + 1) zP)) = true
    · rw [show bI (fit (quo (l.getD m zP) (l.getD (m + 1) zP))) = 1 from by rw [e2]; rfl]
      obtain ⟨hz3, hs3⟩ := hok3 e1 e2
      have hd3 := quo_dv hs3
      refine B_ne e46_60 t46_60 (fun _ => ?_) (fun q => absurd (by decide) q)
      refine LA2 e46_65 ?_
      refine LA0 e46_66 ?_
      refine Gr e46_67 (o47 L) (hR 47 1 49 rfl) f385 ?_
      refine Cv1p e46_70 c46_19 ha.1 (Nat.le_of_ble_eq_true rfl) (Nat.le_of_ble_eq_true rfl) (p_divide (l := sz (cln (quo (l.getD m zP) (l.getD (m + 1) zP))) - 1) ha (po49 hR) (by omega) (hP5.fr hF6 (by omega)) hP6 (cln_PB hd2.2.2.1) (by omega) hd3.1 hd3.2.1 hd3.2.2.2) ?_
      rintro _ I7 J7 R7 ⟨rfl, hI7, hR7, hF7, hP7⟩
      subst hI7
      subst hR7
      refine LA2 e46_73 ?_
      refine Cv0p e46_74 c46_17 ha.1 (Nat.le_of_ble_eq_true rfl) (Nat.le_of_ble_eq_true rfl) (p_clean ha hP7 hd3.2.2.1) ?_
      rintro _ I8 J8 R8 ⟨rfl, hI8, hR8, hF8, hP8⟩
      subst hI8
      subst hR8
      exact Rz e46_77 rt46 (bI_01 _) (by
      refine ⟨rfl, rfl, ((((((((hF1.l (by simp)).tr (hF2.l (by simp))).tr (hF3.l (by simp))).tr (hF4.l (by simp))).tr (hF5.l (by simp))).tr (hF6.l (by simp))).tr (hF7.l (by simp))).tr (hF8.l (by simp))), ?_⟩
      by_cases e : fit (quo (cln (quo (l.getD (m - 1) zP) (l.getD m zP))) (cln (quo (l.getD m zP) (l.getD (m + 1) zP)))) = true
      · exact Or.inl ⟨_, by unfold pfm; rw [if_pos ⟨e1, e2⟩, if_pos e], by rw [e]; rfl, hP8⟩
      · exact Or.inr ⟨by unfold pfm; rw [if_pos ⟨e1, e2⟩, if_neg e], by rw [Bool.not_eq_true] at e; rw [e]; rfl⟩)
    · rw [show bI (fit (quo (l.getD m zP) (l.getD (m + 1) zP))) = 0 from by rw [Bool.not_eq_true] at e2; rw [e2]; rfl]
      refine B_ne e46_60 t46_60 (fun q => absurd rfl q) (fun _ => ?_)
      refine Ki e46_63 kiconst_0 ?_
      exact Rz e46_64 rt46 (by decide) (⟨rfl, rfl, ((((((hF1.l (by simp)).tr (hF2.l (by simp))).tr (hF3.l (by simp))).tr (hF4.l (by simp))).tr (hF5.l (by simp))).tr (hF6.l (by simp))), Or.inr ⟨by unfold pfm; rw [if_neg (fun z => e2 z.2)], rfl⟩⟩)
  · rw [show bI (fit (quo (l.getD (m - 1) zP) (l.getD m zP))) = 0 from by rw [Bool.not_eq_true] at e1; rw [e1]; rfl]
    refine B_eq e46_50 t46_50 (fun _ => ?_) (fun q => absurd (rfl) q)
    refine Ki e46_63 kiconst_0 ?_
    exact Rz e46_64 rt46 (by decide) (⟨rfl, rfl, (((((hF1.l (by simp)).tr (hF2.l (by simp))).tr (hF3.l (by simp))).tr (hF4.l (by simp))).tr (hF5.l (by simp))), Or.inr ⟨by unfold pfm; rw [if_neg (fun z => e1 z.1)], rfl⟩⟩)
end FORM
