/-! free of repeated roots (printed by wip/whole/t24.py) -/
/-- p is q times s, all within bounds -/
def Dv (p q s : Po) : Prop := (∀ k, k < 9 → p k = dvN q s (sz q - 1) k (9 - (sz q - 1))) ∧ (∀ k, k < 9 → 9 ≤ k + (sz q - 1) → s k = 0) ∧ PB 4000000000000000000 s ∧ (∀ k, k + (sz q - 1) < 9 → iB (s k * q (sz q - 1)))
/-- what p is by q -/
noncomputable def quo (p q : Po) : Po := Classical.epsilon (fun s => Dv p q s)
theorem quo_dv {p q : Po} (h : ∃ s, Dv p q s) : Dv p q (quo p q) := by
  exact Classical.epsilon_spec h
/-- cleaned, with its head up -/
def cu (p : Po) : Option Po := if fit (up p) = true then some (cln (up p)) else none
/-- free of repeated roots; none: it doesn't fit -/
noncomputable def fre (p : Po) : Option Po :=
  if fit p = true then
    if sz (der (cln p)) = 0 then cu (cln p)
    else match com (cln p) (der (cln p)) with
      | none => none
      | some g => cu (quo (cln p) g)
  else none
/-- free's way doesn't fail for want of a quotient -/
def FrOk (p : Po) : Prop := ∀ g, fit p = true → sz (der (cln p)) ≠ 0 → com (cln p) (der (cln p)) = some g → 0 < sz g ∧ ∃ s, Dv (cln p) g s
theorem cu_PB {p r : Po} (h : cu p = some r) : PB 1000000 r := by
  unfold cu at h
  split at h
  · cases h; rename_i e; exact fit_PB e
  · cases h
theorem fre_PB {p r : Po} (h : fre p = some r) : PB 1000000 r := by
  unfold fre at h
  split at h
  · split at h
    · exact cu_PB h
    · split at h
      · cases h
      · exact cu_PB h
  · cases h
theorem der_PB {p : Po} (h : PB 1000000 p) : PB 8000000 (der p) := fun k hk => by
  unfold der
  by_cases e : k < 8
  · rw [if_pos e]
    obtain ⟨h1, h2⟩ := h (k + 1) (by omega)
    have := mul_b (x := p (k + 1)) (y := (k : Int) + 1) (B := 1000000) (C := 8) (by omega) (by omega)
    exact ⟨by omega, by omega⟩
  · rw [if_neg e]; exact ⟨by decide, by decide⟩
section FREE
variable {L : Nat} {I : amI} {J : amJ} {R : amR} {Q : amQ} {a b c x y : Nat} {p q : Po}
/-- what free() comes to -/
def FeP (J : amJ) (R : amR) (b : Nat) (o : Option Po) (v : Option Value) (J' : amJ) (R' : amR) : Prop := FrL [42, 44, 46, b + 1] J J' ∧ amRok R' ∧ RC R R' ∧ (∃ x y, CO R' x y) ∧ ((∃ g, o = some g ∧ v = some (.int 1) ∧ JP J' (b + 1) g) ∨ (o = none ∧ v = some (.int 0)))
theorem FeP.tr {J1 J' : amJ} {R1 R' : amR} {o : Option Po} {v : Option Value} (h : FeP J1 R1 b o v J' R') (h1 : FrL [42, 44, 46, b + 1] J J1) (h2 : RC R R1) : FeP J R b o v J' R' := ⟨h1.tr h.1, h.2.1, h2.tr h.2.2.1, h.2.2.2⟩
set_option maxHeartbeats 2000000 in
theorem c_free_end (hR : amRok R) (hC : CO R x y) (hb : amPO (amSH L) R b) (hp : JP J (b + 1) p) (hB : PB 4000000000000000000 p) : Ex 27 61 [some (.ref 40), some (.ref a), some (.ref b)] [] (amSH L) I J R (fun v I' J' R' => I' = I ∧ FeP J R b (cu p) v J' R') := by
  refine LA2 e27_61 ?_
  refine Cv0p e27_62 c27_13 hb.1 (Nat.le_of_ble_eq_true rfl) (Nat.le_of_ble_eq_true rfl) (p_headUp hb hp hB) ?_
  rintro _ I1 J1 R1 ⟨rfl, rfl, rfl, hF, hP⟩
  refine LA2 e27_65 ?_
  refine Cv0p e27_66 c27_17 hb.1 (Nat.le_of_ble_eq_true rfl) (Nat.le_of_ble_eq_true rfl) (p_clean hb hP (up_PB hB)) ?_
  rintro _ I2 J2 R2 ⟨rfl, rfl, rfl, hF2, hP2⟩
  exact Rz e27_69 rt27 (bI_01 _) (by
  refine ⟨rfl, (hF.l (by simp)).tr (hF2.l (by simp)), hR, RC.rf, ⟨x, y, hC⟩, ?_⟩
  by_cases e : fit (up p) = true
  · exact Or.inl ⟨_, by unfold cu; rw [if_pos e], by rw [e]; rfl, hP2⟩
  · exact Or.inr ⟨by unfold cu; rw [if_neg e], by rw [Bool.not_eq_true] at e; rw [e]; rfl⟩)
set_option maxHeartbeats 2000000 in
theorem c_free (hR : amRok R) (hC : CO R x y) (ha : amPO (amSH L) R a) (hb : amPO (amSH L) R b) (hab : a ≠ b) (hb1 : b ≠ 41 ∧ b ≠ 43 ∧ b ≠ 45) (hb2 : b + 1 ≠ 42 ∧ b + 1 ≠ 44 ∧ b + 1 ≠ 46) (hb40 : b ≠ 40) (hp : JP J (a + 1) p) (hpB : PB 4000000000000000000 p) (hok : FrOk p) : Cl 27 [.ref 40, .ref a, .ref b] (amSH L) I J R (fun v I' J' R' => I' = I ∧ FeP J R b (fre p) v J' R') := by
  have h45 := po45 (L := L) hR
  show Ex 27 0 [some (.ref 40), some (.ref a), some (.ref b)] [] (amSH L) I J R _
  refine LA2 e27_0 ?_
  refine LA1 e27_1 ?_
  refine Cv1p e27_2 c27_8 hb.1 (Nat.le_of_ble_eq_true rfl) (Nat.le_of_ble_eq_true rfl) (p_copy hb ha hab hp) ?_
  rintro _ I1 J1 R1 ⟨rfl, rfl, rfl, hF1, hP1⟩
  refine LA2 e27_5 ?_
  refine Cv0p e27_6 c27_17 hb.1 (Nat.le_of_ble_eq_true rfl) (Nat.le_of_ble_eq_true rfl) (p_clean hb hP1 hpB) ?_
  rintro _ I2 J2 R2 ⟨rfl, rfl, rfl, hF2, hP2⟩
  by_cases e1 : fit p = true
  · rw [show bI (fit p) = 1 from by rw [e1]; rfl]
    refine B_ne e27_9 t27_9 (fun _ => ?_) (fun q => absurd (by decide) q)
    refine LA0 e27_14 ?_
    refine Gr e27_15 (o40 L) (hR 40 2 45 rfl) f66 ?_
    refine LA2 e27_18 ?_
    refine Cv1p e27_19 c27_8 (o45 L) (Nat.le_of_ble_eq_true rfl) (Nat.le_of_ble_eq_true rfl) (p_copy h45 hb (by omega) hP2) ?_
    rintro _ I3 J3 R3 ⟨rfl, rfl, rfl, hF3, hP3⟩
    refine LA0 e27_22 ?_
    refine Gr e27_23 (o40 L) (hR 40 2 45 rfl) f66 ?_
    refine Cv0p e27_26 c27_16 (o45 L) (Nat.le_of_ble_eq_true rfl) (Nat.le_of_ble_eq_true rfl) (p_derive h45 hP3) ?_
    rintro _ I4 J4 R4 ⟨rfl, rfl, rfl, hF4, hP4⟩
    refine LA0 e27_29 ?_
    refine Gr e27_30 (o40 L) (hR 40 2 45 rfl) f66 ?_
    refine Cv0 e27_33 c27_5 (o45 L) (Nat.le_of_ble_eq_true rfl) (Nat.le_of_ble_eq_true rfl) (p_degree h45 hP4 ((der_PB (fit_PB e1)).mono (by decide))) ?_
    by_cases e2 : sz (der (cln p)) = 0
    · rw [show dI (sz (der (cln p))) = -1 from by rw [e2]; rfl]
      refine B_lt e27_36 t27_36 (fun _ => ?_) (fun q => absurd (by decide) q)
      have hf : fre p = cu (cln p) := by unfold fre; rw [if_pos e1, if_pos e2]
      rw [hf]
      exact (c_free_end (L := L) hR hC hb ((hP2.fr hF3 (by omega)).fr hF4 (by omega)) (cln_PB hpB)).mono (fun v I' J' R' h => ⟨h.1, h.2.tr (((hF1.l (by simp)).tr (hF2.l (by simp))).tr ((hF3.l (by simp)).tr (hF4.l (by simp)))) RC.rf⟩)
    · refine B_lt e27_36 t27_36 (fun q => absurd q (fun z => e2 ((dI_neg (sz_le _)).mp z))) (fun _ => ?_)
      refine LA0 e27_39 ?_
      refine LA2 e27_40 ?_
      refine LA0 e27_41 ?_
      refine Gr e27_42 (o40 L) (hR 40 2 45 rfl) f66 ?_
      refine Cv2p e27_45 c27_26 (o40 L) (Nat.le_of_ble_eq_true rfl) (Nat.le_of_ble_eq_true rfl) (c_find (L := L) hR hC hb h45 ⟨by omega, by omega⟩ (by decide) ⟨by omega, by omega⟩ ((hP2.fr hF3 (by omega)).fr hF4 (by omega)) hP4 (cln_PB hpB) ((der_PB (fit_PB e1)).mono (by decide))) ?_
      rintro v I5 J5 R5 ⟨rfl, hF5, hR5, hRC, x', y', hC', hD⟩
      rcases hD with ⟨g, hg, rfl, hG⟩ | ⟨hn, rfl⟩
      · have hb5 : amPO (amSH L) R5 b := hb.rc hRC hb40
        have hx5 := hC'.px (L := L) hR5
        obtain ⟨hg0, hs⟩ := hok g e1 e2 hg
        have hdv := quo_dv hs
        refine B_ne e27_48 t27_48 (fun _ => ?_) (fun q => absurd (by decide) q)
        refine LA2 e27_53 ?_
        refine LA0 e27_54 ?_
        refine Gr e27_55 (o40 L) hC'.1 f64 ?_
        refine Cv1p e27_58 c27_19 hb5.1 (Nat.le_of_ble_eq_true rfl) (Nat.le_of_ble_eq_true rfl) (p_divide (l := sz g - 1) hb5 hx5 (by have := hC'.2.2; omega) (((hP2.fr hF3 (by omega)).fr hF4 (by omega)).fl hF5 (by simp; omega)) hG ((com_PB hg).mono (by decide)) (by omega) hdv.1 hdv.2.1 hdv.2.2.2) ?_
        rintro _ I6 J6 R6 ⟨rfl, rfl, rfl, hF6, hP6⟩
        have hf : fre p = cu (quo (cln p) g) := by unfold fre; rw [if_pos e1, if_neg e2, hg]
        rw [hf]
        exact (c_free_end (L := L) hR5 hC' hb5 hP6 hdv.2.2.1).mono (fun v I' J' R' h => ⟨h.1, h.2.tr (((((hF1.l (by simp)).tr (hF2.l (by simp))).tr ((hF3.l (by simp)).tr (hF4.l (by simp)))).tr (hF5.mono (by simp))).tr (hF6.l (by simp))) hRC⟩)
      · refine B_ne e27_48 t27_48 (fun q => absurd rfl q) (fun _ => ?_)
        refine Ki e27_51 kiconst_0 ?_
        exact Rz e27_52 rt27 (by decide) (⟨rfl, (((hF1.l (by simp)).tr (hF2.l (by simp))).tr ((hF3.l (by simp)).tr (hF4.l (by simp)))).tr (hF5.mono (by simp)), hR5, hRC, ⟨x', y', hC'⟩, Or.inr ⟨by unfold fre; rw [if_pos e1, if_neg e2, hn], rfl⟩⟩)
  · rw [show bI (fit p) = 0 from by rw [Bool.not_eq_true] at e1; rw [e1]; rfl]
    refine B_ne e27_9 t27_9 (fun q => absurd rfl q) (fun _ => ?_)
    refine Ki e27_12 kiconst_0 ?_
    exact Rz e27_13 rt27 (by decide) (⟨rfl, ((hF1.l (by simp)).tr (hF2.l (by simp))), hR, RC.rf, ⟨x, y, hC⟩, Or.inr ⟨by unfold fre; rw [if_neg e1], rfl⟩⟩)
end FREE
