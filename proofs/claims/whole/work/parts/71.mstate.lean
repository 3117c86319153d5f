/-! the reference: its state; loads, chainOf, changes, roots, within (printed by wip/whole/t71.py) -/
def MPl (I : amI) (y m : Nat) (ps : List Po) : Prop := I 152 m = nI ps.length ∧ ∀ p k, p < ps.length → k < 5 → I y (5 * p + k) = iI (ps.getD p zP k)
/-- the reference's cells hold σ -/
def MSt (I : amI) (J : amJ) (R : amR) (σ : PS) : Prop := amRok R ∧ MPl I 153 2 σ.1 ∧ ((σ.2.1 = none ∧ I 152 4 = -1) ∨ ∃ l, σ.2.1 = some l ∧ MPl I 154 4 l) ∧ (I 152 36 = nI σ.2.2.2.1 ∧ ∀ k, k < σ.2.2.2.1 → I 199 k = σ.2.2.1 k) ∧ (I 152 45 = nI σ.2.2.2.2.1.length ∧ ∀ k, k < σ.2.2.2.2.1.length → I 200 k = σ.2.2.2.2.1.getD k 0) ∧ (∀ k, k < 4 → (σ.2.2.2.2.2.1 k = none ∧ I 201 k = -1) ∨ ∃ m, σ.2.2.2.2.2.1 k = some m ∧ I 201 k = nI m ∧ ∀ i, i < m → I 202 (k * 24 + i) = σ.2.2.2.2.2.2 k i) ∧ SOk σ
/-- scratch of the reference: nothing of the state -/
def MK (I I' : amI) (J J' : amJ) : Prop := (∀ y i, y ≠ 184 → y ≠ 155 → ¬ (y = 152 ∧ (i = 9 ∨ i = 31 ∨ (37 ≤ i ∧ i ≤ 43) ∨ i = 46)) → I' y i = I y i) ∧ ∀ y, y < 152 → J' y = J y
theorem MK.rf {I : amI} {J : amJ} : MK I I J J := ⟨fun _ _ _ _ _ => rfl, fun _ _ => rfl⟩
theorem MK.tr {I I1 I2 : amI} {J J1 J2 : amJ} (h1 : MK I I1 J J1) (h2 : MK I1 I2 J1 J2) : MK I I2 J J2 := ⟨fun y i a b c => (h2.1 y i a b c).trans (h1.1 y i a b c), fun y a => (h2.2 y a).trans (h1.2 y a)⟩
theorem MK.lo {I I' : amI} {J J' : amJ} (h : MK I I' J J') : ∀ y, y < 152 → I' y = I y := fun y hy => funext (fun i => h.1 y i (by omega) (by omega) (by omega))
theorem MPl.k {I I' : amI} {J J' : amJ} {y m : Nat} {ps : List Po} (h : MPl I y m ps) (hk : MK I I' J J') (hy : y = 153 ∨ y = 154) (hm : m = 2 ∨ m = 4) : MPl I' y m ps := ⟨by rw [hk.1 152 m (by omega) (by omega) (by omega)]; exact h.1, fun p k hp hk5 => by rw [hk.1 y _ (by omega) (by omega) (by omega)]; exact h.2 p k hp hk5⟩
theorem MSt.k {I I' : amI} {J J' : amJ} {R : amR} {σ : PS} (h : MSt I J R σ) (hk : MK I I' J J') : MSt I' J' R σ := by
  obtain ⟨h1, h2, h3, h4, h5, h6, h7⟩ := h
  refine ⟨h1, h2.k hk (by omega) (by omega), ?_, ⟨by rw [hk.1 152 36 (by omega) (by omega) (by omega)]; exact h4.1, fun k hk2 => by rw [hk.1 199 k (by omega) (by omega) (by omega)]; exact h4.2 k hk2⟩, ⟨by rw [hk.1 152 45 (by omega) (by omega) (by omega)]; exact h5.1, fun k hk2 => by rw [hk.1 200 k (by omega) (by omega) (by omega)]; exact h5.2 k hk2⟩, ?_, h7⟩
  · rcases h3 with h3 | ⟨l, e, h3⟩
    · exact Or.inl ⟨h3.1, by rw [hk.1 152 4 (by omega) (by omega) (by omega)]; exact h3.2⟩
    · exact Or.inr ⟨l, e, h3.k hk (by omega) (by omega)⟩
  · intro k hk4
    rw [hk.1 201 k (by omega) (by omega) (by omega)]
    rcases h6 k hk4 with g | ⟨m, e1, e2, e3⟩
    · exact Or.inl g
    · exact Or.inr ⟨m, e1, e2, fun i hi => by rw [hk.1 202 _ (by omega) (by omega) (by omega)]; exact e3 i hi⟩
/-- what a call of the reference answers and leaves -/
def MP (I : amI) (J : amJ) (R : amR) (σ : PS) (val : Value) (v : Option Value) (I' : amI) (J' : amJ) (R' : amR) : Prop := v = some val ∧ MSt I' J' R' σ ∧ (∀ y, y < 152 → I' y = I y) ∧ (∀ y, y < 152 → J' y = J y) ∧ R' = R
theorem MP.rf {I : amI} {J : amJ} {R : amR} {σ : PS} {val : Value} (h : MSt I J R σ) : MP I J R σ val (some val) I J R := ⟨rfl, h, fun _ _ => rfl, fun _ _ => rfl, rfl⟩
theorem MP.k {I I' : amI} {J J' : amJ} {R : amR} {σ : PS} {val : Value} (h : MSt I J R σ) (hk : MK I I' J J') : MP I J R σ val (some val) I' J' R := ⟨rfl, h.k hk, hk.lo, hk.2, rfl⟩
theorem GoF.k {B : Nat} {I I' : amI} {J J' : amJ} (h : GoF B I I') (hJ : ∀ y, y < 152 → J' y = J y) : MK I I' J J' := ⟨fun y i a b c => h y i (by omega) (by omega), hJ⟩
theorem ps_m1 : ∀ n, n ≤ 8 → (nI n - 1).toInt = (n : Int) - 1 := by decide
theorem i64_le {a b : Int32} : a.toInt64 ≤ b.toInt64 ↔ a.toInt ≤ b.toInt := by rw [Int64.le_iff_toInt_le, Int32.toInt_toInt64, Int32.toInt_toInt64]
theorem iI_64 {x : Int} (h : -2000000000 ≤ x ∧ x ≤ 2000000000) : (iI x).toInt64 = oI x := by rw [i2l_oI, iI_t h]
section REF8
variable {L : Nat} {I : amI} {J : amJ} {R : amR} {Q : amQ} {a B : Nat} {q : Po} {ps l : List Po} {σ : PS}
set_option maxHeartbeats 2000000 in
theorem m_isPoly {p : Int32} (h8 : ps.length ≤ 8) (hm : I 152 2 = nI ps.length) : Rv 157 [.ref 152, .int p] (amSH L) I J R (.int (bI (decide (inP ps p)))) := by
  intro Q hQ
  have e : decide ((0 : Int64) ≤ p.toInt64 ∧ p.toInt64 ≤ (nI ps.length - 1).toInt64) = decide (inP ps p) := decide_eq_decide.mpr (by
    rw [show (0 : Int64) = (0 : Int32).toInt64 from rfl, i64_le, i64_le, ps_m1 _ h8, show (0 : Int32).toInt = 0 from rfl]
    omega)
  rw [← e] at hQ
  show Ex 157 0 [some (.ref 152), some (.int p)] [] (amSH L) I J R _
  refine LI1 e157_0 ?_
  refine I2l e157_1 ?_
  refine K0 e157_2 ?_
  refine LA0 e157_3 ?_
  refine Gi e157_4 (o152 L) (amGi_of f770 (by decide)) ?_
  rw [hm]
  refine Ki e157_7 kiconst_1 ?_
  refine Isub e157_8 ?_
  refine I2l e157_9 ?_
  refine Cs3 e157_10 c157_152 (Nat.le_of_ble_eq_true rfl) (Nat.le_of_ble_eq_true rfl) (m_in) ?_
  exact Rz e157_13 rt157 (bI_01 _) (hQ)
set_option maxHeartbeats 2000000 in
theorem m_isPoint {u v : Int32} : Rv 167 [.int u, .int v] (amSH L) I J R (.int (bI (decide (isPt u v)))) := by
  intro Q hQ
  have e1 : ((1 : Int64) ≤ v.toInt64 ∧ v.toInt64 ≤ 1000) ↔ (1 ≤ v.toInt ∧ v.toInt ≤ 1000) := by
    rw [show (1 : Int64) = (1 : Int32).toInt64 from rfl, show (1000 : Int64) = (1000 : Int32).toInt64 from rfl, i64_le, i64_le]
    rfl
  have e2 : ((-1000 : Int64) ≤ u.toInt64 ∧ u.toInt64 ≤ 1000) ↔ (-1000 ≤ u.toInt ∧ u.toInt ≤ 1000) := by
    rw [show (-1000 : Int64) = (-1000 : Int32).toInt64 from by decide, show (1000 : Int64) = (1000 : Int32).toInt64 from rfl, i64_le, i64_le]
    rfl
  show Ex 167 0 [some (.int u), some (.int v)] [] (amSH L) I J R _
  refine LI1 e167_0 ?_
  refine I2l e167_1 ?_
  refine K1 e167_2 ?_
  refine Kd e167_3 kj8 ?_
  refine Cs3 e167_6 c167_152 (Nat.le_of_ble_eq_true rfl) (Nat.le_of_ble_eq_true rfl) (m_in) ?_
  refine B_eq e167_9 t167_9 (fun h9 => ?_) (fun h9 => ?_)
  · refine Ki e167_30 kiconst_0 ?_
    exact Rz e167_31 rt167 (by decide) (by
    rw [decide_eq_false (fun z : isPt u v => by first | exact bI_z h9 (e1.mpr z.2) | exact bI_z h23 (e2.mpr z.1))] at hQ
    exact hQ)
  · refine LI0 e167_12 ?_
    refine I2l e167_13 ?_
    refine Kd e167_14 kj9 ?_
    refine Kd e167_17 kj8 ?_
    refine Cs3 e167_20 c167_152 (Nat.le_of_ble_eq_true rfl) (Nat.le_of_ble_eq_true rfl) (m_in) ?_
    refine B_eq e167_23 t167_23 (fun h23 => ?_) (fun h23 => ?_)
    · refine Ki e167_30 kiconst_0 ?_
      exact Rz e167_31 rt167 (by decide) (by
      rw [decide_eq_false (fun z : isPt u v => by first | exact bI_z h9 (e1.mpr z.2) | exact bI_z h23 (e2.mpr z.1))] at hQ
      exact hQ)
    · refine Ki e167_26 kiconst_1 ?_
      refine Go e167_27 t167_27 ?_
      exact Rz e167_31 rt167 (by decide) (by
      rw [decide_eq_true (show isPt u v from ⟨e2.mp (bI_t h23), e1.mp (bI_t h9)⟩)] at hQ
      exact hQ)
theorem m_opens : Cl 189 [.ref 152] (amSH L) I J R (fun v I' J' R' => v = none ∧ I' = amU I 152 9 0 ∧ J' = J ∧ R' = R) := by
  show Ex 189 0 [some (.ref 152)] [] (amSH L) I J R _
  refine LA0 e189_0 ?_
  refine Ki e189_1 kiconst_0 ?_
  refine Pz e189_2 (o152 L) f777 (by decide) ?_
  exact Rvd e189_5 rt189 (⟨rfl, rfl, rfl, rfl⟩)
set_option maxHeartbeats 2000000 in
theorem m_loads_lp {p : Nat} (hR : amRok R) (ha : amA (amSH L) a 1 9) (hp8 : p < 8) (hM : ∀ k, k < 5 → I 153 (5 * p + k) = iI (q k)) (hB : PB 999 q) (hQ : ∀ J', JU J J' a 5 (fun k => oI (q k)) → Q none I J' R) : ∀ (n i : Nat) (J' : amJ), 5 - i < n → i ≤ 5 → JU J J' a i (fun k => oI (q k)) → Ex 163 6 [some (.ref 152), some (.int (nI p)), some (.ref a), some (.int (nI i))] [] (amSH L) I J' R Q := by
  intro n
  induction n with
  | zero => intro i J' h; omega
  | succ n ih =>
    intro i J' h h9 hJ
    refine LI3 e163_6 ?_
    refine Ki e163_7 kiconst_5 ?_
    refine CN_ge (a := i) (b := 5) e163_8 t163_8 rfl (by decide) (by omega) (by omega) (fun h8 => ?_) (fun h8 => ?_)
    · exact Rvd e163_31 rt163 (by
      have e9 : i = 5 := by omega
      subst e9
      exact hQ _ hJ)
    · refine LA2 e163_11 ?_
      refine LI3 e163_12 ?_
      refine LA0 e163_13 ?_
      refine Gr e163_14 (o152 L) (hR 152 1 153 rfl) f769 ?_
      refine Ki e163_17 kiconst_5 ?_
      refine LI1 e163_18 ?_
      refine ImulN (a := 5) (b := p) e163_19 (by decide) rfl ?_
      refine LI3 e163_20 ?_
      refine IaddN (a := (5 * p)) (b := i) e163_21 rfl rfl ?_
      refine AiN (k := ((5 * p) + i)) e163_22 (o153 L) rfl (by omega) (by decide) ?_
      rw [hM i (by omega)]
      refine I2l e163_23 ?_
      refine WjN (k := i) e163_24 ha rfl (by omega) (by decide) ?_
      refine IncN3 (m := i) e163_25 rfl ?_
      refine Go e163_28 t163_28 ?_
      exact ih (i + 1) _ (by omega) (by omega) (hJ.step (by have := hB i (by omega); exact iI_64 (by omega)))
set_option maxHeartbeats 2000000 in
theorem m_loads {p : Nat} (hR : amRok R) (ha : amA (amSH L) a 1 9) (hp8 : p < 8) (hM : ∀ k, k < 5 → I 153 (5 * p + k) = iI (q k)) (hk : Pok q) : Rw 163 [.ref 152, .int (nI p), .ref a] (amSH L) I J R a q := by
  show Ex 163 0 [some (.ref 152), some (.int (nI p)), some (.ref a), none] [] (amSH L) I J R _
  refine LA2 e163_0 ?_
  refine Cs1p e163_1 c163_171 (Nat.le_of_ble_eq_true rfl) (Nat.le_of_ble_eq_true rfl) (m_empties ha) ?_
  rintro _ I1 J1 R1 ⟨rfl, hI1, hR1, hF1, hP1⟩
  subst hI1
  subst hR1
  refine Ki e163_4 kiconst_0 ?_
  refine SI3 e163_5 rfl ?_
  refine m_loads_lp hR ha hp8 hM hk.1 (fun J' hJ => ⟨rfl, rfl, rfl, hF1.tr hJ.1, fun k hk9 => ?_⟩) 6 0 J1 (by omega) (by omega) JU.st
  rw [hJ.2 k]
  by_cases g : k < 5
  · rw [if_pos g]
  · rw [if_neg g, hP1 k hk9, sz_zero (p := q) (by have := hk.2.2; omega) hk9]
set_option maxHeartbeats 2000000 in
theorem m_chainOf {p : Nat} (h : MSt I J R σ) (hB3 : B < 3) (hp : p < σ.1.length) (hf : I 152 9 = 0) : Cl 185 [.ref 152, .int (nI B), .int (nI p)] (amSH L) I J R (fun v I' J' R' => v = none ∧ R' = R ∧ MK I I' J J' ∧ (∀ C, C < 3 → C ≠ B → ∀ l, MI I J C l → MI I' J' C l) ∧ ((∃ t, chn (σ.1.getD p zP) = some t ∧ I' 152 9 = 0 ∧ MI I' J' B t) ∨ (chn (σ.1.getD p zP) = none ∧ I' 152 9 = 1))) := by
  obtain ⟨hR, hPl, -, -, -, -, hO⟩ := id h
  have hok := hO.1.2 p hp
  have h8 := hO.1.1
  show Ex 185 0 [some (.ref 152), some (.int (nI B)), some (.int (nI p))] [] (amSH L) I J R _
  refine LA0 e185_0 ?_
  refine LI2 e185_1 ?_
  refine LA0 e185_2 ?_
  refine Gr e185_3 (o152 L) (hR 152 7 157 rfl) f775 ?_
  refine Cv2p e185_6 c185_163 (o152 L) (Nat.le_of_ble_eq_true rfl) (Nat.le_of_ble_eq_true rfl) (m_loads hR (o157 L) (by omega) (fun k hk => hPl.2 p k hp hk) hok) ?_
  rintro _ I1 J1 R1 ⟨rfl, hI1, hR1, hF1, hP1⟩
  subst hI1
  subst hR1
  refine LA0 e185_9 ?_
  refine LI1 e185_10 ?_
  refine LA0 e185_11 ?_
  refine Gr e185_12 (o152 L) (hR 152 7 157 rfl) f775 ?_
  refine Cv2p e185_15 c185_184 (o152 L) (Nat.le_of_ble_eq_true rfl) (Nat.le_of_ble_eq_true rfl) (m_chains hR hB3 (o157 L) (by decide) hP1 hok.b6 hok.2.1 hok.2.2 hf) ?_
  rintro _ I2 J2 R2 ⟨rfl, hR2, hG2, hF2, hD⟩
  subst hR2
  exact Rvd e185_18 rt185 (by
  refine ⟨rfl, rfl, hG2.k (fun y hy => by rw [hF2 y (by simp; omega) (by omega), hF1 y (by omega)]), ?_, hD⟩
  rintro C hC hne l ⟨g1, g2, g3, g4, g5, g6, g7⟩
  refine ⟨by rw [hG2 184 C (by omega) (by omega)]; exact g1, g2, g3, fun k hk i hi => ?_, g5, g6, g7⟩
  rw [hF2 _ (by simp; omega) (by omega), hF1 _ (by omega)]
  exact g4 k hk i hi)
set_option maxHeartbeats 2000000 in
theorem n_roots {p : Int32} (h : MSt I J R σ) : Cl 192 [.ref 152, .int p] (amSH L) I J R (MP I J R σ (.int (sRoots σ.1 p))) := by
  obtain ⟨hR, hPl, -, -, -, -, hO⟩ := id h
  have h8 := hO.1.1
  have hk0 : MK I (amU I 152 9 0) J J := ⟨fun y i a b c => by unfold amU; rw [if_neg (by omega)], fun _ _ => rfl⟩
  have h0 : MSt (amU I 152 9 0) J R σ := h.k hk0
  unfold sRoots
  show Ex 192 0 [some (.ref 152), some (.int p)] [] (amSH L) I J R _
  by_cases hp : inP σ.1 p
  · rw [if_pos hp]
    obtain ⟨k, hk, rfl, ek⟩ := hp.of h8
    have hok := hO.1.2 k hk
    rw [ek]
    have h5 := hok.2.2
    have ei : bI (decide (inP σ.1 (nI k))) = 1 := by rw [decide_eq_true hp]; rfl
    refine LA0 e192_0 ?_
    refine LI1 e192_1 ?_
    refine Cv1 e192_2 c192_157 (o152 L) (Nat.le_of_ble_eq_true rfl) (Nat.le_of_ble_eq_true rfl) ((m_isPoly h8 hPl.1)) ?_
    rw [ei]
    refine B_ne e192_5 t192_5 (fun _ => ?_) (fun q => absurd (by decide) q)
    refine LA0 e192_10 ?_
    refine Cv0p e192_11 c192_189 (o152 L) (Nat.le_of_ble_eq_true rfl) (Nat.le_of_ble_eq_true rfl) (m_opens) ?_
    rintro _ I1 J1 R1 ⟨rfl, hI1, hJ1, hR1⟩
    subst hI1
    subst hJ1
    subst hR1
    refine LA0 e192_14 ?_
    refine Ki e192_15 kiconst_0 ?_
    refine LI1 e192_16 ?_
    refine Cv2p e192_17 c192_185 (o152 L) (Nat.le_of_ble_eq_true rfl) (Nat.le_of_ble_eq_true rfl) (m_chainOf (p := k) h0 (by decide) hk amU_same) ?_
    rintro _ I2 J2 R2 ⟨rfl, hR2, hk2, hoth2, hD⟩
    subst hR2
    have hkk := hk0.tr hk2
    rcases hD with ⟨l, hll, hf2, hM⟩ | ⟨hll, hf2⟩
    · rw [hll]
      dsimp only
      refine LA0 e192_20 ?_
      refine Gi e192_21 (o152 L) (amGi_of f777 (by decide)) ?_
      rw [hf2]
      refine B_eq e192_24 t192_24 (fun _ => ?_) (fun q => absurd (rfl) q)
      refine LA0 e192_32 ?_
      refine Ki e192_33 kiconst_0 ?_
      refine Cv1 e192_34 c192_188 (o152 L) (Nat.le_of_ble_eq_true rfl) (Nat.le_of_ble_eq_true rfl) ((m_roots hR (by decide) hM)) ?_
      exact Ri e192_37 rt192 (MP.k h hkk)
    · rw [hll]
      refine LA0 e192_20 ?_
      refine Gi e192_21 (o152 L) (amGi_of f777 (by decide)) ?_
      rw [hf2]
      refine B_eq e192_24 t192_24 (fun q => absurd q (by decide)) (fun _ => ?_)
      refine Ki e192_27 kbipush_m3 ?_
      refine Go e192_29 t192_29 ?_
      exact Ri e192_37 rt192 (MP.k h hkk)
  · rw [if_neg hp]
    refine LA0 e192_0 ?_
    refine LI1 e192_1 ?_
    refine Cv1 e192_2 c192_157 (o152 L) (Nat.le_of_ble_eq_true rfl) (Nat.le_of_ble_eq_true rfl) ((m_isPoly h8 hPl.1)) ?_
    rw [show bI (decide (inP σ.1 p)) = 0 from by rw [decide_eq_false hp]; rfl]
    refine B_ne e192_5 t192_5 (fun q => absurd q ((fun z => z rfl))) (fun _ => ?_)
    refine Ki e192_8 kiconst_m1 ?_
    exact Ri e192_9 rt192 (MP.rf h)
set_option maxHeartbeats 2000000 in
theorem n_changes {p u v : Int32} (h : MSt I J R σ) : Cl 191 [.ref 152, .int p, .int u, .int v] (amSH L) I J R (MP I J R σ (.int (sChanges σ.1 p u v))) := by
  obtain ⟨hR, hPl, -, -, -, -, hO⟩ := id h
  have h8 := hO.1.1
  have hk0 : MK I (amU I 152 9 0) J J := ⟨fun y i a b c => by unfold amU; rw [if_neg (by omega)], fun _ _ => rfl⟩
  have h0 : MSt (amU I 152 9 0) J R σ := h.k hk0
  unfold sChanges
  show Ex 191 0 [some (.ref 152), some (.int p), some (.int u), some (.int v)] [] (amSH L) I J R _
  by_cases hp : inP σ.1 p
  · rw [if_pos hp]
    obtain ⟨k, hk, rfl, ek⟩ := hp.of h8
    have hok := hO.1.2 k hk
    rw [ek]
    have h5 := hok.2.2
    have ei : bI (decide (inP σ.1 (nI k))) = 1 := by rw [decide_eq_true hp]; rfl
    refine LA0 e191_0 ?_
    refine LI1 e191_1 ?_
    refine Cv1 e191_2 c191_157 (o152 L) (Nat.le_of_ble_eq_true rfl) (Nat.le_of_ble_eq_true rfl) ((m_isPoly h8 hPl.1)) ?_
    rw [ei]
    refine B_eq e191_5 t191_5 (fun q => absurd q (by decide)) (fun _ => ?_)
    refine LI2 e191_8 ?_
    refine LI3 e191_9 ?_
    refine Cs2 e191_10 c191_167 (Nat.le_of_ble_eq_true rfl) (Nat.le_of_ble_eq_true rfl) (m_isPoint) ?_
    refine B_ne e191_13 t191_13 (fun h13 => ?_) (fun h13 => ?_)
    · have g : isPt u v := bI_t h13
      rw [if_pos g]
      refine LA0 e191_18 ?_
      refine Cv0p e191_19 c191_189 (o152 L) (Nat.le_of_ble_eq_true rfl) (Nat.le_of_ble_eq_true rfl) (m_opens) ?_
      rintro _ I1 J1 R1 ⟨rfl, hI1, hJ1, hR1⟩
      subst hI1
      subst hJ1
      subst hR1
      refine LA0 e191_22 ?_
      refine Ki e191_23 kiconst_0 ?_
      refine LI1 e191_24 ?_
      refine Cv2p e191_25 c191_185 (o152 L) (Nat.le_of_ble_eq_true rfl) (Nat.le_of_ble_eq_true rfl) (m_chainOf (p := k) h0 (by decide) hk amU_same) ?_
      rintro _ I2 J2 R2 ⟨rfl, hR2, hk2, hoth2, hD⟩
      subst hR2
      have hkk := hk0.tr hk2
      rcases hD with ⟨l, hll, hf2, hM⟩ | ⟨hll, hf2⟩
      · rw [hll]
        dsimp only
        refine LA0 e191_28 ?_
        refine Gi e191_29 (o152 L) (amGi_of f777 (by decide)) ?_
        rw [hf2]
        refine B_eq e191_32 t191_32 (fun _ => ?_) (fun q => absurd (rfl) q)
        refine LA0 e191_40 ?_
        refine Ki e191_41 kiconst_0 ?_
        refine LI2 e191_42 ?_
        refine I2l e191_43 ?_
        rw [i2l_oI u]
        refine LI3 e191_44 ?_
        refine I2l e191_45 ?_
        rw [i2l_oI v]
        refine Cv3 e191_46 c191_186 (o152 L) (Nat.le_of_ble_eq_true rfl) (Nat.le_of_ble_eq_true rfl) ((m_chgAt (u := u.toInt) (v := v.toInt) hR (by decide) hM)) ?_
        exact Ri e191_49 rt191 (MP.k h hkk)
      · rw [hll]
        refine LA0 e191_28 ?_
        refine Gi e191_29 (o152 L) (amGi_of f777 (by decide)) ?_
        rw [hf2]
        refine B_eq e191_32 t191_32 (fun q => absurd q (by decide)) (fun _ => ?_)
        refine Ki e191_35 kbipush_m3 ?_
        refine Go e191_37 t191_37 ?_
        exact Ri e191_49 rt191 (MP.k h hkk)
    · refine Ki e191_16 kiconst_m1 ?_
      exact Ri e191_17 rt191 (by
      rw [if_neg (bI_f h13)]
      exact MP.rf h)
  · rw [if_neg hp]
    refine LA0 e191_0 ?_
    refine LI1 e191_1 ?_
    refine Cv1 e191_2 c191_157 (o152 L) (Nat.le_of_ble_eq_true rfl) (Nat.le_of_ble_eq_true rfl) ((m_isPoly h8 hPl.1)) ?_
    rw [show bI (decide (inP σ.1 p)) = 0 from by rw [decide_eq_false hp]; rfl]
    refine B_eq e191_5 t191_5 (fun _ => ?_) (fun q => absurd (rfl) q)
    refine Ki e191_16 kiconst_m1 ?_
    exact Ri e191_17 rt191 (MP.rf h)
set_option maxHeartbeats 2000000 in
theorem n_within {p u v t s : Int32} (h : MSt I J R σ) : Cl 193 [.ref 152, .int p, .int u, .int v, .int t, .int s] (amSH L) I J R (MP I J R σ (.int (sWithin σ.1 p u v t s))) := by
  obtain ⟨hR, hPl, -, -, -, -, hO⟩ := id h
  have h8 := hO.1.1
  have hk0 : MK I (amU I 152 9 0) J J := ⟨fun y i a b c => by unfold amU; rw [if_neg (by omega)], fun _ _ => rfl⟩
  have h0 : MSt (amU I 152 9 0) J R σ := h.k hk0
  unfold sWithin
  show Ex 193 0 [some (.ref 152), some (.int p), some (.int u), some (.int v), some (.int t), some (.int s)] [] (amSH L) I J R _
  by_cases hp : inP σ.1 p
  · rw [if_pos hp]
    obtain ⟨k, hk, rfl, ek⟩ := hp.of h8
    have hok := hO.1.2 k hk
    rw [ek]
    have h5 := hok.2.2
    have ei : bI (decide (inP σ.1 (nI k))) = 1 := by rw [decide_eq_true hp]; rfl
    refine LA0 e193_0 ?_
    refine LI1 e193_1 ?_
    refine Cv1 e193_2 c193_157 (o152 L) (Nat.le_of_ble_eq_true rfl) (Nat.le_of_ble_eq_true rfl) ((m_isPoly h8 hPl.1)) ?_
    rw [ei]
    refine B_eq e193_5 t193_5 (fun q => absurd q (by decide)) (fun _ => ?_)
    refine LI2 e193_8 ?_
    refine LI3 e193_9 ?_
    refine Cs2 e193_10 c193_167 (Nat.le_of_ble_eq_true rfl) (Nat.le_of_ble_eq_true rfl) (m_isPoint) ?_
    refine B_eq e193_13 t193_13 (fun h13 => ?_) (fun h13 => ?_)
    · refine Ki e193_42 kiconst_m1 ?_
      exact Ri e193_43 rt193 (by
      rw [if_neg (fun z => by
        first
          | exact bI_z h13 z.1
          | exact bI_z h23 z.2.1
          | (have g := z.1
             have g2 := z.2.1
             have b1 := mul_b (x := u.toInt) (y := s.toInt) (B := 1000) (C := 1000) (by omega) (by omega)
             have b2 := mul_b (x := t.toInt) (y := v.toInt) (B := 1000) (C := 1000) (by omega) (by omega)
             exact absurd ((oI_lt ⟨by omega, by omega⟩ ⟨by omega, by omega⟩).mpr z.2.2) (by first | exact h38 | exact Int64.not_lt.mpr h38)))]
      exact MP.rf h)
    · refine LI4 e193_16 ?_
      refine LI5 e193_18 ?_
      refine Cs2 e193_20 c193_167 (Nat.le_of_ble_eq_true rfl) (Nat.le_of_ble_eq_true rfl) (m_isPoint) ?_
      refine B_eq e193_23 t193_23 (fun h23 => ?_) (fun h23 => ?_)
      · refine Ki e193_42 kiconst_m1 ?_
        exact Ri e193_43 rt193 (by
        rw [if_neg (fun z => by
          first
            | exact bI_z h13 z.1
            | exact bI_z h23 z.2.1
            | (have g := z.1
               have g2 := z.2.1
               have b1 := mul_b (x := u.toInt) (y := s.toInt) (B := 1000) (C := 1000) (by omega) (by omega)
               have b2 := mul_b (x := t.toInt) (y := v.toInt) (B := 1000) (C := 1000) (by omega) (by omega)
               exact absurd ((oI_lt ⟨by omega, by omega⟩ ⟨by omega, by omega⟩).mpr z.2.2) (by first | exact h38 | exact Int64.not_lt.mpr h38)))]
        exact MP.rf h)
      · refine LI2 e193_26 ?_
        refine I2l e193_27 ?_
        rw [i2l_oI u]
        refine LI5 e193_28 ?_
        refine I2l e193_30 ?_
        rw [i2l_oI s]
        refine Lmul e193_31 ?_
        rw [oI_mul]
        refine LI4 e193_32 ?_
        refine I2l e193_34 ?_
        rw [i2l_oI t]
        refine LI3 e193_35 ?_
        refine I2l e193_36 ?_
        rw [i2l_oI v]
        refine Lmul e193_37 ?_
        rw [oI_mul]
        refine D_lt e193_38 e193_39 t193_39 (fun h38 => ?_) (fun h38 => ?_)
        · have g : isPt u v := bI_t h13
          have g2 : isPt t s := bI_t h23
          have gl : u.toInt * s.toInt < t.toInt * v.toInt := by
            have b1 := mul_b (x := u.toInt) (y := s.toInt) (B := 1000) (C := 1000) (by omega) (by omega)
            have b2 := mul_b (x := t.toInt) (y := v.toInt) (B := 1000) (C := 1000) (by omega) (by omega)
            exact (oI_lt ⟨by omega, by omega⟩ ⟨by omega, by omega⟩).mp h38
          rw [if_pos ⟨g, g2, gl⟩]
          refine LA0 e193_44 ?_
          refine Cv0p e193_45 c193_189 (o152 L) (Nat.le_of_ble_eq_true rfl) (Nat.le_of_ble_eq_true rfl) (m_opens) ?_
          rintro _ I1 J1 R1 ⟨rfl, hI1, hJ1, hR1⟩
          subst hI1
          subst hJ1
          subst hR1
          refine LA0 e193_48 ?_
          refine Ki e193_49 kiconst_0 ?_
          refine LI1 e193_50 ?_
          refine Cv2p e193_51 c193_185 (o152 L) (Nat.le_of_ble_eq_true rfl) (Nat.le_of_ble_eq_true rfl) (m_chainOf (p := k) h0 (by decide) hk amU_same) ?_
          rintro _ I2 J2 R2 ⟨rfl, hR2, hk2, hoth2, hD⟩
          subst hR2
          have hkk := hk0.tr hk2
          rcases hD with ⟨l, hll, hf2, hM⟩ | ⟨hll, hf2⟩
          · rw [hll]
            dsimp only
            refine LA0 e193_54 ?_
            refine Gi e193_55 (o152 L) (amGi_of f777 (by decide)) ?_
            rw [hf2]
            refine B_eq e193_58 t193_58 (fun _ => ?_) (fun q => absurd (rfl) q)
            refine LA0 e193_66 ?_
            refine Ki e193_67 kiconst_0 ?_
            refine LI2 e193_68 ?_
            refine I2l e193_69 ?_
            rw [i2l_oI u]
            refine LI3 e193_70 ?_
            refine I2l e193_71 ?_
            rw [i2l_oI v]
            refine Cv3 e193_72 c193_186 (o152 L) (Nat.le_of_ble_eq_true rfl) (Nat.le_of_ble_eq_true rfl) ((m_chgAt (u := u.toInt) (v := v.toInt) hR (by decide) hM)) ?_
            refine LA0 e193_75 ?_
            refine Ki e193_76 kiconst_0 ?_
            refine LI4 e193_77 ?_
            refine I2l e193_79 ?_
            rw [i2l_oI t]
            refine LI5 e193_80 ?_
            refine I2l e193_82 ?_
            rw [i2l_oI s]
            refine Cv3 e193_83 c193_186 (o152 L) (Nat.le_of_ble_eq_true rfl) (Nat.le_of_ble_eq_true rfl) ((m_chgAt (u := t.toInt) (v := s.toInt) hR (by decide) hM)) ?_
            refine Isub e193_86 ?_
            exact Ri e193_87 rt193 (MP.k h hkk)
          · rw [hll]
            refine LA0 e193_54 ?_
            refine Gi e193_55 (o152 L) (amGi_of f777 (by decide)) ?_
            rw [hf2]
            refine B_eq e193_58 t193_58 (fun q => absurd q (by decide)) (fun _ => ?_)
            refine Ki e193_61 kbipush_m3 ?_
            refine Go e193_63 t193_63 ?_
            exact Ri e193_87 rt193 (MP.k h hkk)
        · refine Ki e193_42 kiconst_m1 ?_
          exact Ri e193_43 rt193 (by
          rw [if_neg (fun z => by
            first
              | exact bI_z h13 z.1
              | exact bI_z h23 z.2.1
              | (have g := z.1
                 have g2 := z.2.1
                 have b1 := mul_b (x := u.toInt) (y := s.toInt) (B := 1000) (C := 1000) (by omega) (by omega)
                 have b2 := mul_b (x := t.toInt) (y := v.toInt) (B := 1000) (C := 1000) (by omega) (by omega)
                 exact absurd ((oI_lt ⟨by omega, by omega⟩ ⟨by omega, by omega⟩).mpr z.2.2) (by first | exact h38 | exact Int64.not_lt.mpr h38)))]
          exact MP.rf h)
  · rw [if_neg hp]
    refine LA0 e193_0 ?_
    refine LI1 e193_1 ?_
    refine Cv1 e193_2 c193_157 (o152 L) (Nat.le_of_ble_eq_true rfl) (Nat.le_of_ble_eq_true rfl) ((m_isPoly h8 hPl.1)) ?_
    rw [show bI (decide (inP σ.1 p)) = 0 from by rw [decide_eq_false hp]; rfl]
    refine B_eq e193_5 t193_5 (fun _ => ?_) (fun q => absurd (rfl) q)
    refine Ki e193_42 kiconst_m1 ?_
    exact Ri e193_43 rt193 (MP.rf h)
set_option maxHeartbeats 2000000 in
theorem n_chain {p q m : Int32} (h : MSt I J R σ) : Cl 190 [.ref 152, .int p, .int q, .int m] (amSH L) I J R (MP I J R σ (.long (sChain σ.1 p q m))) := by
  obtain ⟨hR, hPl, -, -, -, -, hO⟩ := id h
  have h8 := hO.1.1
  have hk0 : MK I (amU I 152 9 0) J J := ⟨fun y i a b c => by unfold amU; rw [if_neg (by omega)], fun _ _ => rfl⟩
  have h0 : MSt (amU I 152 9 0) J R σ := h.k hk0
  unfold sChain
  show Ex 190 0 [some (.ref 152), some (.int p), some (.int q), some (.int m)] [] (amSH L) I J R _
  by_cases hp : inP σ.1 p
  · rw [if_pos hp]
    obtain ⟨k, hk, rfl, ek⟩ := hp.of h8
    have hok := hO.1.2 k hk
    rw [ek]
    have h5 := hok.2.2
    have ei : bI (decide (inP σ.1 (nI k))) = 1 := by rw [decide_eq_true hp]; rfl
    rcases Int.lt_or_le q.toInt (-1) with gq | gq
    · have e1 : ¬ q = -1 := fun z => by subst z; revert gq; decide
      refine LA0 e190_0 ?_
      refine LI1 e190_1 ?_
      refine Cv1 e190_2 c190_157 (o152 L) (Nat.le_of_ble_eq_true rfl) (Nat.le_of_ble_eq_true rfl) ((m_isPoly h8 hPl.1)) ?_
      rw [ei]
      refine B_eq e190_5 t190_5 (fun q => absurd q (by decide)) (fun _ => ?_)
      refine LI2 e190_8 ?_
      refine Ki e190_9 kiconst_m1 ?_
      refine C_lt e190_10 t190_10 (fun _ => ?_) (fun q => absurd (by rw [i32lt]; exact gq) q)
      refine Kd e190_29 kj4 ?_
      exact Rj e190_32 rt190 (by
      cases chn (σ.1.getD k zP) with
      | none => exact MP.rf h
      | some l =>
        dsimp only
        rw [if_neg e1, if_neg (fun z => by omega)]
        exact MP.rf h)
    · by_cases e1 : q = -1
      · subst e1
        refine LA0 e190_0 ?_
        refine LI1 e190_1 ?_
        refine Cv1 e190_2 c190_157 (o152 L) (Nat.le_of_ble_eq_true rfl) (Nat.le_of_ble_eq_true rfl) ((m_isPoly h8 hPl.1)) ?_
        rw [ei]
        refine B_eq e190_5 t190_5 (fun q => absurd q (by decide)) (fun _ => ?_)
        refine LI2 e190_8 ?_
        refine Ki e190_9 kiconst_m1 ?_
        refine C_lt e190_10 t190_10 (fun q => absurd q (by decide)) (fun _ => ?_)
        refine LI2 e190_13 ?_
        refine B_lt e190_14 t190_14 (fun _ => ?_) (fun q => absurd (by decide) q)
        refine LA0 e190_33 ?_
        refine Cv0p e190_34 c190_189 (o152 L) (Nat.le_of_ble_eq_true rfl) (Nat.le_of_ble_eq_true rfl) (m_opens) ?_
        rintro _ I1 J1 R1 ⟨rfl, hI1, hJ1, hR1⟩
        subst hI1
        subst hJ1
        subst hR1
        refine LA0 e190_37 ?_
        refine Ki e190_38 kiconst_0 ?_
        refine LI1 e190_39 ?_
        refine Cv2p e190_40 c190_185 (o152 L) (Nat.le_of_ble_eq_true rfl) (Nat.le_of_ble_eq_true rfl) (m_chainOf (p := k) h0 (by decide) hk amU_same) ?_
        rintro _ I2 J2 R2 ⟨rfl, hR2, hk2, hoth2, hD⟩
        subst hR2
        have hkk := hk0.tr hk2
        rcases hD with ⟨l, hll, hf2, hM⟩ | ⟨hll, hf2⟩
        · rw [hll]
          dsimp only
          refine LA0 e190_43 ?_
          refine Gi e190_44 (o152 L) (amGi_of f777 (by decide)) ?_
          rw [hf2]
          refine B_ne e190_47 t190_47 (fun q => absurd q ((fun z => z rfl))) (fun _ => ?_)
          refine LI2 e190_50 ?_
          refine LA0 e190_51 ?_
          refine Gr e190_52 (o152 L) (hR 152 17 184 rfl) f785 ?_
          refine Ki e190_55 kiconst_0 ?_
          refine AiN (k := 0) e190_56 (o184 L) (by decide) (by omega) (by decide) ?_
          rw [hM.1]
          refine C_lt e190_57 t190_57 (fun _ => ?_) (fun q => absurd (by rw [i32lt, nI_toInt (by have := hM.2.2.1; omega), show (-1 : Int32).toInt = -1 from rfl]; have := hM.2.1; omega) q)
          refine LI2 e190_64 ?_
          refine B_ge e190_65 t190_65 (fun q => absurd q (by decide)) (fun _ => ?_)
          refine LA0 e190_68 ?_
          refine Gr e190_69 (o152 L) (hR 152 17 184 rfl) f785 ?_
          refine Ki e190_72 kiconst_0 ?_
          refine AiN (k := 0) e190_73 (o184 L) (by decide) (by omega) (by decide) ?_
          rw [hM.1]
          refine I2l e190_74 ?_
          refine Go e190_75 t190_75 ?_
          exact Rj e190_86 rt190 (by
          rw [if_pos rfl]
          exact MP.k h hkk)
        · rw [hll]
          refine LA0 e190_43 ?_
          refine Gi e190_44 (o152 L) (amGi_of f777 (by decide)) ?_
          rw [hf2]
          refine B_ne e190_47 t190_47 (fun _ => ?_) (fun q => absurd (by decide) q)
          refine Kd e190_60 kj4 ?_
          exact Rj e190_63 rt190 (MP.k h hkk)
      · have g0 : 0 ≤ q.toInt := by
          rcases Int.lt_or_le q.toInt 0 with z | z
          · exfalso
            apply e1
            rw [← Int32.toInt_inj]
            show q.toInt = -1
            omega
          · exact z
        have h10n : ¬ q < -1 := fun z => by
          rw [i32lt, show (-1 : Int32).toInt = -1 from rfl] at z
          omega
        have h14n : ¬ q < 0 := fun z => by
          rw [i32lt, show (0 : Int32).toInt = 0 from rfl] at z
          omega
        have ed : decide ((0 : Int64) ≤ m.toInt64 ∧ m.toInt64 ≤ 4) = decide (0 ≤ m.toInt ∧ m.toInt ≤ 4) := decide_eq_decide.mpr (by
          rw [show (0 : Int64) = (0 : Int32).toInt64 from rfl, show (4 : Int64) = (4 : Int32).toInt64 from rfl, i64_le, i64_le]
          rfl)
        by_cases gm : 0 ≤ m.toInt ∧ m.toInt ≤ 4
        · have ⟨t, ht, em⟩ : ∃ t : Nat, t < 5 ∧ m = nI t := ⟨m.toInt.toNat, by omega, by rw [← Int32.toInt_inj, nI_toInt (by omega)]; omega⟩
          refine LA0 e190_0 ?_
          refine LI1 e190_1 ?_
          refine Cv1 e190_2 c190_157 (o152 L) (Nat.le_of_ble_eq_true rfl) (Nat.le_of_ble_eq_true rfl) ((m_isPoly h8 hPl.1)) ?_
          rw [ei]
          refine B_eq e190_5 t190_5 (fun q => absurd q (by decide)) (fun _ => ?_)
          refine LI2 e190_8 ?_
          refine Ki e190_9 kiconst_m1 ?_
          refine C_lt e190_10 t190_10 (fun q => absurd q (h10n)) (fun _ => ?_)
          refine LI2 e190_13 ?_
          refine B_lt e190_14 t190_14 (fun q => absurd q (h14n)) (fun _ => ?_)
          refine LI3 e190_17 ?_
          refine I2l e190_18 ?_
          refine K0 e190_19 ?_
          refine Kd e190_20 kj7 ?_
          refine Cs3 e190_23 c190_152 (Nat.le_of_ble_eq_true rfl) (Nat.le_of_ble_eq_true rfl) (m_in) ?_
          rw [ed, decide_eq_true gm]
          rw [show bI true = 1 from rfl]
          refine B_ne e190_26 t190_26 (fun _ => ?_) (fun q => absurd (by decide) q)
          refine LA0 e190_33 ?_
          refine Cv0p e190_34 c190_189 (o152 L) (Nat.le_of_ble_eq_true rfl) (Nat.le_of_ble_eq_true rfl) (m_opens) ?_
          rintro _ I1 J1 R1 ⟨rfl, hI1, hJ1, hR1⟩
          subst hI1
          subst hJ1
          subst hR1
          refine LA0 e190_37 ?_
          refine Ki e190_38 kiconst_0 ?_
          refine LI1 e190_39 ?_
          refine Cv2p e190_40 c190_185 (o152 L) (Nat.le_of_ble_eq_true rfl) (Nat.le_of_ble_eq_true rfl) (m_chainOf (p := k) h0 (by decide) hk amU_same) ?_
          rintro _ I2 J2 R2 ⟨rfl, hR2, hk2, hoth2, hD⟩
          subst hR2
          have hkk := hk0.tr hk2
          rcases hD with ⟨l, hll, hf2, hM⟩ | ⟨hll, hf2⟩
          · rw [hll]
            dsimp only
            rw [if_neg e1]
            have hl1 := hM.2.1
            have hl5 := hM.2.2.1
            by_cases gk : q.toInt < (l.length : Int)
            · rw [if_pos ⟨⟨g0, gk⟩, gm⟩]
              obtain ⟨i, hi, rfl⟩ : ∃ i : Nat, i < l.length ∧ q = nI i := ⟨q.toInt.toNat, by omega, by rw [← Int32.toInt_inj, nI_toInt (by omega)]; omega⟩
              subst em
              refine LA0 e190_43 ?_
              refine Gi e190_44 (o152 L) (amGi_of f777 (by decide)) ?_
              rw [hf2]
              refine B_ne e190_47 t190_47 (fun q => absurd q ((fun z => z rfl))) (fun _ => ?_)
              refine LI2 e190_50 ?_
              refine LA0 e190_51 ?_
              refine Gr e190_52 (o152 L) (hR 152 17 184 rfl) f785 ?_
              refine Ki e190_55 kiconst_0 ?_
              refine AiN (k := 0) e190_56 (o184 L) (by decide) (by omega) (by decide) ?_
              rw [hM.1]
              refine CN_lt (a := i) (b := l.length) e190_57 t190_57 rfl rfl (by omega) (by omega) (fun _ => ?_) (fun q => by omega)
              refine LI2 e190_64 ?_
              refine B_ge e190_65 t190_65 (fun _ => ?_) (fun q => absurd (by rw [i32le, nI_toInt (by omega), show (0 : Int32).toInt = 0 from rfl]; omega) q)
              refine LA0 e190_78 ?_
              refine Gr e190_79 (o152 L) (hR 152 16 165 rfl) f784 ?_
              refine LI2 e190_82 ?_
              refine ArN (k := i) e190_83 (o165 L) (by decide) rfl (by omega) (by decide) (mrow hR i (by omega)) ?_
              refine LI3 e190_84 ?_
              refine AjN (k := t) e190_85 (mo i (by omega)) rfl (by omega) (by decide) ?_
              exact Rj e190_86 rt190 (by
              have ei2 : (nI i).toInt.toNat = i := by rw [nI_toInt (by omega)]; omega
              have et2 : (nI t).toInt.toNat = t := by rw [nI_toInt (by omega)]; omega
              have e9 := hM.2.2.2.1 i hi t (by omega)
              rw [Nat.mul_zero, Nat.zero_add] at e9
              rw [ei2, et2, e9]
              exact MP.k h hkk)
            · rw [if_neg (fun z => gk z.1.2)]
              refine LA0 e190_43 ?_
              refine Gi e190_44 (o152 L) (amGi_of f777 (by decide)) ?_
              rw [hf2]
              refine B_ne e190_47 t190_47 (fun q => absurd q ((fun z => z rfl))) (fun _ => ?_)
              refine LI2 e190_50 ?_
              refine LA0 e190_51 ?_
              refine Gr e190_52 (o152 L) (hR 152 17 184 rfl) f785 ?_
              refine Ki e190_55 kiconst_0 ?_
              refine AiN (k := 0) e190_56 (o184 L) (by decide) (by omega) (by decide) ?_
              rw [hM.1]
              refine C_lt e190_57 t190_57 (fun q => absurd q (fun z => by rw [i32lt, nI_toInt (by omega)] at z; omega)) (fun _ => ?_)
              refine Kd e190_60 kj4 ?_
              exact Rj e190_63 rt190 (MP.k h hkk)
          · rw [hll]
            refine LA0 e190_43 ?_
            refine Gi e190_44 (o152 L) (amGi_of f777 (by decide)) ?_
            rw [hf2]
            refine B_ne e190_47 t190_47 (fun _ => ?_) (fun q => absurd (by decide) q)
            refine Kd e190_60 kj4 ?_
            exact Rj e190_63 rt190 (MP.k h hkk)
        · skip
          refine LA0 e190_0 ?_
          refine LI1 e190_1 ?_
          refine Cv1 e190_2 c190_157 (o152 L) (Nat.le_of_ble_eq_true rfl) (Nat.le_of_ble_eq_true rfl) ((m_isPoly h8 hPl.1)) ?_
          rw [ei]
          refine B_eq e190_5 t190_5 (fun q => absurd q (by decide)) (fun _ => ?_)
          refine LI2 e190_8 ?_
          refine Ki e190_9 kiconst_m1 ?_
          refine C_lt e190_10 t190_10 (fun q => absurd q (h10n)) (fun _ => ?_)
          refine LI2 e190_13 ?_
          refine B_lt e190_14 t190_14 (fun q => absurd q (h14n)) (fun _ => ?_)
          refine LI3 e190_17 ?_
          refine I2l e190_18 ?_
          refine K0 e190_19 ?_
          refine Kd e190_20 kj7 ?_
          refine Cs3 e190_23 c190_152 (Nat.le_of_ble_eq_true rfl) (Nat.le_of_ble_eq_true rfl) (m_in) ?_
          rw [ed, decide_eq_false gm]
          rw [show bI false = 0 from rfl]
          refine B_ne e190_26 t190_26 (fun q => absurd q ((fun z => z rfl))) (fun _ => ?_)
          refine Kd e190_29 kj4 ?_
          exact Rj e190_32 rt190 (by
          cases chn (σ.1.getD k zP) with
          | none => exact MP.rf h
          | some l =>
            dsimp only
            rw [if_neg e1, if_neg (fun z => gm z.2)]
            exact MP.rf h)
  · rw [if_neg hp]
    refine LA0 e190_0 ?_
    refine LI1 e190_1 ?_
    refine Cv1 e190_2 c190_157 (o152 L) (Nat.le_of_ble_eq_true rfl) (Nat.le_of_ble_eq_true rfl) ((m_isPoly h8 hPl.1)) ?_
    rw [show bI (decide (inP σ.1 p)) = 0 from by rw [decide_eq_false hp]; rfl]
    refine B_eq e190_5 t190_5 (fun _ => ?_) (fun q => absurd (rfl) q)
    refine Kd e190_29 kj4 ?_
    exact Rj e190_32 rt190 (MP.rf h)
end REF8
