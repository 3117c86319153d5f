/-! calls: list, set, get, into, image, back, count (printed by wip/whole/t54.py) -/
abbrev inL (q : Int32) : Prop := 0 ≤ q.toInt ∧ q.toInt < 4
theorem inL.of {q : Int32} (h : inL q) : ∃ k, k < 4 ∧ q = nI k ∧ q.toInt.toNat = k := ⟨q.toInt.toNat, by omega, by rw [← Int32.toInt_inj, nI_toInt (by omega)]; omega, rfl⟩
def sList (σ : PS) (q n : Int32) : Int32 × PS := if inL q ∧ n.toInt ≤ 24 then (if n.toInt < 0 then (-14, σ) else (1, (σ.1, σ.2.1, σ.2.2.1, σ.2.2.2.1, σ.2.2.2.2.1, (fun k => if k = q.toInt.toNat then some n.toInt.toNat else σ.2.2.2.2.2.1 k), fun k i => if k = q.toInt.toNat then 0 else σ.2.2.2.2.2.2 k i))) else (-1, σ)
def sSet (σ : PS) (q i v : Int32) : Int32 × PS := if inL q then (match σ.2.2.2.2.2.1 q.toInt.toNat with
    | none => (-11, σ)
    | some m => if 0 ≤ i.toInt ∧ i.toInt < (m : Int) then (1, (σ.1, σ.2.1, σ.2.2.1, σ.2.2.2.1, σ.2.2.2.2.1, σ.2.2.2.2.2.1, fun k j => if k = q.toInt.toNat ∧ j = i.toInt.toNat then v else σ.2.2.2.2.2.2 k j)) else (-13, σ)) else (-1, σ)
def sGet (σ : PS) (q i : Int32) : Int64 := if inL q then (match σ.2.2.2.2.2.1 q.toInt.toNat with
    | none => NOv
    | some m => if 0 ≤ i.toInt ∧ i.toInt < (m : Int) then (σ.2.2.2.2.2.2 q.toInt.toNat i.toInt.toNat).toInt64 else NOv) else NOv
def sInto (σ : PS) (p q i : Int32) : Int32 × PS := if inP σ.1 p ∧ inL q then (match σ.2.2.2.2.2.1 q.toInt.toNat with
    | none => (-11, σ)
    | some m => if i.toInt < 0 then (-13, σ) else if i.toInt < (m : Int) then (nI (min 5 (m - i.toInt.toNat)), (σ.1, σ.2.1, σ.2.2.1, σ.2.2.2.1, σ.2.2.2.2.1, σ.2.2.2.2.2.1, fun k j => if k = q.toInt.toNat ∧ i.toInt.toNat ≤ j ∧ j < i.toInt.toNat + 5 then iI (plP σ.1 p (j - i.toInt.toNat)) else σ.2.2.2.2.2.2 k j)) else (0, σ)) else (-1, σ)
def sImage (σ : PS) : Int32 × PS := (nI σ.1.length, (σ.1, some σ.1, σ.2.2))
def sBack (σ : PS) : Int32 × PS := match σ.2.1 with
  | none => (-6, σ)
  | some l => (nI l.length, (l, σ.2.1, σ.2.2))
def sCount (σ : PS) (t : Int32) : Int32 := if t = 0 then nI σ.1.length else if t = 1 then nI σ.2.2.2.1 else if t = 2 then nI σ.2.2.2.2.1.length else -1
section CALLS2
variable {L : Nat} {I : amI} {J : amJ} {R : amR} {Q : amQ} {σ : PS}
theorem kn0 {q : Int32} (h : ¬ inL q) : Rv 105 [.ref 149, .int q] (amSH L) I J R (.int 0) := by
  have h2 := w_known (L := L) (I := I) (J := J) (R := R) (k := q)
  rw [decide_eq_false h] at h2
  exact h2
theorem wsz {k : Nat} {v : Int32} (hR : amRok R) (hk : k < 4) (hv : I 151 k = v) : Rv 106 [.ref 149, .int (nI k)] (amSH L) I J R (.int v) := by
  have h := w_size (L := L) (I := I) (J := J) hR hk
  rw [hv] at h
  exact h
set_option maxHeartbeats 2000000 in
theorem k_list {q n : Int32} (h : CSt I J R σ) : Cl 135 [.ref 1, .int q, .int n] (amSH L) I J R (CP I J R (sList σ q n).2 (.int (sList σ q n).1)) := by
  obtain ⟨hR, ⟨x, y, hC⟩, hS, hK, hT, hW, hZ, hO⟩ := id h
  have h8 := hO.1.1
  unfold sList
  show Ex 135 0 [some (.ref 1), some (.int q), some (.int n)] [] (amSH L) I J R _
  by_cases hq : inL q
  · obtain ⟨k, hk, eq, ek⟩ := hq.of
    subst eq
    rw [ek]
    by_cases g1 : n.toInt ≤ 24
    · rw [if_pos ⟨hq, g1⟩]
      by_cases g2 : n.toInt < 0
      · rw [if_pos g2]
        refine LA0 e135_0 ?_
        refine Gr e135_1 (o1 L) (hR 1 15 149 rfl) f719 ?_
        refine LI1 e135_4 ?_
        refine Cv1 e135_5 c135_105 (o149 L) (Nat.le_of_ble_eq_true rfl) (Nat.le_of_ble_eq_true rfl) ((kn1 hk)) ?_
        refine B_eq e135_8 t135_8 (fun q => absurd q (by decide)) (fun _ => ?_)
        refine LI2 e135_11 ?_
        refine Ki e135_12 kbipush_24 ?_
        refine C_le e135_14 t135_14 (fun _ => ?_) (fun q => absurd (by simp only [i32le, show (24 : Int32).toInt = 24 from rfl]; omega) q)
        refine LI2 e135_19 ?_
        refine B_ge e135_20 t135_20 (fun q => absurd q (fun z => by simp only [i32le, show (0 : Int32).toInt = 0 from rfl] at z; omega)) (fun _ => ?_)
        refine Ki e135_23 kbipush_m14 ?_
        exact Ri e135_25 rt135 (CP.rf h)
      · rw [if_neg g2]
        obtain ⟨m, hm, rfl⟩ : ∃ m : Nat, m ≤ 24 ∧ n = nI m := ⟨n.toInt.toNat, by omega, by rw [← Int32.toInt_inj, nI_toInt (by omega)]; omega⟩
        have em : (nI m).toInt.toNat = m := by rw [nI_toInt (by omega)]; omega
        rw [em]
        refine LA0 e135_0 ?_
        refine Gr e135_1 (o1 L) (hR 1 15 149 rfl) f719 ?_
        refine LI1 e135_4 ?_
        refine Cv1 e135_5 c135_105 (o149 L) (Nat.le_of_ble_eq_true rfl) (Nat.le_of_ble_eq_true rfl) ((kn1 hk)) ?_
        refine B_eq e135_8 t135_8 (fun q => absurd q (by decide)) (fun _ => ?_)
        refine LI2 e135_11 ?_
        refine Ki e135_12 kbipush_24 ?_
        refine CN_le (a := m) (b := 24) e135_14 t135_14 rfl (by decide) (by omega) (by omega) (fun _ => ?_) (fun q => by omega)
        refine LI2 e135_19 ?_
        refine B_ge e135_20 t135_20 (fun _ => ?_) (fun q => absurd (nI_nn (by omega)) q)
        refine LA0 e135_26 ?_
        refine Gr e135_27 (o1 L) (hR 1 15 149 rfl) f719 ?_
        refine LI1 e135_30 ?_
        refine LI2 e135_31 ?_
        refine Cv2p e135_32 c135_107 (o149 L) (Nat.le_of_ble_eq_true rfl) (Nat.le_of_ble_eq_true rfl) (w_lay hR hk hm) ?_
        rintro _ I1 J1 R1 ⟨rfl, hI1, hJ1, hR1⟩
        subst hJ1
        subst hR1
        have hf : ∀ y, ¬ (y = 150 ∨ y = 151) → I1 y = I y := fun y hy => by
          funext i
          rw [hI1 y i, if_neg (by omega), if_neg (by omega)]
        refine Ki e135_35 kiconst_1 ?_
        exact Ri e135_36 rt135 (by
        refine ⟨rfl, ⟨hR, ⟨x, y, hC⟩, hS.cg (hf 2 (by decide)) (fun _ _ => rfl), hK.cg (hf 1 (by decide)) (hf 20 (by decide)) (fun _ _ => Or.inl rfl), hT.cg (hf 143 (by decide)) (hf 144 (by decide)), hW.cg (hf 147 (by decide)) (hf 148 (by decide)), fun k' hk' => ?_, ⟨hO.1, hO.2.1, hO.2.2.1, hO.2.2.2.1, fun k' m' e => ?_⟩⟩, fun y hy => hf y (by omega), fun _ _ => rfl, RC.rf⟩
        · dsimp only
          by_cases e : k' = k
          · subst e
            refine Or.inr ⟨m, if_pos rfl, by rw [hI1, if_pos ⟨rfl, rfl⟩], fun i hi => ?_⟩
            rw [hI1, if_neg (by omega), if_pos ⟨rfl, by omega, by omega⟩, if_pos rfl]
          · rw [if_neg e]
            rcases hZ k' hk' with ⟨z1, z2⟩ | ⟨m', z1, z2, z3⟩
            · exact Or.inl ⟨z1, by rw [hI1, if_neg (by omega), if_neg (by omega)]; exact z2⟩
            · have hm' := hO.2.2.2.2 k' m' z1
              refine Or.inr ⟨m', z1, by rw [hI1, if_neg (by omega), if_neg (by omega)]; exact z2, fun i hi => ?_⟩
              rw [hI1, if_neg (by omega), if_neg (by omega), if_neg e]
              exact z3 i hi
        · dsimp only at e
          by_cases e2 : k' = k
          · rw [if_pos e2] at e
            cases e
            exact hm
          · rw [if_neg e2] at e
            exact hO.2.2.2.2 k' m' e)
    · rw [if_neg (fun z => g1 z.2)]
      refine LA0 e135_0 ?_
      refine Gr e135_1 (o1 L) (hR 1 15 149 rfl) f719 ?_
      refine LI1 e135_4 ?_
      refine Cv1 e135_5 c135_105 (o149 L) (Nat.le_of_ble_eq_true rfl) (Nat.le_of_ble_eq_true rfl) ((kn1 hk)) ?_
      refine B_eq e135_8 t135_8 (fun q => absurd q (by decide)) (fun _ => ?_)
      refine LI2 e135_11 ?_
      refine Ki e135_12 kbipush_24 ?_
      refine C_le e135_14 t135_14 (fun q => absurd q (fun z => by simp only [i32le, show (24 : Int32).toInt = 24 from rfl] at z; omega)) (fun _ => ?_)
      refine Ki e135_17 kiconst_m1 ?_
      exact Ri e135_18 rt135 (CP.rf h)
  · rw [if_neg (fun z => hq z.1)]
    refine LA0 e135_0 ?_
    refine Gr e135_1 (o1 L) (hR 1 15 149 rfl) f719 ?_
    refine LI1 e135_4 ?_
    refine Cv1 e135_5 c135_105 (o149 L) (Nat.le_of_ble_eq_true rfl) (Nat.le_of_ble_eq_true rfl) ((kn0 hq)) ?_
    refine B_eq e135_8 t135_8 (fun _ => ?_) (fun q => absurd (rfl) q)
    refine Ki e135_17 kiconst_m1 ?_
    exact Ri e135_18 rt135 (CP.rf h)
set_option maxHeartbeats 2000000 in
theorem k_set {q i v : Int32} (h : CSt I J R σ) : Cl 136 [.ref 1, .int q, .int i, .int v] (amSH L) I J R (CP I J R (sSet σ q i v).2 (.int (sSet σ q i v).1)) := by
  obtain ⟨hR, ⟨x, y, hC⟩, hS, hK, hT, hW, hZ, hO⟩ := id h
  have h8 := hO.1.1
  unfold sSet
  show Ex 136 0 [some (.ref 1), some (.int q), some (.int i), some (.int v), none] [] (amSH L) I J R _
  by_cases hq : inL q
  · obtain ⟨k, hk, eq, ek⟩ := hq.of
    subst eq
    rw [if_pos hq, ek]
    rcases hZ k hk with ⟨z1, z2⟩ | ⟨m, z1, z2, z3⟩
    · rw [z1]
      refine LA0 e136_0 ?_
      refine Gr e136_1 (o1 L) (hR 1 15 149 rfl) f719 ?_
      refine LI1 e136_4 ?_
      refine Cv1 e136_5 c136_105 (o149 L) (Nat.le_of_ble_eq_true rfl) (Nat.le_of_ble_eq_true rfl) ((kn1 hk)) ?_
      refine B_ne e136_8 t136_8 (fun _ => ?_) (fun q => absurd (by decide) q)
      refine LA0 e136_13 ?_
      refine Gr e136_14 (o1 L) (hR 1 15 149 rfl) f719 ?_
      refine LI1 e136_17 ?_
      refine Cv1 e136_18 c136_106 (o149 L) (Nat.le_of_ble_eq_true rfl) (Nat.le_of_ble_eq_true rfl) ((wsz hR hk z2)) ?_
      refine SI4 e136_21 rfl ?_
      refine LI4 e136_23 ?_
      refine B_ge e136_25 t136_25 (fun q => absurd q (by decide)) (fun _ => ?_)
      refine Ki e136_28 kbipush_m11 ?_
      exact Ri e136_30 rt136 (CP.rf h)
    · rw [z1]
      have hm := hO.2.2.2.2 k m z1
      dsimp only
      by_cases g : 0 ≤ i.toInt ∧ i.toInt < (m : Int)
      · rw [if_pos g]
        obtain ⟨a, ha, rfl⟩ : ∃ a : Nat, a < m ∧ i = nI a := ⟨i.toInt.toNat, by omega, by rw [← Int32.toInt_inj, nI_toInt (by omega)]; omega⟩
        have ea : (nI a).toInt.toNat = a := by rw [nI_toInt (by omega)]; omega
        rw [ea]
        refine LA0 e136_0 ?_
        refine Gr e136_1 (o1 L) (hR 1 15 149 rfl) f719 ?_
        refine LI1 e136_4 ?_
        refine Cv1 e136_5 c136_105 (o149 L) (Nat.le_of_ble_eq_true rfl) (Nat.le_of_ble_eq_true rfl) ((kn1 hk)) ?_
        refine B_ne e136_8 t136_8 (fun _ => ?_) (fun q => absurd (by decide) q)
        refine LA0 e136_13 ?_
        refine Gr e136_14 (o1 L) (hR 1 15 149 rfl) f719 ?_
        refine LI1 e136_17 ?_
        refine Cv1 e136_18 c136_106 (o149 L) (Nat.le_of_ble_eq_true rfl) (Nat.le_of_ble_eq_true rfl) ((wsz hR hk z2)) ?_
        refine SI4 e136_21 rfl ?_
        refine LI4 e136_23 ?_
        refine B_ge e136_25 t136_25 (fun _ => ?_) (fun q => absurd (nI_nn (by omega)) q)
        refine LI2 e136_31 ?_
        refine B_lt e136_32 t136_32 (fun q => absurd q (nI_pos (by omega))) (fun _ => ?_)
        refine LI2 e136_35 ?_
        refine LI4 e136_36 ?_
        refine CN_lt (a := a) (b := m) e136_38 t136_38 rfl rfl (by omega) (by omega) (fun _ => ?_) (fun q => by omega)
        refine LA0 e136_44 ?_
        refine Gr e136_45 (o1 L) (hR 1 15 149 rfl) f719 ?_
        refine LI1 e136_48 ?_
        refine LI2 e136_49 ?_
        refine LI3 e136_50 ?_
        refine Cv3p e136_51 c136_109 (o149 L) (Nat.le_of_ble_eq_true rfl) (Nat.le_of_ble_eq_true rfl) (w_put hR hk z2 hm ha) ?_
        rintro _ I1 J1 R1 ⟨rfl, hI1, hJ1, hR1⟩
        subst hJ1
        subst hR1
        have hf : ∀ y, ¬ (y = 150) → I1 y = I y := fun y hy => by
          rw [hI1]; funext i; rw [amU_ne hy]
        refine Ki e136_54 kiconst_1 ?_
        exact Ri e136_55 rt136 (by
        refine ⟨rfl, ⟨hR, ⟨x, y, hC⟩, hS.cg (hf 2 (by decide)) (fun _ _ => rfl), hK.cg (hf 1 (by decide)) (hf 20 (by decide)) (fun _ _ => Or.inl rfl), hT.cg (hf 143 (by decide)) (hf 144 (by decide)), hW.cg (hf 147 (by decide)) (hf 148 (by decide)), fun k' hk' => ?_, hO⟩, fun y hy => hf y (by omega), fun _ _ => rfl, RC.rf⟩
        dsimp only
        rw [hf 151 (by decide)]
        rcases hZ k' hk' with ⟨y1, y2⟩ | ⟨m', y1, y2, y3⟩
        · exact Or.inl ⟨y1, y2⟩
        · have hm' := hO.2.2.2.2 k' m' y1
          refine Or.inr ⟨m', y1, y2, fun i hi => ?_⟩
          by_cases e : k' = k ∧ i = a
          · rw [if_pos e, hI1, e.1, e.2, amU_same]
          · rw [if_neg e, hI1, amU_ni (by omega)]
            exact y3 i hi)
      · rw [if_neg g]
        refine LA0 e136_0 ?_
        refine Gr e136_1 (o1 L) (hR 1 15 149 rfl) f719 ?_
        refine LI1 e136_4 ?_
        refine Cv1 e136_5 c136_105 (o149 L) (Nat.le_of_ble_eq_true rfl) (Nat.le_of_ble_eq_true rfl) ((kn1 hk)) ?_
        refine B_ne e136_8 t136_8 (fun _ => ?_) (fun q => absurd (by decide) q)
        refine LA0 e136_13 ?_
        refine Gr e136_14 (o1 L) (hR 1 15 149 rfl) f719 ?_
        refine LI1 e136_17 ?_
        refine Cv1 e136_18 c136_106 (o149 L) (Nat.le_of_ble_eq_true rfl) (Nat.le_of_ble_eq_true rfl) ((wsz hR hk z2)) ?_
        refine SI4 e136_21 rfl ?_
        refine LI4 e136_23 ?_
        refine B_ge e136_25 t136_25 (fun _ => ?_) (fun q => absurd (nI_nn (by omega)) q)
        refine LI2 e136_31 ?_
        refine B_lt e136_32 t136_32 (fun hh32 => ?_) (fun hh32 => ?_)
        · refine Ki e136_41 kbipush_m13 ?_
          exact Ri e136_43 rt136 (CP.rf h)
        · refine LI2 e136_35 ?_
          refine LI4 e136_36 ?_
          refine C_lt e136_38 t136_38 (fun hh38 => ?_) (fun hh38 => ?_)
          · exact (g ⟨by simp only [i32lt, i32le, nI_toInt (show m < 2 ^ 31 by omega), show (0 : Int32).toInt = 0 from rfl] at hh32; omega, by simp only [i32lt, i32le, nI_toInt (show m < 2 ^ 31 by omega), show (0 : Int32).toInt = 0 from rfl] at hh38; omega⟩).elim
          · refine Ki e136_41 kbipush_m13 ?_
            exact Ri e136_43 rt136 (CP.rf h)
  · rw [if_neg hq]
    refine LA0 e136_0 ?_
    refine Gr e136_1 (o1 L) (hR 1 15 149 rfl) f719 ?_
    refine LI1 e136_4 ?_
    refine Cv1 e136_5 c136_105 (o149 L) (Nat.le_of_ble_eq_true rfl) (Nat.le_of_ble_eq_true rfl) ((kn0 hq)) ?_
    refine B_ne e136_8 t136_8 (fun q => absurd q (fun z => z rfl)) (fun _ => ?_)
    refine Ki e136_11 kiconst_m1 ?_
    exact Ri e136_12 rt136 (CP.rf h)
set_option maxHeartbeats 2000000 in
theorem k_get {q i : Int32} (h : CSt I J R σ) : Cl 137 [.ref 1, .int q, .int i] (amSH L) I J R (CP I J R σ (.long (sGet σ q i))) := by
  obtain ⟨hR, ⟨x, y, hC⟩, hS, hK, hT, hW, hZ, hO⟩ := id h
  have h8 := hO.1.1
  unfold sGet
  show Ex 137 0 [some (.ref 1), some (.int q), some (.int i)] [] (amSH L) I J R _
  by_cases hq : inL q
  · obtain ⟨k, hk, eq, ek⟩ := hq.of
    subst eq
    rw [if_pos hq, ek]
    rcases hZ k hk with ⟨z1, z2⟩ | ⟨m, z1, z2, z3⟩
    · rw [z1]
      refine LA0 e137_0 ?_
      refine Gr e137_1 (o1 L) (hR 1 15 149 rfl) f719 ?_
      refine LI1 e137_4 ?_
      refine Cv1 e137_5 c137_105 (o149 L) (Nat.le_of_ble_eq_true rfl) (Nat.le_of_ble_eq_true rfl) ((kn1 hk)) ?_
      refine B_eq e137_8 t137_8 (fun q => absurd q (by decide)) (fun _ => ?_)
      refine LI2 e137_11 ?_
      refine B_lt e137_12 t137_12 (fun hh12 => ?_) (fun hh12 => ?_)
      · refine Kd e137_27 kj4 ?_
        exact Rj e137_30 rt137 (CP.rf h)
      · refine LI2 e137_15 ?_
        refine LA0 e137_16 ?_
        refine Gr e137_17 (o1 L) (hR 1 15 149 rfl) f719 ?_
        refine LI1 e137_20 ?_
        refine Cv1 e137_21 c137_106 (o149 L) (Nat.le_of_ble_eq_true rfl) (Nat.le_of_ble_eq_true rfl) ((wsz hR hk z2)) ?_
        refine C_lt e137_24 t137_24 (fun hh24 => ?_) (fun hh24 => ?_)
        · exact (by simp only [i32lt, i32le, show (0 : Int32).toInt = 0 from rfl, show (-1 : Int32).toInt = -1 from rfl] at hh12 hh24; omega : False).elim
        · refine Kd e137_27 kj4 ?_
          exact Rj e137_30 rt137 (CP.rf h)
    · rw [z1]
      have hm := hO.2.2.2.2 k m z1
      dsimp only
      by_cases g : 0 ≤ i.toInt ∧ i.toInt < (m : Int)
      · rw [if_pos g]
        obtain ⟨a, ha, rfl⟩ : ∃ a : Nat, a < m ∧ i = nI a := ⟨i.toInt.toNat, by omega, by rw [← Int32.toInt_inj, nI_toInt (by omega)]; omega⟩
        have ea : (nI a).toInt.toNat = a := by rw [nI_toInt (by omega)]; omega
        rw [ea, ← z3 a ha]
        refine LA0 e137_0 ?_
        refine Gr e137_1 (o1 L) (hR 1 15 149 rfl) f719 ?_
        refine LI1 e137_4 ?_
        refine Cv1 e137_5 c137_105 (o149 L) (Nat.le_of_ble_eq_true rfl) (Nat.le_of_ble_eq_true rfl) ((kn1 hk)) ?_
        refine B_eq e137_8 t137_8 (fun q => absurd q (by decide)) (fun _ => ?_)
        refine LI2 e137_11 ?_
        refine B_lt e137_12 t137_12 (fun q => absurd q (nI_pos (by omega))) (fun _ => ?_)
        refine LI2 e137_15 ?_
        refine LA0 e137_16 ?_
        refine Gr e137_17 (o1 L) (hR 1 15 149 rfl) f719 ?_
        refine LI1 e137_20 ?_
        refine Cv1 e137_21 c137_106 (o149 L) (Nat.le_of_ble_eq_true rfl) (Nat.le_of_ble_eq_true rfl) ((wsz hR hk z2)) ?_
        refine CN_lt (a := a) (b := m) e137_24 t137_24 rfl rfl (by omega) (by omega) (fun _ => ?_) (fun q => by omega)
        refine LA0 e137_31 ?_
        refine Gr e137_32 (o1 L) (hR 1 15 149 rfl) f719 ?_
        refine LI1 e137_35 ?_
        refine LI2 e137_36 ?_
        refine Cv2 e137_37 c137_108 (o149 L) (Nat.le_of_ble_eq_true rfl) (Nat.le_of_ble_eq_true rfl) ((w_at hR hk z2 hm ha)) ?_
        refine I2l e137_40 ?_
        exact Rj e137_41 rt137 (CP.rf h)
      · rw [if_neg g]
        refine LA0 e137_0 ?_
        refine Gr e137_1 (o1 L) (hR 1 15 149 rfl) f719 ?_
        refine LI1 e137_4 ?_
        refine Cv1 e137_5 c137_105 (o149 L) (Nat.le_of_ble_eq_true rfl) (Nat.le_of_ble_eq_true rfl) ((kn1 hk)) ?_
        refine B_eq e137_8 t137_8 (fun q => absurd q (by decide)) (fun _ => ?_)
        refine LI2 e137_11 ?_
        refine B_lt e137_12 t137_12 (fun hh12 => ?_) (fun hh12 => ?_)
        · refine Kd e137_27 kj4 ?_
          exact Rj e137_30 rt137 (CP.rf h)
        · refine LI2 e137_15 ?_
          refine LA0 e137_16 ?_
          refine Gr e137_17 (o1 L) (hR 1 15 149 rfl) f719 ?_
          refine LI1 e137_20 ?_
          refine Cv1 e137_21 c137_106 (o149 L) (Nat.le_of_ble_eq_true rfl) (Nat.le_of_ble_eq_true rfl) ((wsz hR hk z2)) ?_
          refine C_lt e137_24 t137_24 (fun hh24 => ?_) (fun hh24 => ?_)
          · exact (g ⟨by simp only [i32lt, i32le, nI_toInt (show m < 2 ^ 31 by omega), show (0 : Int32).toInt = 0 from rfl] at hh12; omega, by simp only [i32lt, i32le, nI_toInt (show m < 2 ^ 31 by omega), show (0 : Int32).toInt = 0 from rfl] at hh24; omega⟩).elim
          · refine Kd e137_27 kj4 ?_
            exact Rj e137_30 rt137 (CP.rf h)
  · rw [if_neg hq]
    refine LA0 e137_0 ?_
    refine Gr e137_1 (o1 L) (hR 1 15 149 rfl) f719 ?_
    refine LI1 e137_4 ?_
    refine Cv1 e137_5 c137_105 (o149 L) (Nat.le_of_ble_eq_true rfl) (Nat.le_of_ble_eq_true rfl) ((kn0 hq)) ?_
    refine B_eq e137_8 t137_8 (fun _ => ?_) (fun q => absurd (rfl) q)
    refine Kd e137_27 kj4 ?_
    exact Rj e137_30 rt137 (CP.rf h)
set_option maxHeartbeats 2000000 in
theorem k_image (h : CSt I J R σ) : Cl 139 [.ref 1] (amSH L) I J R (CP I J R (sImage σ).2 (.int (sImage σ).1)) := by
  obtain ⟨hR, ⟨x, y, hC⟩, hS, hK, hT, hW, hZ, hO⟩ := id h
  have h8 := hO.1.1
  unfold sImage
  show Ex 139 0 [some (.ref 1)] [] (amSH L) I J R _
  refine LA0 e139_0 ?_
  refine Gr e139_1 (o1 L) (hR 1 1 20 rfl) f705 ?_
  refine LA0 e139_4 ?_
  refine Gr e139_5 (o1 L) (hR 1 0 2 rfl) f704 ?_
  refine Cv1p e139_8 c139_59 (o20 L) (Nat.le_of_ble_eq_true rfl) (Nat.le_of_ble_eq_true rfl) (s_copy (s := 20) (t := 2) (Or.inr rfl) (Or.inl rfl) (by decide) hR hS.1 h8) ?_
  rintro _ I1 J1 R1 ⟨rfl, hI1, hR1, hc⟩
  subst hR1
  have hf : ∀ y, y ≠ 1 → y ≠ 20 → amU I1 1 2 1 y = I y := fun y a b => by rw [hI1]; funext i; rw [amU_ne a, amU_ne b]
  have hn : amU I1 1 2 1 20 1 = nI σ.1.length := by rw [hI1, amU_ne (by decide), amU_same]
  refine LA0 e139_11 ?_
  refine Ki e139_12 kiconst_1 ?_
  refine Pz e139_13 (o1 L) f706 (by decide) ?_
  refine LA0 e139_16 ?_
  refine Gr e139_17 (o1 L) (hR 1 1 20 rfl) f705 ?_
  refine Cv0 e139_20 c139_53 (o20 L) (Nat.le_of_ble_eq_true rfl) (Nat.le_of_ble_eq_true rfl) ((s_size (s := 20) (Or.inr rfl) hn)) ?_
  exact Ri e139_23 rt139 (by
  refine ⟨rfl, ⟨hR, ⟨x, y, hC⟩, hS.cg (hf 2 (by decide) (by decide)) (fun k hk => hc.1 _ (fun i hi => by omega)), Or.inr ⟨σ.1, rfl, amU_same, hn, fun k hk i hi => ?_⟩, hT.cg (hf 143 (by decide) (by decide)) (hf 144 (by decide) (by decide)), hW.cg (hf 147 (by decide) (by decide)) (hf 148 (by decide) (by decide)), hZ.cg (hf 150 (by decide) (by decide)) (hf 151 (by decide) (by decide)), ⟨hO.1, fun l e => by cases e; exact hO.1, hO.2.2⟩⟩, fun y hy => hf y (by omega) (by omega), fun y hy => hc.1 y (fun i hi => by omega), RC.rf⟩
  rw [hc.2 k hk i hi]
  exact hS.2 k hk i hi)
set_option maxHeartbeats 2000000 in
theorem k_back (h : CSt I J R σ) : Cl 140 [.ref 1] (amSH L) I J R (CP I J R (sBack σ).2 (.int (sBack σ).1)) := by
  obtain ⟨hR, ⟨x, y, hC⟩, hS, hK, hT, hW, hZ, hO⟩ := id h
  have h8 := hO.1.1
  unfold sBack
  show Ex 140 0 [some (.ref 1)] [] (amSH L) I J R _
  rcases hK with ⟨e, h0⟩ | ⟨l, e, h1, h2⟩
  · rw [e]
    refine LA0 e140_0 ?_
    refine Gi e140_1 (o1 L) (amGi_of f706 (by decide)) ?_
    rw [h0]
    refine B_ne e140_4 t140_4 (fun q => absurd q (fun z => z rfl)) (fun _ => ?_)
    refine Ki e140_7 kbipush_m6 ?_
    exact Ri e140_9 rt140 (CP.rf h)
  · rw [e]
    have hl := hO.2.1 l e
    refine LA0 e140_0 ?_
    refine Gi e140_1 (o1 L) (amGi_of f706 (by decide)) ?_
    rw [h1]
    refine B_ne e140_4 t140_4 (fun _ => ?_) (fun q => absurd (by decide) q)
    refine LA0 e140_10 ?_
    refine Gr e140_11 (o1 L) (hR 1 0 2 rfl) f704 ?_
    refine LA0 e140_14 ?_
    refine Gr e140_15 (o1 L) (hR 1 1 20 rfl) f705 ?_
    refine Cv1p e140_18 c140_59 (o2 L) (Nat.le_of_ble_eq_true rfl) (Nat.le_of_ble_eq_true rfl) (s_copy (s := 2) (t := 20) (Or.inl rfl) (Or.inr rfl) (by decide) hR h2.1 hl.1) ?_
    rintro _ I1 J1 R1 ⟨rfl, hI1, hR1, hc⟩
    subst hR1
    have hf : ∀ y, y ≠ 2 → I1 y = I y := fun y a => by rw [hI1]; funext i; rw [amU_ne a]
    have hn : I1 2 1 = nI l.length := by rw [hI1, amU_same]
    refine LA0 e140_21 ?_
    refine Gr e140_22 (o1 L) (hR 1 0 2 rfl) f704 ?_
    refine Cv0 e140_25 c140_53 (o2 L) (Nat.le_of_ble_eq_true rfl) (Nat.le_of_ble_eq_true rfl) ((s_size (s := 2) (Or.inl rfl) hn)) ?_
    exact Ri e140_28 rt140 (by
    refine ⟨rfl, ⟨hR, ⟨x, y, hC⟩, ⟨hn, fun k hk i hi => ?_⟩, Or.inr ⟨l, rfl, by rw [hf 1 (by decide)]; exact h1, h2.cg (hf 20 (by decide)) (fun k hk => hc.1 _ (fun i hi => by have := hl.1; omega))⟩, hT.cg (hf 143 (by decide)) (hf 144 (by decide)), hW.cg (hf 147 (by decide)) (hf 148 (by decide)), hZ.cg (hf 150 (by decide)) (hf 151 (by decide)), ⟨hl, fun l' e' => hO.2.1 l' (e.trans e'), hO.2.2⟩⟩, fun y hy => hf y (by omega), fun y hy => hc.1 y (fun i hi => by have := hl.1; omega), RC.rf⟩
    rw [hc.2 k hk i hi]
    exact h2.2 k hk i hi)
set_option maxHeartbeats 2000000 in
theorem k_count {q : Int32} (h : CSt I J R σ) : Cl 141 [.ref 1, .int q] (amSH L) I J R (CP I J R σ (.int (sCount σ q))) := by
  obtain ⟨hR, ⟨x, y, hC⟩, hS, hK, hT, hW, hZ, hO⟩ := id h
  have h8 := hO.1.1
  unfold sCount
  show Ex 141 0 [some (.ref 1), some (.int q)] [] (amSH L) I J R _
  refine LI1 e141_0 ?_
  by_cases q0 : q = 0
  · subst q0
    rw [if_pos rfl]
    refine Tin e141_1 0 rfl (by decide) rfl (show amTg 1 27 = some 28 from by decide) ?_
    refine LA0 e141_28 ?_
    refine Gr e141_29 (o1 L) (hR 1 0 2 rfl) f704 ?_
    refine Cv0 e141_32 c141_53 (o2 L) (Nat.le_of_ble_eq_true rfl) (Nat.le_of_ble_eq_true rfl) ((s_size (s := 2) (Or.inl rfl) hS.1)) ?_
    exact Ri e141_35 rt141 (CP.rf h)
  by_cases q1 : q = 1
  · subst q1
    rw [if_neg (by decide), if_pos rfl]
    refine Tin e141_1 1 rfl (by decide) rfl (show amTg 1 35 = some 36 from by decide) ?_
    refine LA0 e141_36 ?_
    refine Gr e141_37 (o1 L) (hR 1 13 143 rfl) f717 ?_
    refine Cv0 e141_40 c141_80 (o143 L) (Nat.le_of_ble_eq_true rfl) (Nat.le_of_ble_eq_true rfl) ((t_length hT.1)) ?_
    exact Ri e141_43 rt141 (CP.rf h)
  by_cases q2 : q = 2
  · subst q2
    rw [if_neg (by decide), if_neg (by decide), if_pos rfl]
    refine Tin e141_1 2 rfl (by decide) rfl (show amTg 1 43 = some 44 from by decide) ?_
    refine LA0 e141_44 ?_
    refine Gr e141_45 (o1 L) (hR 1 14 147 rfl) f718 ?_
    refine Cv0 e141_48 c141_98 (o147 L) (Nat.le_of_ble_eq_true rfl) (Nat.le_of_ble_eq_true rfl) ((r_length hW.1)) ?_
    exact Ri e141_51 rt141 (CP.rf h)
  rw [if_neg q0, if_neg q1, if_neg q2]
  refine Tout e141_1 (show amTg 1 51 = some 52 from by decide) ?_ ?_
  · simp only [← Int32.toInt_inj, show (0 : Int32).toInt = 0 from rfl, show (1 : Int32).toInt = 1 from rfl, show (2 : Int32).toInt = 2 from rfl] at q0 q1 q2
    omega
  refine Ki e141_52 kiconst_m1 ?_
  exact Ri e141_53 rt141 (CP.rf h)
  
/-- t numbers of p are in the list k from a on -/
def inW (I I' : amI) (p : Po) (k a t : Nat) : Prop := ∀ b x, I' b x = if b = 150 ∧ k * 24 + a ≤ x ∧ x < k * 24 + a + t then iI (p (x - (k * 24 + a))) else I b x
set_option maxHeartbeats 2000000 in
theorem into_lp {l1 : Option Value} {k a m c : Nat} {p : Po} (hR : amRok R) (hk : k < 4) (hm : m ≤ 24) (ha : a < m) (hc : amPO (amSH L) R c) (hp : JP J (c + 1) p) (hz : I 151 k = nI m) (hQ : ∀ I', inW I I' p k a (min 5 (m - a)) → Q (some (.int (nI (min 5 (m - a))))) I' J R) : ∀ (f t : Nat) (I' : amI), t + f = 5 → a + t ≤ m → inW I I' p k a t → Ex 138 59 [some (.ref 1), l1, some (.int (nI k)), some (.int (nI a)), some (.ref c), some (.int (nI m)), some (.int (nI t)), some (.int (nI t))] [] (amSH L) I' J R Q := by
  intro f
  induction f with
  | zero =>
    intro t I' ht hat hI
    have e5 : min 5 (m - a) = t := by omega
    rw [e5] at hQ
    refine LI7 e138_59 ?_
    refine Ki e138_61 kiconst_4 ?_
    refine CN_gt (a := t) (b := 4) e138_62 t138_62 rfl (by decide) (by omega) (by omega) (fun _ => ?_) (fun q => by omega)
    refine LI6 e138_103 ?_
    exact Ri e138_105 rt138 (hQ _ hI)
  | succ f ih =>
    intro t I' ht hat hI
    have hz' : I' 151 k = nI m := by rw [hI, if_neg (by omega)]; exact hz
    by_cases g : a + t < m
    · refine LI7 e138_59 ?_
      refine Ki e138_61 kiconst_4 ?_
      refine CN_gt (a := t) (b := 4) e138_62 t138_62 rfl (by decide) (by omega) (by omega) (fun q => absurd q (by omega)) (fun _ => ?_)
      refine LI3 e138_65 ?_
      refine LI5 e138_66 ?_
      refine LI7 e138_68 ?_
      refine IsubN (a := m) (b := t) e138_70 rfl rfl (by omega) ?_
      refine CN_ge (a := a) (b := (m - t)) e138_71 t138_71 rfl rfl (by omega) (by omega) (fun q => absurd q (by omega)) (fun _ => ?_)
      refine LA0 e138_74 ?_
      refine Gr e138_75 (o1 L) (hR 1 15 149 rfl) f719 ?_
      refine LI2 e138_78 ?_
      refine LI3 e138_79 ?_
      refine LI7 e138_80 ?_
      refine IaddN (a := a) (b := t) e138_82 rfl rfl ?_
      refine LA4 e138_83 ?_
      refine LI7 e138_85 ?_
      refine Cv1 e138_87 c138_3 hc.1 (Nat.le_of_ble_eq_true rfl) (Nat.le_of_ble_eq_true rfl) ((p_at hc (nI t))) ?_
      rw [atv_n (by omega), hp t (by omega)]
      refine L2i e138_90 ?_
      rw [oI_i32]
      refine Cv3p e138_91 c138_109 (o149 L) (Nat.le_of_ble_eq_true rfl) (Nat.le_of_ble_eq_true rfl) (w_put hR hk hz' hm g) ?_
      rintro _ I1 J1 R1 ⟨rfl, hI1, hJ1, hR1⟩
      subst hJ1
      subst hR1
      refine IncN6 (m := t) e138_94 rfl ?_
      refine IncN7 (m := t) e138_97 rfl ?_
      refine Go e138_100 t138_100 ?_
      refine ih (t + 1) I1 (by omega) (by omega) (fun b x => ?_)
      rw [hI1]
      by_cases e : b = 150 ∧ x = k * 24 + (a + t)
      · rw [e.1, e.2, amU_same, if_pos ⟨rfl, by omega, by omega⟩, show k * 24 + (a + t) - (k * 24 + a) = t by omega]
      · have e2 : amU I' 150 (k * 24 + (a + t)) (iI (p t)) b x = I' b x := by
          unfold amU
          rw [if_neg e]
        rw [e2, hI]
        by_cases e3 : b = 150 ∧ k * 24 + a ≤ x ∧ x < k * 24 + a + t
        · rw [if_pos e3, if_pos ⟨e3.1, e3.2.1, by omega⟩]
        · rw [if_neg e3, if_neg (by omega)]
    · have e5 : min 5 (m - a) = t := by omega
      rw [e5] at hQ
      refine LI7 e138_59 ?_
      refine Ki e138_61 kiconst_4 ?_
      refine CN_gt (a := t) (b := 4) e138_62 t138_62 rfl (by decide) (by omega) (by omega) (fun q => absurd q (by omega)) (fun _ => ?_)
      refine LI3 e138_65 ?_
      refine LI5 e138_66 ?_
      refine LI7 e138_68 ?_
      refine IsubN (a := m) (b := t) e138_70 rfl rfl (by omega) ?_
      refine CN_ge (a := a) (b := (m - t)) e138_71 t138_71 rfl rfl (by omega) (by omega) (fun _ => ?_) (fun q => by omega)
      refine LI6 e138_103 ?_
      exact Ri e138_105 rt138 (hQ _ hI)
set_option maxHeartbeats 2000000 in
theorem k_into {p q i : Int32} (h : CSt I J R σ) : Cl 138 [.ref 1, .int p, .int q, .int i] (amSH L) I J R (CP I J R (sInto σ p q i).2 (.int (sInto σ p q i).1)) := by
  obtain ⟨hR, ⟨x, y, hC⟩, hS, hK, hT, hW, hZ, hO⟩ := id h
  have h8 := hO.1.1
  unfold sInto
  show Ex 138 0 [some (.ref 1), some (.int p), some (.int q), some (.int i), none, none, none, none] [] (amSH L) I J R _
  by_cases hp : inP σ.1 p
  · obtain ⟨c, hcl, ec, ek⟩ := hp.of h8
    subst ec
    rw [ek]
    have hok := hO.1.2 c hcl
    have ha : amPO (amSH L) R (2 + 2 + 2 * c) := (show SH 2 from Or.inl rfl).pm hR c (by omega)
    have hP := hS.2 c hcl
    by_cases hq : inL q
    · obtain ⟨k, hk, eq, ekk⟩ := hq.of
      subst eq
      rw [if_pos ⟨hp, hq⟩, ekk]
      rcases hZ k hk with ⟨z1, z2⟩ | ⟨m, z1, z2, z3⟩
      · rw [z1]
        refine LA0 e138_0 ?_
        refine Gr e138_1 (o1 L) (hR 1 0 2 rfl) f704 ?_
        refine LI1 e138_4 ?_
        refine Cv1 e138_5 c138_55 (o2 L) (Nat.le_of_ble_eq_true rfl) (Nat.le_of_ble_eq_true rfl) ((s_pick (s := 2) (Or.inl rfl) hR hS.1 h8 hcl)) ?_
        refine SA4 e138_8 rfl ?_
        refine LA4 e138_10 ?_
        refine N_null e138_12 t138_12 ?_
        refine LA0 e138_15 ?_
        refine Gr e138_16 (o1 L) (hR 1 15 149 rfl) f719 ?_
        refine LI2 e138_19 ?_
        refine Cv1 e138_20 c138_105 (o149 L) (Nat.le_of_ble_eq_true rfl) (Nat.le_of_ble_eq_true rfl) ((kn1 hk)) ?_
        refine B_ne e138_23 t138_23 (fun _ => ?_) (fun q => absurd (by decide) q)
        refine LA0 e138_28 ?_
        refine Gr e138_29 (o1 L) (hR 1 15 149 rfl) f719 ?_
        refine LI2 e138_32 ?_
        refine Cv1 e138_33 c138_106 (o149 L) (Nat.le_of_ble_eq_true rfl) (Nat.le_of_ble_eq_true rfl) ((wsz hR hk z2)) ?_
        refine SI5 e138_36 rfl ?_
        refine LI5 e138_38 ?_
        refine B_ge e138_40 t138_40 (fun q => absurd q (by decide)) (fun _ => ?_)
        refine Ki e138_43 kbipush_m11 ?_
        exact Ri e138_45 rt138 (CP.rf h)
      · rw [z1]
        have hm := hO.2.2.2.2 k m z1
        dsimp only
        by_cases g : i.toInt < 0
        · rw [if_pos g]
          refine LA0 e138_0 ?_
          refine Gr e138_1 (o1 L) (hR 1 0 2 rfl) f704 ?_
          refine LI1 e138_4 ?_
          refine Cv1 e138_5 c138_55 (o2 L) (Nat.le_of_ble_eq_true rfl) (Nat.le_of_ble_eq_true rfl) ((s_pick (s := 2) (Or.inl rfl) hR hS.1 h8 hcl)) ?_
          refine SA4 e138_8 rfl ?_
          refine LA4 e138_10 ?_
          refine N_null e138_12 t138_12 ?_
          refine LA0 e138_15 ?_
          refine Gr e138_16 (o1 L) (hR 1 15 149 rfl) f719 ?_
          refine LI2 e138_19 ?_
          refine Cv1 e138_20 c138_105 (o149 L) (Nat.le_of_ble_eq_true rfl) (Nat.le_of_ble_eq_true rfl) ((kn1 hk)) ?_
          refine B_ne e138_23 t138_23 (fun _ => ?_) (fun q => absurd (by decide) q)
          refine LA0 e138_28 ?_
          refine Gr e138_29 (o1 L) (hR 1 15 149 rfl) f719 ?_
          refine LI2 e138_32 ?_
          refine Cv1 e138_33 c138_106 (o149 L) (Nat.le_of_ble_eq_true rfl) (Nat.le_of_ble_eq_true rfl) ((wsz hR hk z2)) ?_
          refine SI5 e138_36 rfl ?_
          refine LI5 e138_38 ?_
          refine B_ge e138_40 t138_40 (fun _ => ?_) (fun q => absurd (nI_nn (by omega)) q)
          refine LI3 e138_46 ?_
          refine B_ge e138_47 t138_47 (fun q => absurd q (fun z => by simp only [i32le, show (0 : Int32).toInt = 0 from rfl] at z; omega)) (fun _ => ?_)
          refine Ki e138_50 kbipush_m13 ?_
          exact Ri e138_52 rt138 (CP.rf h)
        · rw [if_neg g]
          by_cases g2 : i.toInt < (m : Int)
          · rw [if_pos g2]
            obtain ⟨a, haa, rfl⟩ : ∃ a : Nat, a < m ∧ i = nI a := ⟨i.toInt.toNat, by omega, by rw [← Int32.toInt_inj, nI_toInt (by omega)]; omega⟩
            have ea : (nI a).toInt.toNat = a := by rw [nI_toInt (by omega)]; omega
            rw [ea]
            refine LA0 e138_0 ?_
            refine Gr e138_1 (o1 L) (hR 1 0 2 rfl) f704 ?_
            refine LI1 e138_4 ?_
            refine Cv1 e138_5 c138_55 (o2 L) (Nat.le_of_ble_eq_true rfl) (Nat.le_of_ble_eq_true rfl) ((s_pick (s := 2) (Or.inl rfl) hR hS.1 h8 hcl)) ?_
            refine SA4 e138_8 rfl ?_
            refine LA4 e138_10 ?_
            refine N_null e138_12 t138_12 ?_
            refine LA0 e138_15 ?_
            refine Gr e138_16 (o1 L) (hR 1 15 149 rfl) f719 ?_
            refine LI2 e138_19 ?_
            refine Cv1 e138_20 c138_105 (o149 L) (Nat.le_of_ble_eq_true rfl) (Nat.le_of_ble_eq_true rfl) ((kn1 hk)) ?_
            refine B_ne e138_23 t138_23 (fun _ => ?_) (fun q => absurd (by decide) q)
            refine LA0 e138_28 ?_
            refine Gr e138_29 (o1 L) (hR 1 15 149 rfl) f719 ?_
            refine LI2 e138_32 ?_
            refine Cv1 e138_33 c138_106 (o149 L) (Nat.le_of_ble_eq_true rfl) (Nat.le_of_ble_eq_true rfl) ((wsz hR hk z2)) ?_
            refine SI5 e138_36 rfl ?_
            refine LI5 e138_38 ?_
            refine B_ge e138_40 t138_40 (fun _ => ?_) (fun q => absurd (nI_nn (by omega)) q)
            refine LI3 e138_46 ?_
            refine B_ge e138_47 t138_47 (fun _ => ?_) (fun q => absurd (nI_nn (by omega)) q)
            refine Ki e138_53 kiconst_0 ?_
            refine SI6 e138_54 rfl ?_
            refine Ki e138_56 kiconst_0 ?_
            refine SI7 e138_57 rfl ?_
            refine into_lp (t := 0) hR hk hm haa ha hP z2 (fun I1 hI1 => ?_) 5 I rfl (by omega) (fun b x => by rw [if_neg (by omega)])
            have hf : ∀ y, ¬ y = 150 → I1 y = I y := fun y hy => by funext i; rw [hI1, if_neg (fun z => hy z.1)]
            refine ⟨rfl, ⟨hR, ⟨x, y, hC⟩, hS.cg (hf 2 (by decide)) (fun _ _ => rfl), hK.cg (hf 1 (by decide)) (hf 20 (by decide)) (fun _ _ => Or.inl rfl), hT.cg (hf 143 (by decide)) (hf 144 (by decide)), hW.cg (hf 147 (by decide)) (hf 148 (by decide)), fun k' hk' => ?_, hO⟩, fun y hy => hf y (by omega), fun _ _ => rfl, RC.rf⟩
            dsimp only
            rw [hf 151 (by decide)]
            rcases hZ k' hk' with ⟨y1, y2⟩ | ⟨m', y1, y2, y3⟩
            · exact Or.inl ⟨y1, y2⟩
            · have hm' := hO.2.2.2.2 k' m' y1
              refine Or.inr ⟨m', y1, y2, fun i hi => ?_⟩
              have e9 : k' = k → m' = m := fun e => by
                subst e
                rw [z1] at y1
                exact (Option.some.inj y1).symm
              rw [hI1]
              by_cases e : k' = k ∧ a ≤ i ∧ i < a + 5
              · have := e9 e.1
                rw [if_pos ⟨rfl, by omega, by omega⟩, if_pos e, show k' * 24 + i - (k * 24 + a) = i - a by omega]
              · rw [if_neg (by omega), if_neg e]
                exact y3 i hi
          · rw [if_neg g2]
            refine LA0 e138_0 ?_
            refine Gr e138_1 (o1 L) (hR 1 0 2 rfl) f704 ?_
            refine LI1 e138_4 ?_
            refine Cv1 e138_5 c138_55 (o2 L) (Nat.le_of_ble_eq_true rfl) (Nat.le_of_ble_eq_true rfl) ((s_pick (s := 2) (Or.inl rfl) hR hS.1 h8 hcl)) ?_
            refine SA4 e138_8 rfl ?_
            refine LA4 e138_10 ?_
            refine N_null e138_12 t138_12 ?_
            refine LA0 e138_15 ?_
            refine Gr e138_16 (o1 L) (hR 1 15 149 rfl) f719 ?_
            refine LI2 e138_19 ?_
            refine Cv1 e138_20 c138_105 (o149 L) (Nat.le_of_ble_eq_true rfl) (Nat.le_of_ble_eq_true rfl) ((kn1 hk)) ?_
            refine B_ne e138_23 t138_23 (fun _ => ?_) (fun q => absurd (by decide) q)
            refine LA0 e138_28 ?_
            refine Gr e138_29 (o1 L) (hR 1 15 149 rfl) f719 ?_
            refine LI2 e138_32 ?_
            refine Cv1 e138_33 c138_106 (o149 L) (Nat.le_of_ble_eq_true rfl) (Nat.le_of_ble_eq_true rfl) ((wsz hR hk z2)) ?_
            refine SI5 e138_36 rfl ?_
            refine LI5 e138_38 ?_
            refine B_ge e138_40 t138_40 (fun _ => ?_) (fun q => absurd (nI_nn (by omega)) q)
            refine LI3 e138_46 ?_
            refine B_ge e138_47 t138_47 (fun _ => ?_) (fun q => absurd (by simp only [i32le, show (0 : Int32).toInt = 0 from rfl]; omega) q)
            refine Ki e138_53 kiconst_0 ?_
            refine SI6 e138_54 rfl ?_
            refine Ki e138_56 kiconst_0 ?_
            refine SI7 e138_57 rfl ?_
            refine LI7 e138_59 ?_
            refine Ki e138_61 kiconst_4 ?_
            refine CN_gt (a := 0) (b := 4) e138_62 t138_62 (by decide) (by decide) (by omega) (by omega) (fun q => absurd q (by decide)) (fun _ => ?_)
            refine LI3 e138_65 ?_
            refine LI5 e138_66 ?_
            refine LI7 e138_68 ?_
            refine Isub e138_70 ?_
            refine C_ge e138_71 t138_71 (fun _ => ?_) (fun q => absurd (by rw [show nI m - (0 : Int32) = nI m from by rw [← Int32.toInt_inj]; simp]; simp only [i32le, nI_toInt (show m < 2 ^ 31 by omega)]; omega) q)
            refine LI6 e138_103 ?_
            exact Ri e138_105 rt138 (CP.rf h)
    · rw [if_neg (fun z => hq z.2)]
      refine LA0 e138_0 ?_
      refine Gr e138_1 (o1 L) (hR 1 0 2 rfl) f704 ?_
      refine LI1 e138_4 ?_
      refine Cv1 e138_5 c138_55 (o2 L) (Nat.le_of_ble_eq_true rfl) (Nat.le_of_ble_eq_true rfl) ((s_pick (s := 2) (Or.inl rfl) hR hS.1 h8 hcl)) ?_
      refine SA4 e138_8 rfl ?_
      refine LA4 e138_10 ?_
      refine N_null e138_12 t138_12 ?_
      refine LA0 e138_15 ?_
      refine Gr e138_16 (o1 L) (hR 1 15 149 rfl) f719 ?_
      refine LI2 e138_19 ?_
      refine Cv1 e138_20 c138_105 (o149 L) (Nat.le_of_ble_eq_true rfl) (Nat.le_of_ble_eq_true rfl) ((kn0 hq)) ?_
      refine B_ne e138_23 t138_23 (fun q => absurd q (fun z => z rfl)) (fun _ => ?_)
      refine Ki e138_26 kiconst_m1 ?_
      exact Ri e138_27 rt138 (CP.rf h)
  · rw [if_neg (fun z => hp z.1)]
    refine LA0 e138_0 ?_
    refine Gr e138_1 (o1 L) (hR 1 0 2 rfl) f704 ?_
    refine LI1 e138_4 ?_
    refine Cv1 e138_5 c138_55 (o2 L) (Nat.le_of_ble_eq_true rfl) (Nat.le_of_ble_eq_true rfl) ((s_pickno (s := 2) (Or.inl rfl) hR hS.1 h8 hp)) ?_
    refine SN4 e138_8 rfl ?_
    refine LN4 e138_10 ?_
    refine Z_null e138_12 t138_12 ?_
    refine Ki e138_26 kiconst_m1 ?_
    exact Ri e138_27 rt138 (CP.rf h)
end CALLS2
