/-! calls: make (printed by wip/whole/t56.py) -/
theorem pw9 {k : Int} {n : Nat} (hk : k.natAbs ≤ 9) (hn : n ≤ 5) : (k ^ n).natAbs ≤ 59049 := by
  rw [Int.natAbs_pow]
  exact Nat.le_trans (Nat.pow_le_pow_left hk n) (Nat.le_trans (Nat.pow_le_pow_right (by decide) hn) (by decide))
theorem strP_PB {p : Po} {k : Int} (hp : PB 999 p) (hk : k.natAbs ≤ 9) : PB 4000000000000000000 (strP p k 5) := fun i hi => by
  unfold strP
  have h := hp i hi
  split
  · have := mul_b (x := p i) (y := k ^ i) (B := 999) (C := 59049) (by omega) (pw9 hk (by omega))
    exact ⟨by omega, by omega⟩
  · exact ⟨by omega, by omega⟩
theorem shN_PB {k : Int} (hk : k.natAbs ≤ 9) {s : Nat} : ∀ {n : Nat} {B : Nat} {p : Po}, s + n ≤ 4 → (∀ i, i < 9 → (p i).natAbs ≤ B) → ∀ i, i < 9 → (shN k s n p i).natAbs ≤ 10 ^ n * B
  | 0, B, p, _, h => fun i hi => by rw [shN]; have := h i hi; omega
  | n + 1, B, p, hn, h => fun i hi => by
    rw [shN]
    have h2 := shN_PB hk (s := s) (n := n) (B := 10 * B) (p := pU p (s + n) (p (s + n) + k * p (s + n + 1))) (by omega) (fun i hi => by
      unfold pU
      split
      · have h1 := mul_b (x := k) (y := p (s + n + 1)) hk (h (s + n + 1) (by omega))
        have h3 := h (s + n) (by omega)
        have h4 := Int.natAbs_add_le (p (s + n)) (k * p (s + n + 1))
        omega
      · have := h i hi; omega) i hi
    rw [Nat.pow_succ, Nat.mul_assoc]
    exact h2
theorem shO_PB {k : Int} (hk : k.natAbs ≤ 9) {p : Po} (hp : PB 999 p) : PB 4000000000000000000 (shO k 4 0 p) := fun i hi => by
  have h0 := shN_PB hk (s := 0) (n := 4) (B := 999) (p := p) (by decide) (fun i hi => by have := hp i hi; omega)
  have h1 := shN_PB hk (s := 1) (n := 3) (by decide) h0
  have h2 := shN_PB hk (s := 2) (n := 2) (by decide) h1
  have h3 := shN_PB hk (s := 3) (n := 1) (by decide) h2 i hi
  show _ ∧ _
  have e : shO k 4 0 p i = shN k 3 1 (shN k 2 2 (shN k 1 3 (shN k 0 4 p))) i := rfl
  rw [e]
  exact ⟨by omega, by omega⟩
theorem mkF_PB {t : Nat} {p q g : Po} {k : Int} (h : mkF t p q k = some g) (hp : PB 999 p) (hq : PB 999 q) (hk : k.natAbs ≤ 9) (hs : sz p ≤ 9) : PB 4000000000000000000 g := by
  unfold mkF at h
  split at h
  · cases h; exact fun i hi => by have h1 := hp i hi; have h2 := hq i hi; dsimp only; exact ⟨by omega, by omega⟩
  · cases h; exact cv_PB (hp.mono (by decide)) (hq.mono (by decide))
  · cases h; exact fun i hi => by have h1 := hp i hi; have h2 := hq i hi; dsimp only; exact ⟨by omega, by omega⟩
  · exact (com_PB h).mono (by decide)
  · cases h; exact (der_PB (hp.mono (by decide))).mono (by decide)
  · cases h; exact strP_PB hp (by decide)
  · cases h; exact shO_PB hk hp
  · cases h; exact strP_PB hp hk
  · cases h; exact fun i hi => by
      unfold revN
      split
      · have h1 := hp (sz p - 1 - i) (by omega); exact ⟨by omega, by omega⟩
      · have h1 := hp i hi; exact ⟨by omega, by omega⟩
  · exact (fre_PB h).mono (by decide)
  · exact (rem_PB h).mono (by decide)
  · split at h
    · cases h
    · unfold pfm at h
      split at h
      · split at h
        · cases h
          rename_i e
          exact (fit_PB e).mono (by decide)
        · cases h
      · cases h
theorem FrM.k {I : amI} {J J' : amJ} (h : FrM J J') : FrK I I J J' := ⟨fun _ _ => rfl, fun y hy => h y (by omega) (by omega) (by omega) (by omega) (by omega) (by omega)⟩
section MAKE
variable {L : Nat} {I : amI} {J : amJ} {R : amR} {Q : amQ} {σ : PS}
set_option maxHeartbeats 2000000 in
theorem x_bad {t q : Int32} (h : CSt I J R σ) : Rv 143 [.ref 1, .int t, .int q] (amSH L) I J R (.int (bI (decide (¬ okJ σ.1 t q)))) := by
  obtain ⟨hR, ⟨x, y, hC⟩, hS, hK, hT, hW, hZ, hO⟩ := id h
  have h8 := hO.1.1
  intro Q hQ
  show Ex 143 0 [some (.ref 1), some (.int t), some (.int q)] [] (amSH L) I J R _
  by_cases hp : inP σ.1 q
  · obtain ⟨k, hk, eq, ek⟩ := hp.of h8
    subst eq
    refine LI1 e143_0 ?_
    refine Cs1 e143_1 c143_144 (Nat.le_of_ble_eq_true rfl) (Nat.le_of_ble_eq_true rfl) (x_two) ?_
    refine B_eq e143_4 t143_4 (fun h4 => ?_) (fun h4 => ?_)
    · refine LI1 e143_24 ?_
      refine Ki e143_25 kbipush_6 ?_
      refine C_eq e143_27 t143_27 (fun h27 => ?_) (fun h27 => ?_)
      · refine LI2 e143_36 ?_
        refine Ki e143_37 kbipush_m9 ?_
        refine C_lt e143_39 t143_39 (fun h39 => ?_) (fun h39 => ?_)
        · refine Ki e143_48 kiconst_1 ?_
          refine Go e143_49 t143_49 ?_
          exact Rz e143_53 rt143 (by decide) (by
          have e : bI (decide (¬ okJ σ.1 t (nI k))) = 1 := by
            rw [decide_eq_true]
            · rfl
            · unfold okJ
              rw [if_neg (bI_z h4), if_pos (by first | exact Or.inl h27 | exact Or.inr (Decidable.not_not.mp h33))]
              simp only [i32lt, i32le, show (-9 : Int32).toInt = -9 from rfl, show (9 : Int32).toInt = 9 from rfl, show (4 : Int32).toInt = 4 from rfl, show (1 : Int32).toInt = 1 from rfl] at *
              omega
          rw [e] at hQ
          exact hQ)
        · refine LI2 e143_42 ?_
          refine Ki e143_43 kbipush_9 ?_
          refine C_le e143_45 t143_45 (fun h45 => ?_) (fun h45 => ?_)
          · refine Ki e143_52 kiconst_0 ?_
            exact Rz e143_53 rt143 (by decide) (by
            have e : bI (decide (¬ okJ σ.1 t (nI k))) = 0 := by
              rw [decide_eq_false]
              · rfl
              · unfold okJ
                rw [if_neg (bI_z h4), if_pos (by first | exact Or.inl h27 | exact Or.inr (Decidable.not_not.mp h33))]
                simp only [i32lt, i32le, show (-9 : Int32).toInt = -9 from rfl, show (9 : Int32).toInt = 9 from rfl, show (4 : Int32).toInt = 4 from rfl, show (1 : Int32).toInt = 1 from rfl] at *
                omega
            rw [e] at hQ
            exact hQ)
          · refine Ki e143_48 kiconst_1 ?_
            refine Go e143_49 t143_49 ?_
            exact Rz e143_53 rt143 (by decide) (by
            have e : bI (decide (¬ okJ σ.1 t (nI k))) = 1 := by
              rw [decide_eq_true]
              · rfl
              · unfold okJ
                rw [if_neg (bI_z h4), if_pos (by first | exact Or.inl h27 | exact Or.inr (Decidable.not_not.mp h33))]
                simp only [i32lt, i32le, show (-9 : Int32).toInt = -9 from rfl, show (9 : Int32).toInt = 9 from rfl, show (4 : Int32).toInt = 4 from rfl, show (1 : Int32).toInt = 1 from rfl] at *
                omega
            rw [e] at hQ
            exact hQ)
      · refine LI1 e143_30 ?_
        refine Ki e143_31 kbipush_7 ?_
        refine C_ne e143_33 t143_33 (fun h33 => ?_) (fun h33 => ?_)
        · refine LI1 e143_54 ?_
          refine Ki e143_55 kbipush_11 ?_
          refine C_ne e143_57 t143_57 (fun h57 => ?_) (fun h57 => ?_)
          · refine Ki e143_74 kiconst_0 ?_
            exact Rz e143_75 rt143 (by decide) (by
            have e : bI (decide (¬ okJ σ.1 t (nI k))) = 0 := by
              rw [decide_eq_false]
              · rfl
              · unfold okJ
                rw [if_neg (bI_z h4), if_neg (fun z => z.elim h27 h33)]
                first
                  | (rw [if_neg h57]; exact fun z => z trivial)
                  | (rw [if_pos (Decidable.not_not.mp h57)]
                     simp only [i32lt, i32le, show (-9 : Int32).toInt = -9 from rfl, show (9 : Int32).toInt = 9 from rfl, show (4 : Int32).toInt = 4 from rfl, show (1 : Int32).toInt = 1 from rfl] at *
                     omega)
            rw [e] at hQ
            exact hQ)
          · refine LI2 e143_60 ?_
            refine Ki e143_61 kiconst_1 ?_
            refine C_lt e143_62 t143_62 (fun h62 => ?_) (fun h62 => ?_)
            · refine Ki e143_70 kiconst_1 ?_
              refine Go e143_71 t143_71 ?_
              exact Rz e143_75 rt143 (by decide) (by
              have e : bI (decide (¬ okJ σ.1 t (nI k))) = 1 := by
                rw [decide_eq_true]
                · rfl
                · unfold okJ
                  rw [if_neg (bI_z h4), if_neg (fun z => z.elim h27 h33)]
                  first
                    | (rw [if_neg h57]; exact fun z => z trivial)
                    | (rw [if_pos (Decidable.not_not.mp h57)]
                       simp only [i32lt, i32le, show (-9 : Int32).toInt = -9 from rfl, show (9 : Int32).toInt = 9 from rfl, show (4 : Int32).toInt = 4 from rfl, show (1 : Int32).toInt = 1 from rfl] at *
                       omega)
              rw [e] at hQ
              exact hQ)
            · refine LI2 e143_65 ?_
              refine Ki e143_66 kiconst_4 ?_
              refine C_le e143_67 t143_67 (fun h67 => ?_) (fun h67 => ?_)
              · refine Ki e143_74 kiconst_0 ?_
                exact Rz e143_75 rt143 (by decide) (by
                have e : bI (decide (¬ okJ σ.1 t (nI k))) = 0 := by
                  rw [decide_eq_false]
                  · rfl
                  · unfold okJ
                    rw [if_neg (bI_z h4), if_neg (fun z => z.elim h27 h33)]
                    first
                      | (rw [if_neg h57]; exact fun z => z trivial)
                      | (rw [if_pos (Decidable.not_not.mp h57)]
                         simp only [i32lt, i32le, show (-9 : Int32).toInt = -9 from rfl, show (9 : Int32).toInt = 9 from rfl, show (4 : Int32).toInt = 4 from rfl, show (1 : Int32).toInt = 1 from rfl] at *
                         omega)
                rw [e] at hQ
                exact hQ)
              · refine Ki e143_70 kiconst_1 ?_
                refine Go e143_71 t143_71 ?_
                exact Rz e143_75 rt143 (by decide) (by
                have e : bI (decide (¬ okJ σ.1 t (nI k))) = 1 := by
                  rw [decide_eq_true]
                  · rfl
                  · unfold okJ
                    rw [if_neg (bI_z h4), if_neg (fun z => z.elim h27 h33)]
                    first
                      | (rw [if_neg h57]; exact fun z => z trivial)
                      | (rw [if_pos (Decidable.not_not.mp h57)]
                         simp only [i32lt, i32le, show (-9 : Int32).toInt = -9 from rfl, show (9 : Int32).toInt = 9 from rfl, show (4 : Int32).toInt = 4 from rfl, show (1 : Int32).toInt = 1 from rfl] at *
                         omega)
                rw [e] at hQ
                exact hQ)
        · refine LI2 e143_36 ?_
          refine Ki e143_37 kbipush_m9 ?_
          refine C_lt e143_39 t143_39 (fun h39 => ?_) (fun h39 => ?_)
          · refine Ki e143_48 kiconst_1 ?_
            refine Go e143_49 t143_49 ?_
            exact Rz e143_53 rt143 (by decide) (by
            have e : bI (decide (¬ okJ σ.1 t (nI k))) = 1 := by
              rw [decide_eq_true]
              · rfl
              · unfold okJ
                rw [if_neg (bI_z h4), if_pos (by first | exact Or.inl h27 | exact Or.inr (Decidable.not_not.mp h33))]
                simp only [i32lt, i32le, show (-9 : Int32).toInt = -9 from rfl, show (9 : Int32).toInt = 9 from rfl, show (4 : Int32).toInt = 4 from rfl, show (1 : Int32).toInt = 1 from rfl] at *
                omega
            rw [e] at hQ
            exact hQ)
          · refine LI2 e143_42 ?_
            refine Ki e143_43 kbipush_9 ?_
            refine C_le e143_45 t143_45 (fun h45 => ?_) (fun h45 => ?_)
            · refine Ki e143_52 kiconst_0 ?_
              exact Rz e143_53 rt143 (by decide) (by
              have e : bI (decide (¬ okJ σ.1 t (nI k))) = 0 := by
                rw [decide_eq_false]
                · rfl
                · unfold okJ
                  rw [if_neg (bI_z h4), if_pos (by first | exact Or.inl h27 | exact Or.inr (Decidable.not_not.mp h33))]
                  simp only [i32lt, i32le, show (-9 : Int32).toInt = -9 from rfl, show (9 : Int32).toInt = 9 from rfl, show (4 : Int32).toInt = 4 from rfl, show (1 : Int32).toInt = 1 from rfl] at *
                  omega
              rw [e] at hQ
              exact hQ)
            · refine Ki e143_48 kiconst_1 ?_
              refine Go e143_49 t143_49 ?_
              exact Rz e143_53 rt143 (by decide) (by
              have e : bI (decide (¬ okJ σ.1 t (nI k))) = 1 := by
                rw [decide_eq_true]
                · rfl
                · unfold okJ
                  rw [if_neg (bI_z h4), if_pos (by first | exact Or.inl h27 | exact Or.inr (Decidable.not_not.mp h33))]
                  simp only [i32lt, i32le, show (-9 : Int32).toInt = -9 from rfl, show (9 : Int32).toInt = 9 from rfl, show (4 : Int32).toInt = 4 from rfl, show (1 : Int32).toInt = 1 from rfl] at *
                  omega
              rw [e] at hQ
              exact hQ)
    · refine LA0 e143_7 ?_
      refine Gr e143_8 (o1 L) (hR 1 0 2 rfl) f704 ?_
      refine LI2 e143_11 ?_
      refine Cv1 e143_12 c143_55 (o2 L) (Nat.le_of_ble_eq_true rfl) (Nat.le_of_ble_eq_true rfl) ((s_pick (s := 2) (Or.inl rfl) hR hS.1 h8 hk)) ?_
      refine N_nonnull e143_15 t143_15 ?_
      refine Ki e143_22 kiconst_0 ?_
      exact Rz e143_23 rt143 (by decide) (by
      have e : bI (decide (¬ okJ σ.1 t (nI k))) = 0 := by
        rw [decide_eq_false]
        · rfl
        · unfold okJ
          rw [if_pos (bI_t h4)]
          exact fun z => z hp
      rw [e] at hQ
      exact hQ)
  · show Ex 143 0 [some (.ref 1), some (.int t), some (.int q)] [] (amSH L) I J R _
    refine LI1 e143_0 ?_
    refine Cs1 e143_1 c143_144 (Nat.le_of_ble_eq_true rfl) (Nat.le_of_ble_eq_true rfl) (x_two) ?_
    refine B_eq e143_4 t143_4 (fun h4 => ?_) (fun h4 => ?_)
    · refine LI1 e143_24 ?_
      refine Ki e143_25 kbipush_6 ?_
      refine C_eq e143_27 t143_27 (fun h27 => ?_) (fun h27 => ?_)
      · refine LI2 e143_36 ?_
        refine Ki e143_37 kbipush_m9 ?_
        refine C_lt e143_39 t143_39 (fun h39 => ?_) (fun h39 => ?_)
        · refine Ki e143_48 kiconst_1 ?_
          refine Go e143_49 t143_49 ?_
          exact Rz e143_53 rt143 (by decide) (by
          have e : bI (decide (¬ okJ σ.1 t q)) = 1 := by
            rw [decide_eq_true]
            · rfl
            · unfold okJ
              rw [if_neg (bI_z h4), if_pos (by first | exact Or.inl h27 | exact Or.inr (Decidable.not_not.mp h33))]
              simp only [i32lt, i32le, show (-9 : Int32).toInt = -9 from rfl, show (9 : Int32).toInt = 9 from rfl, show (4 : Int32).toInt = 4 from rfl, show (1 : Int32).toInt = 1 from rfl] at *
              omega
          rw [e] at hQ
          exact hQ)
        · refine LI2 e143_42 ?_
          refine Ki e143_43 kbipush_9 ?_
          refine C_le e143_45 t143_45 (fun h45 => ?_) (fun h45 => ?_)
          · refine Ki e143_52 kiconst_0 ?_
            exact Rz e143_53 rt143 (by decide) (by
            have e : bI (decide (¬ okJ σ.1 t q)) = 0 := by
              rw [decide_eq_false]
              · rfl
              · unfold okJ
                rw [if_neg (bI_z h4), if_pos (by first | exact Or.inl h27 | exact Or.inr (Decidable.not_not.mp h33))]
                simp only [i32lt, i32le, show (-9 : Int32).toInt = -9 from rfl, show (9 : Int32).toInt = 9 from rfl, show (4 : Int32).toInt = 4 from rfl, show (1 : Int32).toInt = 1 from rfl] at *
                omega
            rw [e] at hQ
            exact hQ)
          · refine Ki e143_48 kiconst_1 ?_
            refine Go e143_49 t143_49 ?_
            exact Rz e143_53 rt143 (by decide) (by
            have e : bI (decide (¬ okJ σ.1 t q)) = 1 := by
              rw [decide_eq_true]
              · rfl
              · unfold okJ
                rw [if_neg (bI_z h4), if_pos (by first | exact Or.inl h27 | exact Or.inr (Decidable.not_not.mp h33))]
                simp only [i32lt, i32le, show (-9 : Int32).toInt = -9 from rfl, show (9 : Int32).toInt = 9 from rfl, show (4 : Int32).toInt = 4 from rfl, show (1 : Int32).toInt = 1 from rfl] at *
                omega
            rw [e] at hQ
            exact hQ)
      · refine LI1 e143_30 ?_
        refine Ki e143_31 kbipush_7 ?_
        refine C_ne e143_33 t143_33 (fun h33 => ?_) (fun h33 => ?_)
        · refine LI1 e143_54 ?_
          refine Ki e143_55 kbipush_11 ?_
          refine C_ne e143_57 t143_57 (fun h57 => ?_) (fun h57 => ?_)
          · refine Ki e143_74 kiconst_0 ?_
            exact Rz e143_75 rt143 (by decide) (by
            have e : bI (decide (¬ okJ σ.1 t q)) = 0 := by
              rw [decide_eq_false]
              · rfl
              · unfold okJ
                rw [if_neg (bI_z h4), if_neg (fun z => z.elim h27 h33)]
                first
                  | (rw [if_neg h57]; exact fun z => z trivial)
                  | (rw [if_pos (Decidable.not_not.mp h57)]
                     simp only [i32lt, i32le, show (-9 : Int32).toInt = -9 from rfl, show (9 : Int32).toInt = 9 from rfl, show (4 : Int32).toInt = 4 from rfl, show (1 : Int32).toInt = 1 from rfl] at *
                     omega)
            rw [e] at hQ
            exact hQ)
          · refine LI2 e143_60 ?_
            refine Ki e143_61 kiconst_1 ?_
            refine C_lt e143_62 t143_62 (fun h62 => ?_) (fun h62 => ?_)
            · refine Ki e143_70 kiconst_1 ?_
              refine Go e143_71 t143_71 ?_
              exact Rz e143_75 rt143 (by decide) (by
              have e : bI (decide (¬ okJ σ.1 t q)) = 1 := by
                rw [decide_eq_true]
                · rfl
                · unfold okJ
                  rw [if_neg (bI_z h4), if_neg (fun z => z.elim h27 h33)]
                  first
                    | (rw [if_neg h57]; exact fun z => z trivial)
                    | (rw [if_pos (Decidable.not_not.mp h57)]
                       simp only [i32lt, i32le, show (-9 : Int32).toInt = -9 from rfl, show (9 : Int32).toInt = 9 from rfl, show (4 : Int32).toInt = 4 from rfl, show (1 : Int32).toInt = 1 from rfl] at *
                       omega)
              rw [e] at hQ
              exact hQ)
            · refine LI2 e143_65 ?_
              refine Ki e143_66 kiconst_4 ?_
              refine C_le e143_67 t143_67 (fun h67 => ?_) (fun h67 => ?_)
              · refine Ki e143_74 kiconst_0 ?_
                exact Rz e143_75 rt143 (by decide) (by
                have e : bI (decide (¬ okJ σ.1 t q)) = 0 := by
                  rw [decide_eq_false]
                  · rfl
                  · unfold okJ
                    rw [if_neg (bI_z h4), if_neg (fun z => z.elim h27 h33)]
                    first
                      | (rw [if_neg h57]; exact fun z => z trivial)
                      | (rw [if_pos (Decidable.not_not.mp h57)]
                         simp only [i32lt, i32le, show (-9 : Int32).toInt = -9 from rfl, show (9 : Int32).toInt = 9 from rfl, show (4 : Int32).toInt = 4 from rfl, show (1 : Int32).toInt = 1 from rfl] at *
                         omega)
                rw [e] at hQ
                exact hQ)
              · refine Ki e143_70 kiconst_1 ?_
                refine Go e143_71 t143_71 ?_
                exact Rz e143_75 rt143 (by decide) (by
                have e : bI (decide (¬ okJ σ.1 t q)) = 1 := by
                  rw [decide_eq_true]
                  · rfl
                  · unfold okJ
                    rw [if_neg (bI_z h4), if_neg (fun z => z.elim h27 h33)]
                    first
                      | (rw [if_neg h57]; exact fun z => z trivial)
                      | (rw [if_pos (Decidable.not_not.mp h57)]
                         simp only [i32lt, i32le, show (-9 : Int32).toInt = -9 from rfl, show (9 : Int32).toInt = 9 from rfl, show (4 : Int32).toInt = 4 from rfl, show (1 : Int32).toInt = 1 from rfl] at *
                         omega)
                rw [e] at hQ
                exact hQ)
        · refine LI2 e143_36 ?_
          refine Ki e143_37 kbipush_m9 ?_
          refine C_lt e143_39 t143_39 (fun h39 => ?_) (fun h39 => ?_)
          · refine Ki e143_48 kiconst_1 ?_
            refine Go e143_49 t143_49 ?_
            exact Rz e143_53 rt143 (by decide) (by
            have e : bI (decide (¬ okJ σ.1 t q)) = 1 := by
              rw [decide_eq_true]
              · rfl
              · unfold okJ
                rw [if_neg (bI_z h4), if_pos (by first | exact Or.inl h27 | exact Or.inr (Decidable.not_not.mp h33))]
                simp only [i32lt, i32le, show (-9 : Int32).toInt = -9 from rfl, show (9 : Int32).toInt = 9 from rfl, show (4 : Int32).toInt = 4 from rfl, show (1 : Int32).toInt = 1 from rfl] at *
                omega
            rw [e] at hQ
            exact hQ)
          · refine LI2 e143_42 ?_
            refine Ki e143_43 kbipush_9 ?_
            refine C_le e143_45 t143_45 (fun h45 => ?_) (fun h45 => ?_)
            · refine Ki e143_52 kiconst_0 ?_
              exact Rz e143_53 rt143 (by decide) (by
              have e : bI (decide (¬ okJ σ.1 t q)) = 0 := by
                rw [decide_eq_false]
                · rfl
                · unfold okJ
                  rw [if_neg (bI_z h4), if_pos (by first | exact Or.inl h27 | exact Or.inr (Decidable.not_not.mp h33))]
                  simp only [i32lt, i32le, show (-9 : Int32).toInt = -9 from rfl, show (9 : Int32).toInt = 9 from rfl, show (4 : Int32).toInt = 4 from rfl, show (1 : Int32).toInt = 1 from rfl] at *
                  omega
              rw [e] at hQ
              exact hQ)
            · refine Ki e143_48 kiconst_1 ?_
              refine Go e143_49 t143_49 ?_
              exact Rz e143_53 rt143 (by decide) (by
              have e : bI (decide (¬ okJ σ.1 t q)) = 1 := by
                rw [decide_eq_true]
                · rfl
                · unfold okJ
                  rw [if_neg (bI_z h4), if_pos (by first | exact Or.inl h27 | exact Or.inr (Decidable.not_not.mp h33))]
                  simp only [i32lt, i32le, show (-9 : Int32).toInt = -9 from rfl, show (9 : Int32).toInt = 9 from rfl, show (4 : Int32).toInt = 4 from rfl, show (1 : Int32).toInt = 1 from rfl] at *
                  omega
              rw [e] at hQ
              exact hQ)
    · refine LA0 e143_7 ?_
      refine Gr e143_8 (o1 L) (hR 1 0 2 rfl) f704 ?_
      refine LI2 e143_11 ?_
      refine Cv1 e143_12 c143_55 (o2 L) (Nat.le_of_ble_eq_true rfl) (Nat.le_of_ble_eq_true rfl) ((s_pickno (s := 2) (Or.inl rfl) hR hS.1 h8 hp)) ?_
      refine Z_nonnull e143_15 t143_15 ?_
      refine Ki e143_18 kiconst_1 ?_
      refine Go e143_19 t143_19 ?_
      exact Rz e143_23 rt143 (by decide) (by
      have e : bI (decide (¬ okJ σ.1 t q)) = 1 := by
        rw [decide_eq_true]
        · rfl
        · unfold okJ
          rw [if_pos (bI_t h4)]
          exact hp
      rw [e] at hQ
      exact hQ)
set_option maxHeartbeats 2000000 in
theorem k_make0 {t i q : Int32} (h : CSt I J R σ) (hno : ¬ ((0 ≤ t.toInt ∧ t.toInt < 12) ∧ inP σ.1 i ∧ okJ σ.1 t q)) : Cl 112 [.ref 1, .int t, .int i, .int q] (amSH L) I J R (CP I J R σ (.int (-1))) := by
  obtain ⟨hR, ⟨x, y, hC⟩, hS, hK, hT, hW, hZ, hO⟩ := id h
  have h8 := hO.1.1
  show Ex 112 0 [some (.ref 1), some (.int t), some (.int i), some (.int q), none, none] [] (amSH L) I J R _
  by_cases ht : 0 ≤ t.toInt ∧ t.toInt < 12
  · have b1 : ¬ t < 0 := by simp only [i32lt, show (0 : Int32).toInt = 0 from rfl]; omega
    have b2 : t < 12 := by simp only [i32lt, show (12 : Int32).toInt = 12 from rfl]; omega
    by_cases hp : inP σ.1 i
    · have hj : ¬ okJ σ.1 t q := fun z => hno ⟨ht, hp, z⟩
      obtain ⟨k, hk, ei, ek⟩ := hp.of h8
      subst ei
      refine LI1 e112_0 ?_
      refine B_lt e112_1 t112_1 (fun q => absurd q (b1)) (fun _ => ?_)
      refine LI1 e112_4 ?_
      refine Ki e112_5 kbipush_12 ?_
      refine C_lt e112_7 t112_7 (fun _ => ?_) (fun q => absurd (b2) q)
      refine LA0 e112_12 ?_
      refine Gr e112_13 (o1 L) (hR 1 0 2 rfl) f704 ?_
      refine LI2 e112_16 ?_
      refine Cv1 e112_17 c112_55 (o2 L) (Nat.le_of_ble_eq_true rfl) (Nat.le_of_ble_eq_true rfl) ((s_pick (s := 2) (Or.inl rfl) hR hS.1 h8 hk)) ?_
      refine SA4 e112_20 rfl ?_
      refine LA4 e112_22 ?_
      refine N_null e112_24 t112_24 ?_
      refine LA0 e112_27 ?_
      refine LI1 e112_28 ?_
      refine LI3 e112_29 ?_
      refine Cv2 e112_30 c112_143 (o1 L) (Nat.le_of_ble_eq_true rfl) (Nat.le_of_ble_eq_true rfl) (((show bI (decide (¬ okJ σ.1 t q)) = 1 from by rw [decide_eq_true hj]; rfl) ▸ x_bad h)) ?_
      refine B_eq e112_33 t112_33 (fun q => absurd q (by decide)) (fun _ => ?_)
      refine Ki e112_36 kiconst_m1 ?_
      exact Ri e112_37 rt112 (CP.rf h)
    · show Ex 112 0 [some (.ref 1), some (.int t), some (.int i), some (.int q), none, none] [] (amSH L) I J R _
      refine LI1 e112_0 ?_
      refine B_lt e112_1 t112_1 (fun q => absurd q (b1)) (fun _ => ?_)
      refine LI1 e112_4 ?_
      refine Ki e112_5 kbipush_12 ?_
      refine C_lt e112_7 t112_7 (fun _ => ?_) (fun q => absurd (b2) q)
      refine LA0 e112_12 ?_
      refine Gr e112_13 (o1 L) (hR 1 0 2 rfl) f704 ?_
      refine LI2 e112_16 ?_
      refine Cv1 e112_17 c112_55 (o2 L) (Nat.le_of_ble_eq_true rfl) (Nat.le_of_ble_eq_true rfl) ((s_pickno (s := 2) (Or.inl rfl) hR hS.1 h8 hp)) ?_
      refine SN4 e112_20 rfl ?_
      refine LN4 e112_22 ?_
      refine Z_null e112_24 t112_24 ?_
      refine Ki e112_36 kiconst_m1 ?_
      exact Ri e112_37 rt112 (CP.rf h)
  · show Ex 112 0 [some (.ref 1), some (.int t), some (.int i), some (.int q), none, none] [] (amSH L) I J R _
    refine LI1 e112_0 ?_
    refine B_lt e112_1 t112_1 (fun hh1 => ?_) (fun hh1 => ?_)
    · refine Ki e112_10 kiconst_m1 ?_
      exact Ri e112_11 rt112 (CP.rf h)
    · refine LI1 e112_4 ?_
      refine Ki e112_5 kbipush_12 ?_
      refine C_lt e112_7 t112_7 (fun hh7 => ?_) (fun hh7 => ?_)
      · exact (ht (by simp only [i32lt, show (0 : Int32).toInt = 0 from rfl, show (12 : Int32).toInt = 12 from rfl] at hh1 hh7; omega)).elim
      · refine Ki e112_10 kiconst_m1 ?_
        exact Ri e112_11 rt112 (CP.rf h)
set_option maxHeartbeats 2000000 in
theorem k_make8 {t i q : Int32} (h : CSt I J R σ) (ht : 0 ≤ t.toInt ∧ t.toInt < 12) (hp : inP σ.1 i) (hj : okJ σ.1 t q) (g8 : σ.1.length = 8) : Cl 112 [.ref 1, .int t, .int i, .int q] (amSH L) I J R (CP I J R σ (.int (-3))) := by
  obtain ⟨hR, ⟨x, y, hC⟩, hS, hK, hT, hW, hZ, hO⟩ := id h
  have h8 := hO.1.1
  have b1 : ¬ t < 0 := by simp only [i32lt, show (0 : Int32).toInt = 0 from rfl]; omega
  have b2 : t < 12 := by simp only [i32lt, show (12 : Int32).toInt = 12 from rfl]; omega
  show Ex 112 0 [some (.ref 1), some (.int t), some (.int i), some (.int q), none, none] [] (amSH L) I J R _
  obtain ⟨k, hk, ei, ek⟩ := hp.of h8
  subst ei
  refine LI1 e112_0 ?_
  refine B_lt e112_1 t112_1 (fun q => absurd q (b1)) (fun _ => ?_)
  refine LI1 e112_4 ?_
  refine Ki e112_5 kbipush_12 ?_
  refine C_lt e112_7 t112_7 (fun _ => ?_) (fun q => absurd (b2) q)
  refine LA0 e112_12 ?_
  refine Gr e112_13 (o1 L) (hR 1 0 2 rfl) f704 ?_
  refine LI2 e112_16 ?_
  refine Cv1 e112_17 c112_55 (o2 L) (Nat.le_of_ble_eq_true rfl) (Nat.le_of_ble_eq_true rfl) ((s_pick (s := 2) (Or.inl rfl) hR hS.1 h8 hk)) ?_
  refine SA4 e112_20 rfl ?_
  refine LA4 e112_22 ?_
  refine N_null e112_24 t112_24 ?_
  refine LA0 e112_27 ?_
  refine LI1 e112_28 ?_
  refine LI3 e112_29 ?_
  refine Cv2 e112_30 c112_143 (o1 L) (Nat.le_of_ble_eq_true rfl) (Nat.le_of_ble_eq_true rfl) (((show bI (decide (¬ okJ σ.1 t q)) = 0 from by rw [decide_eq_false (not_not_intro hj)]; rfl) ▸ x_bad h)) ?_
  refine B_eq e112_33 t112_33 (fun _ => ?_) (fun q => absurd (rfl) q)
  refine LA0 e112_38 ?_
  refine Gr e112_39 (o1 L) (hR 1 0 2 rfl) f704 ?_
  refine Cv0 e112_42 c112_54 (o2 L) (Nat.le_of_ble_eq_true rfl) (Nat.le_of_ble_eq_true rfl) (((show bI (decide (8 ≤ σ.1.length)) = 1 from by rw [decide_eq_true (by omega)]; rfl) ▸ s_full (s := 2) (Or.inl rfl) hR hS.1 h8)) ?_
  refine B_eq e112_45 t112_45 (fun q => absurd q (by decide)) (fun _ => ?_)
  refine Ki e112_48 kbipush_m3 ?_
  exact Ri e112_50 rt112 (CP.rf h)
set_option maxHeartbeats 2000000 in
theorem k_mk_end {t i q : Int32} {a b : Nat} {o : Option Po} {v : Option Value} {J1 : amJ} {R1 : amR} (h : CSt I J R σ) (hM : MkP J R o v J1 R1) (ho : ∀ g, o = some g → PB 4000000000000000000 g) : ∃ f, v = some (.int f) ∧ Ex 112 97 [some (.ref 1), some (.int t), some (.int i), some (.int q), some (.ref a), some (.ref b)] [.int f] (amSH L) I J1 R1 (CP I J R (match o with | none => (-3, σ) | some g => sBring σ g).2 (.int (match o with | none => (-3, σ) | some g => sBring σ g).1)) := by
  obtain ⟨hF, hR1, hRC, hC1, hD⟩ := hM
  have hst : CSt I J1 R1 σ := h.k hF.k hR1 hC1
  have hR := hR1
  have hj150 : ∀ y, 152 ≤ y → J1 y = J y := fun y hy => hF y (by omega) (by omega) (by omega) (by omega) (by omega) (by omega)
  rcases hD with ⟨g, rfl, rfl, hg⟩ | ⟨rfl, rfl⟩
  · refine ⟨1, rfl, ?_⟩
    show Ex 112 97 [some (.ref 1), some (.int t), some (.int i), some (.int q), some (.ref a), some (.ref b)] [.int 1] (amSH L) I J1 R1 (CP I J R (sBring σ g).2 (.int (sBring σ g).1))
    refine B_ne e112_97 t112_97 (fun _ => ?_) (fun q => absurd (by decide) q)
    refine LA0 e112_103 ?_
    refine LA0 e112_104 ?_
    refine Gr e112_105 (o1 L) (hR 1 3 38 rfl) f707 ?_
    refine Cv1p e112_108 c112_142 (o1 L) (Nat.le_of_ble_eq_true rfl) (Nat.le_of_ble_eq_true rfl) (k_bring hst (po38 hR) hg (ho g rfl) (by decide)) ?_
    rintro v I9 J9 R9 hres
    obtain rfl := hres.1
    exact Ri e112_111 rt112 (hres.tr (fun _ _ => rfl) hj150 hRC)
  · refine ⟨0, rfl, ?_⟩
    show Ex 112 97 [some (.ref 1), some (.int t), some (.int i), some (.int q), some (.ref a), some (.ref b)] [.int 0] (amSH L) I J1 R1 (CP I J R σ (.int (-3)))
    refine B_ne e112_97 t112_97 (fun q => absurd q (fun z => z rfl)) (fun _ => ?_)
    refine Ki e112_100 kbipush_m3 ?_
    exact Ri e112_102 rt112 (⟨rfl, hst, fun _ _ => rfl, hj150, hRC⟩)
set_option maxHeartbeats 2000000 in
theorem k_mk0 {i q : Int32} (h : CSt I J R σ) (hp : inP σ.1 i) (hj : okJ σ.1 0 q) (g8 : ¬ σ.1.length = 8) : Cl 112 [.ref 1, .int 0, .int i, .int q] (amSH L) I J R (CP I J R (match mkF 0 (plP σ.1 i) (plP σ.1 q) q.toInt with | none => (-3, σ) | some g => sBring σ g).2 (.int (match mkF 0 (plP σ.1 i) (plP σ.1 q) q.toInt with | none => (-3, σ) | some g => sBring σ g).1)) := by
  obtain ⟨hR, ⟨x, y, hC⟩, hS, hK, hT, hW, hZ, hO⟩ := id h
  have h8 := hO.1.1
  show Ex 112 0 [some (.ref 1), some (.int 0), some (.int i), some (.int q), none, none] [] (amSH L) I J R _
  obtain ⟨k, hk, ei, ek⟩ := hp.of h8
  subst ei
  rw [ek]
  have hok := hO.1.2 k hk
  have ha : amPO (amSH L) R (2 + 2 + 2 * k) := (show SH 2 from Or.inl rfl).pm hR k (by omega)
  have hP := hS.2 k hk
  have hj2 : inP σ.1 q := hj
  obtain ⟨m, hm, eq, ekm⟩ := hj2.of h8
  have hbd : bI (decide (¬ okJ σ.1 0 q)) = 0 := by rw [decide_eq_false (not_not_intro hj)]; rfl
  subst eq
  rw [ekm]
  have hokm := hO.1.2 m hm
  have hb : amPO (amSH L) R (2 + 2 + 2 * m) := (show SH 2 from Or.inl rfl).pm hR m (by omega)
  have hPm := hS.2 m hm
  have hkb : (nI m).toInt.natAbs ≤ 9 := by rw [nI_toInt (by omega)]; omega
  refine LI1 e112_0 ?_
  refine B_lt e112_1 t112_1 (fun q => absurd q (by decide)) (fun _ => ?_)
  refine LI1 e112_4 ?_
  refine Ki e112_5 kbipush_12 ?_
  refine C_lt e112_7 t112_7 (fun _ => ?_) (fun q => absurd (by decide) q)
  refine LA0 e112_12 ?_
  refine Gr e112_13 (o1 L) (hR 1 0 2 rfl) f704 ?_
  refine LI2 e112_16 ?_
  refine Cv1 e112_17 c112_55 (o2 L) (Nat.le_of_ble_eq_true rfl) (Nat.le_of_ble_eq_true rfl) ((s_pick (s := 2) (Or.inl rfl) hR hS.1 h8 hk)) ?_
  refine SA4 e112_20 rfl ?_
  refine LA4 e112_22 ?_
  refine N_null e112_24 t112_24 ?_
  refine LA0 e112_27 ?_
  refine LI1 e112_28 ?_
  refine LI3 e112_29 ?_
  refine Cv2 e112_30 c112_143 (o1 L) (Nat.le_of_ble_eq_true rfl) (Nat.le_of_ble_eq_true rfl) ((hbd ▸ x_bad h)) ?_
  refine B_eq e112_33 t112_33 (fun _ => ?_) (fun q => absurd (rfl) q)
  refine LA0 e112_38 ?_
  refine Gr e112_39 (o1 L) (hR 1 0 2 rfl) f704 ?_
  refine Cv0 e112_42 c112_54 (o2 L) (Nat.le_of_ble_eq_true rfl) (Nat.le_of_ble_eq_true rfl) (((show bI (decide (8 ≤ σ.1.length)) = 0 from by rw [decide_eq_false (by omega)]; rfl) ▸ s_full (s := 2) (Or.inl rfl) hR hS.1 h8)) ?_
  refine B_eq e112_45 t112_45 (fun _ => ?_) (fun q => absurd (rfl) q)
  refine LI1 e112_51 ?_
  refine Cs1 e112_52 c112_144 (Nat.le_of_ble_eq_true rfl) (Nat.le_of_ble_eq_true rfl) (((show bI (decide (isTw 0)) = 1 from by decide) ▸ x_two)) ?_
  refine B_eq e112_55 t112_55 (fun q => absurd q (by decide)) (fun _ => ?_)
  refine LA0 e112_58 ?_
  refine Gr e112_59 (o1 L) (hR 1 0 2 rfl) f704 ?_
  refine LI3 e112_62 ?_
  refine Cv1 e112_63 c112_55 (o2 L) (Nat.le_of_ble_eq_true rfl) (Nat.le_of_ble_eq_true rfl) ((s_pick (s := 2) (Or.inl rfl) hR hS.1 h8 hm)) ?_
  refine Go e112_66 t112_66 ?_
  refine SA5 e112_71 rfl ?_
  refine LA5 e112_73 ?_
  refine N_nonnull e112_75 t112_75 ?_
  refine LA0 e112_80 ?_
  refine Gr e112_81 (o1 L) (hR 1 6 63 rfl) f710 ?_
  refine LI1 e112_84 ?_
  refine LA4 e112_85 ?_
  refine LA5 e112_87 ?_
  refine LI3 e112_89 ?_
  refine LA0 e112_90 ?_
  refine Gr e112_91 (o1 L) (hR 1 3 38 rfl) f707 ?_
  refine Cv5p e112_94 c112_48 (o63 L) (Nat.le_of_ble_eq_true rfl) (Nat.le_of_ble_eq_true rfl) (m_form0 hR hC ha hb (by omega) (by omega) hP hok.b hPm) ?_
  rintro v I9 J9 R9 ⟨hI9, hM⟩
  subst hI9
  obtain ⟨f, rfl, hE⟩ := k_mk_end (t := 0) (i := nI k) (q := nI m) (a := 2 + 2 + 2 * k) (b := 2 + 2 + 2 * m) h hM (fun g e => mkF_PB e hok.1 hokm.1 hkb (by have := hok.2.2; omega))
  exact hE
set_option maxHeartbeats 2000000 in
theorem k_mk1 {i q : Int32} (h : CSt I J R σ) (hp : inP σ.1 i) (hj : okJ σ.1 1 q) (g8 : ¬ σ.1.length = 8) : Cl 112 [.ref 1, .int 1, .int i, .int q] (amSH L) I J R (CP I J R (match mkF 1 (plP σ.1 i) (plP σ.1 q) q.toInt with | none => (-3, σ) | some g => sBring σ g).2 (.int (match mkF 1 (plP σ.1 i) (plP σ.1 q) q.toInt with | none => (-3, σ) | some g => sBring σ g).1)) := by
  obtain ⟨hR, ⟨x, y, hC⟩, hS, hK, hT, hW, hZ, hO⟩ := id h
  have h8 := hO.1.1
  show Ex 112 0 [some (.ref 1), some (.int 1), some (.int i), some (.int q), none, none] [] (amSH L) I J R _
  obtain ⟨k, hk, ei, ek⟩ := hp.of h8
  subst ei
  rw [ek]
  have hok := hO.1.2 k hk
  have ha : amPO (amSH L) R (2 + 2 + 2 * k) := (show SH 2 from Or.inl rfl).pm hR k (by omega)
  have hP := hS.2 k hk
  have hj2 : inP σ.1 q := hj
  obtain ⟨m, hm, eq, ekm⟩ := hj2.of h8
  have hbd : bI (decide (¬ okJ σ.1 1 q)) = 0 := by rw [decide_eq_false (not_not_intro hj)]; rfl
  subst eq
  rw [ekm]
  have hokm := hO.1.2 m hm
  have hb : amPO (amSH L) R (2 + 2 + 2 * m) := (show SH 2 from Or.inl rfl).pm hR m (by omega)
  have hPm := hS.2 m hm
  have hkb : (nI m).toInt.natAbs ≤ 9 := by rw [nI_toInt (by omega)]; omega
  refine LI1 e112_0 ?_
  refine B_lt e112_1 t112_1 (fun q => absurd q (by decide)) (fun _ => ?_)
  refine LI1 e112_4 ?_
  refine Ki e112_5 kbipush_12 ?_
  refine C_lt e112_7 t112_7 (fun _ => ?_) (fun q => absurd (by decide) q)
  refine LA0 e112_12 ?_
  refine Gr e112_13 (o1 L) (hR 1 0 2 rfl) f704 ?_
  refine LI2 e112_16 ?_
  refine Cv1 e112_17 c112_55 (o2 L) (Nat.le_of_ble_eq_true rfl) (Nat.le_of_ble_eq_true rfl) ((s_pick (s := 2) (Or.inl rfl) hR hS.1 h8 hk)) ?_
  refine SA4 e112_20 rfl ?_
  refine LA4 e112_22 ?_
  refine N_null e112_24 t112_24 ?_
  refine LA0 e112_27 ?_
  refine LI1 e112_28 ?_
  refine LI3 e112_29 ?_
  refine Cv2 e112_30 c112_143 (o1 L) (Nat.le_of_ble_eq_true rfl) (Nat.le_of_ble_eq_true rfl) ((hbd ▸ x_bad h)) ?_
  refine B_eq e112_33 t112_33 (fun _ => ?_) (fun q => absurd (rfl) q)
  refine LA0 e112_38 ?_
  refine Gr e112_39 (o1 L) (hR 1 0 2 rfl) f704 ?_
  refine Cv0 e112_42 c112_54 (o2 L) (Nat.le_of_ble_eq_true rfl) (Nat.le_of_ble_eq_true rfl) (((show bI (decide (8 ≤ σ.1.length)) = 0 from by rw [decide_eq_false (by omega)]; rfl) ▸ s_full (s := 2) (Or.inl rfl) hR hS.1 h8)) ?_
  refine B_eq e112_45 t112_45 (fun _ => ?_) (fun q => absurd (rfl) q)
  refine LI1 e112_51 ?_
  refine Cs1 e112_52 c112_144 (Nat.le_of_ble_eq_true rfl) (Nat.le_of_ble_eq_true rfl) (((show bI (decide (isTw 1)) = 1 from by decide) ▸ x_two)) ?_
  refine B_eq e112_55 t112_55 (fun q => absurd q (by decide)) (fun _ => ?_)
  refine LA0 e112_58 ?_
  refine Gr e112_59 (o1 L) (hR 1 0 2 rfl) f704 ?_
  refine LI3 e112_62 ?_
  refine Cv1 e112_63 c112_55 (o2 L) (Nat.le_of_ble_eq_true rfl) (Nat.le_of_ble_eq_true rfl) ((s_pick (s := 2) (Or.inl rfl) hR hS.1 h8 hm)) ?_
  refine Go e112_66 t112_66 ?_
  refine SA5 e112_71 rfl ?_
  refine LA5 e112_73 ?_
  refine N_nonnull e112_75 t112_75 ?_
  refine LA0 e112_80 ?_
  refine Gr e112_81 (o1 L) (hR 1 6 63 rfl) f710 ?_
  refine LI1 e112_84 ?_
  refine LA4 e112_85 ?_
  refine LA5 e112_87 ?_
  refine LI3 e112_89 ?_
  refine LA0 e112_90 ?_
  refine Gr e112_91 (o1 L) (hR 1 3 38 rfl) f707 ?_
  refine Cv5p e112_94 c112_48 (o63 L) (Nat.le_of_ble_eq_true rfl) (Nat.le_of_ble_eq_true rfl) (m_form1 hR hC ha hb (by omega) (by omega) hP hok.b hPm) ?_
  rintro v I9 J9 R9 ⟨hI9, hM⟩
  subst hI9
  obtain ⟨f, rfl, hE⟩ := k_mk_end (t := 1) (i := nI k) (q := nI m) (a := 2 + 2 + 2 * k) (b := 2 + 2 + 2 * m) h hM (fun g e => mkF_PB e hok.1 hokm.1 hkb (by have := hok.2.2; omega))
  exact hE
set_option maxHeartbeats 2000000 in
theorem k_mk2 {i q : Int32} (h : CSt I J R σ) (hp : inP σ.1 i) (hj : okJ σ.1 2 q) (g8 : ¬ σ.1.length = 8) : Cl 112 [.ref 1, .int 2, .int i, .int q] (amSH L) I J R (CP I J R (match mkF 2 (plP σ.1 i) (plP σ.1 q) q.toInt with | none => (-3, σ) | some g => sBring σ g).2 (.int (match mkF 2 (plP σ.1 i) (plP σ.1 q) q.toInt with | none => (-3, σ) | some g => sBring σ g).1)) := by
  obtain ⟨hR, ⟨x, y, hC⟩, hS, hK, hT, hW, hZ, hO⟩ := id h
  have h8 := hO.1.1
  show Ex 112 0 [some (.ref 1), some (.int 2), some (.int i), some (.int q), none, none] [] (amSH L) I J R _
  obtain ⟨k, hk, ei, ek⟩ := hp.of h8
  subst ei
  rw [ek]
  have hok := hO.1.2 k hk
  have ha : amPO (amSH L) R (2 + 2 + 2 * k) := (show SH 2 from Or.inl rfl).pm hR k (by omega)
  have hP := hS.2 k hk
  have hj2 : inP σ.1 q := hj
  obtain ⟨m, hm, eq, ekm⟩ := hj2.of h8
  have hbd : bI (decide (¬ okJ σ.1 2 q)) = 0 := by rw [decide_eq_false (not_not_intro hj)]; rfl
  subst eq
  rw [ekm]
  have hokm := hO.1.2 m hm
  have hb : amPO (amSH L) R (2 + 2 + 2 * m) := (show SH 2 from Or.inl rfl).pm hR m (by omega)
  have hPm := hS.2 m hm
  have hkb : (nI m).toInt.natAbs ≤ 9 := by rw [nI_toInt (by omega)]; omega
  refine LI1 e112_0 ?_
  refine B_lt e112_1 t112_1 (fun q => absurd q (by decide)) (fun _ => ?_)
  refine LI1 e112_4 ?_
  refine Ki e112_5 kbipush_12 ?_
  refine C_lt e112_7 t112_7 (fun _ => ?_) (fun q => absurd (by decide) q)
  refine LA0 e112_12 ?_
  refine Gr e112_13 (o1 L) (hR 1 0 2 rfl) f704 ?_
  refine LI2 e112_16 ?_
  refine Cv1 e112_17 c112_55 (o2 L) (Nat.le_of_ble_eq_true rfl) (Nat.le_of_ble_eq_true rfl) ((s_pick (s := 2) (Or.inl rfl) hR hS.1 h8 hk)) ?_
  refine SA4 e112_20 rfl ?_
  refine LA4 e112_22 ?_
  refine N_null e112_24 t112_24 ?_
  refine LA0 e112_27 ?_
  refine LI1 e112_28 ?_
  refine LI3 e112_29 ?_
  refine Cv2 e112_30 c112_143 (o1 L) (Nat.le_of_ble_eq_true rfl) (Nat.le_of_ble_eq_true rfl) ((hbd ▸ x_bad h)) ?_
  refine B_eq e112_33 t112_33 (fun _ => ?_) (fun q => absurd (rfl) q)
  refine LA0 e112_38 ?_
  refine Gr e112_39 (o1 L) (hR 1 0 2 rfl) f704 ?_
  refine Cv0 e112_42 c112_54 (o2 L) (Nat.le_of_ble_eq_true rfl) (Nat.le_of_ble_eq_true rfl) (((show bI (decide (8 ≤ σ.1.length)) = 0 from by rw [decide_eq_false (by omega)]; rfl) ▸ s_full (s := 2) (Or.inl rfl) hR hS.1 h8)) ?_
  refine B_eq e112_45 t112_45 (fun _ => ?_) (fun q => absurd (rfl) q)
  refine LI1 e112_51 ?_
  refine Cs1 e112_52 c112_144 (Nat.le_of_ble_eq_true rfl) (Nat.le_of_ble_eq_true rfl) (((show bI (decide (isTw 2)) = 1 from by decide) ▸ x_two)) ?_
  refine B_eq e112_55 t112_55 (fun q => absurd q (by decide)) (fun _ => ?_)
  refine LA0 e112_58 ?_
  refine Gr e112_59 (o1 L) (hR 1 0 2 rfl) f704 ?_
  refine LI3 e112_62 ?_
  refine Cv1 e112_63 c112_55 (o2 L) (Nat.le_of_ble_eq_true rfl) (Nat.le_of_ble_eq_true rfl) ((s_pick (s := 2) (Or.inl rfl) hR hS.1 h8 hm)) ?_
  refine Go e112_66 t112_66 ?_
  refine SA5 e112_71 rfl ?_
  refine LA5 e112_73 ?_
  refine N_nonnull e112_75 t112_75 ?_
  refine LA0 e112_80 ?_
  refine Gr e112_81 (o1 L) (hR 1 6 63 rfl) f710 ?_
  refine LI1 e112_84 ?_
  refine LA4 e112_85 ?_
  refine LA5 e112_87 ?_
  refine LI3 e112_89 ?_
  refine LA0 e112_90 ?_
  refine Gr e112_91 (o1 L) (hR 1 3 38 rfl) f707 ?_
  refine Cv5p e112_94 c112_48 (o63 L) (Nat.le_of_ble_eq_true rfl) (Nat.le_of_ble_eq_true rfl) (m_form2 hR hC ha hb (by omega) (by omega) hP hok.b hPm) ?_
  rintro v I9 J9 R9 ⟨hI9, hM⟩
  subst hI9
  obtain ⟨f, rfl, hE⟩ := k_mk_end (t := 2) (i := nI k) (q := nI m) (a := 2 + 2 + 2 * k) (b := 2 + 2 + 2 * m) h hM (fun g e => mkF_PB e hok.1 hokm.1 hkb (by have := hok.2.2; omega))
  exact hE
set_option maxHeartbeats 2000000 in
theorem k_mk3 {i q : Int32} (h : CSt I J R σ) (hp : inP σ.1 i) (hj : okJ σ.1 3 q) (g8 : ¬ σ.1.length = 8) : Cl 112 [.ref 1, .int 3, .int i, .int q] (amSH L) I J R (CP I J R (match mkF 3 (plP σ.1 i) (plP σ.1 q) q.toInt with | none => (-3, σ) | some g => sBring σ g).2 (.int (match mkF 3 (plP σ.1 i) (plP σ.1 q) q.toInt with | none => (-3, σ) | some g => sBring σ g).1)) := by
  obtain ⟨hR, ⟨x, y, hC⟩, hS, hK, hT, hW, hZ, hO⟩ := id h
  have h8 := hO.1.1
  show Ex 112 0 [some (.ref 1), some (.int 3), some (.int i), some (.int q), none, none] [] (amSH L) I J R _
  obtain ⟨k, hk, ei, ek⟩ := hp.of h8
  subst ei
  rw [ek]
  have hok := hO.1.2 k hk
  have ha : amPO (amSH L) R (2 + 2 + 2 * k) := (show SH 2 from Or.inl rfl).pm hR k (by omega)
  have hP := hS.2 k hk
  have hj2 : inP σ.1 q := hj
  obtain ⟨m, hm, eq, ekm⟩ := hj2.of h8
  have hbd : bI (decide (¬ okJ σ.1 3 q)) = 0 := by rw [decide_eq_false (not_not_intro hj)]; rfl
  subst eq
  rw [ekm]
  have hokm := hO.1.2 m hm
  have hb : amPO (amSH L) R (2 + 2 + 2 * m) := (show SH 2 from Or.inl rfl).pm hR m (by omega)
  have hPm := hS.2 m hm
  have hkb : (nI m).toInt.natAbs ≤ 9 := by rw [nI_toInt (by omega)]; omega
  refine LI1 e112_0 ?_
  refine B_lt e112_1 t112_1 (fun q => absurd q (by decide)) (fun _ => ?_)
  refine LI1 e112_4 ?_
  refine Ki e112_5 kbipush_12 ?_
  refine C_lt e112_7 t112_7 (fun _ => ?_) (fun q => absurd (by decide) q)
  refine LA0 e112_12 ?_
  refine Gr e112_13 (o1 L) (hR 1 0 2 rfl) f704 ?_
  refine LI2 e112_16 ?_
  refine Cv1 e112_17 c112_55 (o2 L) (Nat.le_of_ble_eq_true rfl) (Nat.le_of_ble_eq_true rfl) ((s_pick (s := 2) (Or.inl rfl) hR hS.1 h8 hk)) ?_
  refine SA4 e112_20 rfl ?_
  refine LA4 e112_22 ?_
  refine N_null e112_24 t112_24 ?_
  refine LA0 e112_27 ?_
  refine LI1 e112_28 ?_
  refine LI3 e112_29 ?_
  refine Cv2 e112_30 c112_143 (o1 L) (Nat.le_of_ble_eq_true rfl) (Nat.le_of_ble_eq_true rfl) ((hbd ▸ x_bad h)) ?_
  refine B_eq e112_33 t112_33 (fun _ => ?_) (fun q => absurd (rfl) q)
  refine LA0 e112_38 ?_
  refine Gr e112_39 (o1 L) (hR 1 0 2 rfl) f704 ?_
  refine Cv0 e112_42 c112_54 (o2 L) (Nat.le_of_ble_eq_true rfl) (Nat.le_of_ble_eq_true rfl) (((show bI (decide (8 ≤ σ.1.length)) = 0 from by rw [decide_eq_false (by omega)]; rfl) ▸ s_full (s := 2) (Or.inl rfl) hR hS.1 h8)) ?_
  refine B_eq e112_45 t112_45 (fun _ => ?_) (fun q => absurd (rfl) q)
  refine LI1 e112_51 ?_
  refine Cs1 e112_52 c112_144 (Nat.le_of_ble_eq_true rfl) (Nat.le_of_ble_eq_true rfl) (((show bI (decide (isTw 3)) = 1 from by decide) ▸ x_two)) ?_
  refine B_eq e112_55 t112_55 (fun q => absurd q (by decide)) (fun _ => ?_)
  refine LA0 e112_58 ?_
  refine Gr e112_59 (o1 L) (hR 1 0 2 rfl) f704 ?_
  refine LI3 e112_62 ?_
  refine Cv1 e112_63 c112_55 (o2 L) (Nat.le_of_ble_eq_true rfl) (Nat.le_of_ble_eq_true rfl) ((s_pick (s := 2) (Or.inl rfl) hR hS.1 h8 hm)) ?_
  refine Go e112_66 t112_66 ?_
  refine SA5 e112_71 rfl ?_
  refine LA5 e112_73 ?_
  refine N_nonnull e112_75 t112_75 ?_
  refine LA0 e112_80 ?_
  refine Gr e112_81 (o1 L) (hR 1 6 63 rfl) f710 ?_
  refine LI1 e112_84 ?_
  refine LA4 e112_85 ?_
  refine LA5 e112_87 ?_
  refine LI3 e112_89 ?_
  refine LA0 e112_90 ?_
  refine Gr e112_91 (o1 L) (hR 1 3 38 rfl) f707 ?_
  refine Cv5p e112_94 c112_48 (o63 L) (Nat.le_of_ble_eq_true rfl) (Nat.le_of_ble_eq_true rfl) (m_form3 hR hC ha hb (by omega) (by omega) hP hok.b hPm hokm.b) ?_
  rintro v I9 J9 R9 ⟨hI9, hM⟩
  subst hI9
  obtain ⟨f, rfl, hE⟩ := k_mk_end (t := 3) (i := nI k) (q := nI m) (a := 2 + 2 + 2 * k) (b := 2 + 2 + 2 * m) h hM (fun g e => mkF_PB e hok.1 hokm.1 hkb (by have := hok.2.2; omega))
  exact hE
set_option maxHeartbeats 2000000 in
theorem k_mk4 {i q : Int32} (h : CSt I J R σ) (hp : inP σ.1 i) (hj : okJ σ.1 4 q) (g8 : ¬ σ.1.length = 8) : Cl 112 [.ref 1, .int 4, .int i, .int q] (amSH L) I J R (CP I J R (match mkF 4 (plP σ.1 i) (plP σ.1 q) q.toInt with | none => (-3, σ) | some g => sBring σ g).2 (.int (match mkF 4 (plP σ.1 i) (plP σ.1 q) q.toInt with | none => (-3, σ) | some g => sBring σ g).1)) := by
  obtain ⟨hR, ⟨x, y, hC⟩, hS, hK, hT, hW, hZ, hO⟩ := id h
  have h8 := hO.1.1
  show Ex 112 0 [some (.ref 1), some (.int 4), some (.int i), some (.int q), none, none] [] (amSH L) I J R _
  obtain ⟨k, hk, ei, ek⟩ := hp.of h8
  subst ei
  rw [ek]
  have hok := hO.1.2 k hk
  have ha : amPO (amSH L) R (2 + 2 + 2 * k) := (show SH 2 from Or.inl rfl).pm hR k (by omega)
  have hP := hS.2 k hk
  have hbd : bI (decide (¬ okJ σ.1 4 q)) = 0 := by rw [decide_eq_false (not_not_intro hj)]; rfl
  refine LI1 e112_0 ?_
  refine B_lt e112_1 t112_1 (fun q => absurd q (by decide)) (fun _ => ?_)
  refine LI1 e112_4 ?_
  refine Ki e112_5 kbipush_12 ?_
  refine C_lt e112_7 t112_7 (fun _ => ?_) (fun q => absurd (by decide) q)
  refine LA0 e112_12 ?_
  refine Gr e112_13 (o1 L) (hR 1 0 2 rfl) f704 ?_
  refine LI2 e112_16 ?_
  refine Cv1 e112_17 c112_55 (o2 L) (Nat.le_of_ble_eq_true rfl) (Nat.le_of_ble_eq_true rfl) ((s_pick (s := 2) (Or.inl rfl) hR hS.1 h8 hk)) ?_
  refine SA4 e112_20 rfl ?_
  refine LA4 e112_22 ?_
  refine N_null e112_24 t112_24 ?_
  refine LA0 e112_27 ?_
  refine LI1 e112_28 ?_
  refine LI3 e112_29 ?_
  refine Cv2 e112_30 c112_143 (o1 L) (Nat.le_of_ble_eq_true rfl) (Nat.le_of_ble_eq_true rfl) ((hbd ▸ x_bad h)) ?_
  refine B_eq e112_33 t112_33 (fun _ => ?_) (fun q => absurd (rfl) q)
  refine LA0 e112_38 ?_
  refine Gr e112_39 (o1 L) (hR 1 0 2 rfl) f704 ?_
  refine Cv0 e112_42 c112_54 (o2 L) (Nat.le_of_ble_eq_true rfl) (Nat.le_of_ble_eq_true rfl) (((show bI (decide (8 ≤ σ.1.length)) = 0 from by rw [decide_eq_false (by omega)]; rfl) ▸ s_full (s := 2) (Or.inl rfl) hR hS.1 h8)) ?_
  refine B_eq e112_45 t112_45 (fun _ => ?_) (fun q => absurd (rfl) q)
  refine LI1 e112_51 ?_
  refine Cs1 e112_52 c112_144 (Nat.le_of_ble_eq_true rfl) (Nat.le_of_ble_eq_true rfl) (((show bI (decide (isTw 4)) = 0 from by decide) ▸ x_two)) ?_
  refine B_eq e112_55 t112_55 (fun _ => ?_) (fun q => absurd (rfl) q)
  refine LA4 e112_69 ?_
  refine SA5 e112_71 rfl ?_
  refine LA5 e112_73 ?_
  refine N_nonnull e112_75 t112_75 ?_
  refine LA0 e112_80 ?_
  refine Gr e112_81 (o1 L) (hR 1 6 63 rfl) f710 ?_
  refine LI1 e112_84 ?_
  refine LA4 e112_85 ?_
  refine LA5 e112_87 ?_
  refine LI3 e112_89 ?_
  refine LA0 e112_90 ?_
  refine Gr e112_91 (o1 L) (hR 1 3 38 rfl) f707 ?_
  refine Cv5p e112_94 c112_48 (o63 L) (Nat.le_of_ble_eq_true rfl) (Nat.le_of_ble_eq_true rfl) (m_form4 hR hC ha ha (by omega) (by omega) hP hok.b hP) ?_
  rintro v I9 J9 R9 ⟨hI9, hM⟩
  subst hI9
  obtain ⟨f, rfl, hE⟩ := k_mk_end (t := 4) (i := nI k) (q := q) (a := 2 + 2 + 2 * k) (b := 2 + 2 + 2 * k) h hM (fun g e => mkF_PB (t := 4) (q := σ.1.getD k zP) (k := 0) (show mkF 4 (σ.1.getD k zP) (σ.1.getD k zP) 0 = some g from e) hok.1 hok.1 (by decide) (by have := hok.2.2; omega))
  exact hE
set_option maxHeartbeats 2000000 in
theorem k_mk5 {i q : Int32} (h : CSt I J R σ) (hp : inP σ.1 i) (hj : okJ σ.1 5 q) (g8 : ¬ σ.1.length = 8) : Cl 112 [.ref 1, .int 5, .int i, .int q] (amSH L) I J R (CP I J R (match mkF 5 (plP σ.1 i) (plP σ.1 q) q.toInt with | none => (-3, σ) | some g => sBring σ g).2 (.int (match mkF 5 (plP σ.1 i) (plP σ.1 q) q.toInt with | none => (-3, σ) | some g => sBring σ g).1)) := by
  obtain ⟨hR, ⟨x, y, hC⟩, hS, hK, hT, hW, hZ, hO⟩ := id h
  have h8 := hO.1.1
  show Ex 112 0 [some (.ref 1), some (.int 5), some (.int i), some (.int q), none, none] [] (amSH L) I J R _
  obtain ⟨k, hk, ei, ek⟩ := hp.of h8
  subst ei
  rw [ek]
  have hok := hO.1.2 k hk
  have ha : amPO (amSH L) R (2 + 2 + 2 * k) := (show SH 2 from Or.inl rfl).pm hR k (by omega)
  have hP := hS.2 k hk
  have hbd : bI (decide (¬ okJ σ.1 5 q)) = 0 := by rw [decide_eq_false (not_not_intro hj)]; rfl
  refine LI1 e112_0 ?_
  refine B_lt e112_1 t112_1 (fun q => absurd q (by decide)) (fun _ => ?_)
  refine LI1 e112_4 ?_
  refine Ki e112_5 kbipush_12 ?_
  refine C_lt e112_7 t112_7 (fun _ => ?_) (fun q => absurd (by decide) q)
  refine LA0 e112_12 ?_
  refine Gr e112_13 (o1 L) (hR 1 0 2 rfl) f704 ?_
  refine LI2 e112_16 ?_
  refine Cv1 e112_17 c112_55 (o2 L) (Nat.le_of_ble_eq_true rfl) (Nat.le_of_ble_eq_true rfl) ((s_pick (s := 2) (Or.inl rfl) hR hS.1 h8 hk)) ?_
  refine SA4 e112_20 rfl ?_
  refine LA4 e112_22 ?_
  refine N_null e112_24 t112_24 ?_
  refine LA0 e112_27 ?_
  refine LI1 e112_28 ?_
  refine LI3 e112_29 ?_
  refine Cv2 e112_30 c112_143 (o1 L) (Nat.le_of_ble_eq_true rfl) (Nat.le_of_ble_eq_true rfl) ((hbd ▸ x_bad h)) ?_
  refine B_eq e112_33 t112_33 (fun _ => ?_) (fun q => absurd (rfl) q)
  refine LA0 e112_38 ?_
  refine Gr e112_39 (o1 L) (hR 1 0 2 rfl) f704 ?_
  refine Cv0 e112_42 c112_54 (o2 L) (Nat.le_of_ble_eq_true rfl) (Nat.le_of_ble_eq_true rfl) (((show bI (decide (8 ≤ σ.1.length)) = 0 from by rw [decide_eq_false (by omega)]; rfl) ▸ s_full (s := 2) (Or.inl rfl) hR hS.1 h8)) ?_
  refine B_eq e112_45 t112_45 (fun _ => ?_) (fun q => absurd (rfl) q)
  refine LI1 e112_51 ?_
  refine Cs1 e112_52 c112_144 (Nat.le_of_ble_eq_true rfl) (Nat.le_of_ble_eq_true rfl) (((show bI (decide (isTw 5)) = 0 from by decide) ▸ x_two)) ?_
  refine B_eq e112_55 t112_55 (fun _ => ?_) (fun q => absurd (rfl) q)
  refine LA4 e112_69 ?_
  refine SA5 e112_71 rfl ?_
  refine LA5 e112_73 ?_
  refine N_nonnull e112_75 t112_75 ?_
  refine LA0 e112_80 ?_
  refine Gr e112_81 (o1 L) (hR 1 6 63 rfl) f710 ?_
  refine LI1 e112_84 ?_
  refine LA4 e112_85 ?_
  refine LA5 e112_87 ?_
  refine LI3 e112_89 ?_
  refine LA0 e112_90 ?_
  refine Gr e112_91 (o1 L) (hR 1 3 38 rfl) f707 ?_
  refine Cv5p e112_94 c112_48 (o63 L) (Nat.le_of_ble_eq_true rfl) (Nat.le_of_ble_eq_true rfl) (m_form5 hR hC ha ha (by omega) (by omega) hP hok.b hP) ?_
  rintro v I9 J9 R9 ⟨hI9, hM⟩
  subst hI9
  obtain ⟨f, rfl, hE⟩ := k_mk_end (t := 5) (i := nI k) (q := q) (a := 2 + 2 + 2 * k) (b := 2 + 2 + 2 * k) h hM (fun g e => mkF_PB (t := 5) (q := σ.1.getD k zP) (k := 0) (show mkF 5 (σ.1.getD k zP) (σ.1.getD k zP) 0 = some g from e) hok.1 hok.1 (by decide) (by have := hok.2.2; omega))
  exact hE
set_option maxHeartbeats 2000000 in
theorem k_mk6 {i q : Int32} (h : CSt I J R σ) (hp : inP σ.1 i) (hj : okJ σ.1 6 q) (g8 : ¬ σ.1.length = 8) : Cl 112 [.ref 1, .int 6, .int i, .int q] (amSH L) I J R (CP I J R (match mkF 6 (plP σ.1 i) (plP σ.1 q) q.toInt with | none => (-3, σ) | some g => sBring σ g).2 (.int (match mkF 6 (plP σ.1 i) (plP σ.1 q) q.toInt with | none => (-3, σ) | some g => sBring σ g).1)) := by
  obtain ⟨hR, ⟨x, y, hC⟩, hS, hK, hT, hW, hZ, hO⟩ := id h
  have h8 := hO.1.1
  show Ex 112 0 [some (.ref 1), some (.int 6), some (.int i), some (.int q), none, none] [] (amSH L) I J R _
  obtain ⟨k, hk, ei, ek⟩ := hp.of h8
  subst ei
  rw [ek]
  have hok := hO.1.2 k hk
  have ha : amPO (amSH L) R (2 + 2 + 2 * k) := (show SH 2 from Or.inl rfl).pm hR k (by omega)
  have hP := hS.2 k hk
  have hbd : bI (decide (¬ okJ σ.1 6 q)) = 0 := by rw [decide_eq_false (not_not_intro hj)]; rfl
  have hkb : q.toInt.natAbs ≤ 9 := by
    have z : -9 ≤ q.toInt ∧ q.toInt ≤ 9 := hj
    omega
  refine LI1 e112_0 ?_
  refine B_lt e112_1 t112_1 (fun q => absurd q (by decide)) (fun _ => ?_)
  refine LI1 e112_4 ?_
  refine Ki e112_5 kbipush_12 ?_
  refine C_lt e112_7 t112_7 (fun _ => ?_) (fun q => absurd (by decide) q)
  refine LA0 e112_12 ?_
  refine Gr e112_13 (o1 L) (hR 1 0 2 rfl) f704 ?_
  refine LI2 e112_16 ?_
  refine Cv1 e112_17 c112_55 (o2 L) (Nat.le_of_ble_eq_true rfl) (Nat.le_of_ble_eq_true rfl) ((s_pick (s := 2) (Or.inl rfl) hR hS.1 h8 hk)) ?_
  refine SA4 e112_20 rfl ?_
  refine LA4 e112_22 ?_
  refine N_null e112_24 t112_24 ?_
  refine LA0 e112_27 ?_
  refine LI1 e112_28 ?_
  refine LI3 e112_29 ?_
  refine Cv2 e112_30 c112_143 (o1 L) (Nat.le_of_ble_eq_true rfl) (Nat.le_of_ble_eq_true rfl) ((hbd ▸ x_bad h)) ?_
  refine B_eq e112_33 t112_33 (fun _ => ?_) (fun q => absurd (rfl) q)
  refine LA0 e112_38 ?_
  refine Gr e112_39 (o1 L) (hR 1 0 2 rfl) f704 ?_
  refine Cv0 e112_42 c112_54 (o2 L) (Nat.le_of_ble_eq_true rfl) (Nat.le_of_ble_eq_true rfl) (((show bI (decide (8 ≤ σ.1.length)) = 0 from by rw [decide_eq_false (by omega)]; rfl) ▸ s_full (s := 2) (Or.inl rfl) hR hS.1 h8)) ?_
  refine B_eq e112_45 t112_45 (fun _ => ?_) (fun q => absurd (rfl) q)
  refine LI1 e112_51 ?_
  refine Cs1 e112_52 c112_144 (Nat.le_of_ble_eq_true rfl) (Nat.le_of_ble_eq_true rfl) (((show bI (decide (isTw 6)) = 0 from by decide) ▸ x_two)) ?_
  refine B_eq e112_55 t112_55 (fun _ => ?_) (fun q => absurd (rfl) q)
  refine LA4 e112_69 ?_
  refine SA5 e112_71 rfl ?_
  refine LA5 e112_73 ?_
  refine N_nonnull e112_75 t112_75 ?_
  refine LA0 e112_80 ?_
  refine Gr e112_81 (o1 L) (hR 1 6 63 rfl) f710 ?_
  refine LI1 e112_84 ?_
  refine LA4 e112_85 ?_
  refine LA5 e112_87 ?_
  refine LI3 e112_89 ?_
  refine LA0 e112_90 ?_
  refine Gr e112_91 (o1 L) (hR 1 3 38 rfl) f707 ?_
  refine Cv5p e112_94 c112_48 (o63 L) (Nat.le_of_ble_eq_true rfl) (Nat.le_of_ble_eq_true rfl) (m_form6 hR hC ha ha (by omega) (by omega) hP hok.b hP) ?_
  rintro v I9 J9 R9 ⟨hI9, hM⟩
  subst hI9
  obtain ⟨f, rfl, hE⟩ := k_mk_end (t := 6) (i := nI k) (q := q) (a := 2 + 2 + 2 * k) (b := 2 + 2 + 2 * k) h hM (fun g e => mkF_PB (q := σ.1.getD k zP) e hok.1 hok.1 hkb (by have := hok.2.2; omega))
  exact hE
set_option maxHeartbeats 2000000 in
theorem k_mk7 {i q : Int32} (h : CSt I J R σ) (hp : inP σ.1 i) (hj : okJ σ.1 7 q) (g8 : ¬ σ.1.length = 8) : Cl 112 [.ref 1, .int 7, .int i, .int q] (amSH L) I J R (CP I J R (match mkF 7 (plP σ.1 i) (plP σ.1 q) q.toInt with | none => (-3, σ) | some g => sBring σ g).2 (.int (match mkF 7 (plP σ.1 i) (plP σ.1 q) q.toInt with | none => (-3, σ) | some g => sBring σ g).1)) := by
  obtain ⟨hR, ⟨x, y, hC⟩, hS, hK, hT, hW, hZ, hO⟩ := id h
  have h8 := hO.1.1
  show Ex 112 0 [some (.ref 1), some (.int 7), some (.int i), some (.int q), none, none] [] (amSH L) I J R _
  obtain ⟨k, hk, ei, ek⟩ := hp.of h8
  subst ei
  rw [ek]
  have hok := hO.1.2 k hk
  have ha : amPO (amSH L) R (2 + 2 + 2 * k) := (show SH 2 from Or.inl rfl).pm hR k (by omega)
  have hP := hS.2 k hk
  have hbd : bI (decide (¬ okJ σ.1 7 q)) = 0 := by rw [decide_eq_false (not_not_intro hj)]; rfl
  have hkb : q.toInt.natAbs ≤ 9 := by
    have z : -9 ≤ q.toInt ∧ q.toInt ≤ 9 := hj
    omega
  refine LI1 e112_0 ?_
  refine B_lt e112_1 t112_1 (fun q => absurd q (by decide)) (fun _ => ?_)
  refine LI1 e112_4 ?_
  refine Ki e112_5 kbipush_12 ?_
  refine C_lt e112_7 t112_7 (fun _ => ?_) (fun q => absurd (by decide) q)
  refine LA0 e112_12 ?_
  refine Gr e112_13 (o1 L) (hR 1 0 2 rfl) f704 ?_
  refine LI2 e112_16 ?_
  refine Cv1 e112_17 c112_55 (o2 L) (Nat.le_of_ble_eq_true rfl) (Nat.le_of_ble_eq_true rfl) ((s_pick (s := 2) (Or.inl rfl) hR hS.1 h8 hk)) ?_
  refine SA4 e112_20 rfl ?_
  refine LA4 e112_22 ?_
  refine N_null e112_24 t112_24 ?_
  refine LA0 e112_27 ?_
  refine LI1 e112_28 ?_
  refine LI3 e112_29 ?_
  refine Cv2 e112_30 c112_143 (o1 L) (Nat.le_of_ble_eq_true rfl) (Nat.le_of_ble_eq_true rfl) ((hbd ▸ x_bad h)) ?_
  refine B_eq e112_33 t112_33 (fun _ => ?_) (fun q => absurd (rfl) q)
  refine LA0 e112_38 ?_
  refine Gr e112_39 (o1 L) (hR 1 0 2 rfl) f704 ?_
  refine Cv0 e112_42 c112_54 (o2 L) (Nat.le_of_ble_eq_true rfl) (Nat.le_of_ble_eq_true rfl) (((show bI (decide (8 ≤ σ.1.length)) = 0 from by rw [decide_eq_false (by omega)]; rfl) ▸ s_full (s := 2) (Or.inl rfl) hR hS.1 h8)) ?_
  refine B_eq e112_45 t112_45 (fun _ => ?_) (fun q => absurd (rfl) q)
  refine LI1 e112_51 ?_
  refine Cs1 e112_52 c112_144 (Nat.le_of_ble_eq_true rfl) (Nat.le_of_ble_eq_true rfl) (((show bI (decide (isTw 7)) = 0 from by decide) ▸ x_two)) ?_
  refine B_eq e112_55 t112_55 (fun _ => ?_) (fun q => absurd (rfl) q)
  refine LA4 e112_69 ?_
  refine SA5 e112_71 rfl ?_
  refine LA5 e112_73 ?_
  refine N_nonnull e112_75 t112_75 ?_
  refine LA0 e112_80 ?_
  refine Gr e112_81 (o1 L) (hR 1 6 63 rfl) f710 ?_
  refine LI1 e112_84 ?_
  refine LA4 e112_85 ?_
  refine LA5 e112_87 ?_
  refine LI3 e112_89 ?_
  refine LA0 e112_90 ?_
  refine Gr e112_91 (o1 L) (hR 1 3 38 rfl) f707 ?_
  refine Cv5p e112_94 c112_48 (o63 L) (Nat.le_of_ble_eq_true rfl) (Nat.le_of_ble_eq_true rfl) (m_form7 hR hC ha ha (by omega) (by omega) hP hok.b hP) ?_
  rintro v I9 J9 R9 ⟨hI9, hM⟩
  subst hI9
  obtain ⟨f, rfl, hE⟩ := k_mk_end (t := 7) (i := nI k) (q := q) (a := 2 + 2 + 2 * k) (b := 2 + 2 + 2 * k) h hM (fun g e => mkF_PB (q := σ.1.getD k zP) e hok.1 hok.1 hkb (by have := hok.2.2; omega))
  exact hE
set_option maxHeartbeats 2000000 in
theorem k_mk8 {i q : Int32} (h : CSt I J R σ) (hp : inP σ.1 i) (hj : okJ σ.1 8 q) (g8 : ¬ σ.1.length = 8) : Cl 112 [.ref 1, .int 8, .int i, .int q] (amSH L) I J R (CP I J R (match mkF 8 (plP σ.1 i) (plP σ.1 q) q.toInt with | none => (-3, σ) | some g => sBring σ g).2 (.int (match mkF 8 (plP σ.1 i) (plP σ.1 q) q.toInt with | none => (-3, σ) | some g => sBring σ g).1)) := by
  obtain ⟨hR, ⟨x, y, hC⟩, hS, hK, hT, hW, hZ, hO⟩ := id h
  have h8 := hO.1.1
  show Ex 112 0 [some (.ref 1), some (.int 8), some (.int i), some (.int q), none, none] [] (amSH L) I J R _
  obtain ⟨k, hk, ei, ek⟩ := hp.of h8
  subst ei
  rw [ek]
  have hok := hO.1.2 k hk
  have ha : amPO (amSH L) R (2 + 2 + 2 * k) := (show SH 2 from Or.inl rfl).pm hR k (by omega)
  have hP := hS.2 k hk
  have hbd : bI (decide (¬ okJ σ.1 8 q)) = 0 := by rw [decide_eq_false (not_not_intro hj)]; rfl
  refine LI1 e112_0 ?_
  refine B_lt e112_1 t112_1 (fun q => absurd q (by decide)) (fun _ => ?_)
  refine LI1 e112_4 ?_
  refine Ki e112_5 kbipush_12 ?_
  refine C_lt e112_7 t112_7 (fun _ => ?_) (fun q => absurd (by decide) q)
  refine LA0 e112_12 ?_
  refine Gr e112_13 (o1 L) (hR 1 0 2 rfl) f704 ?_
  refine LI2 e112_16 ?_
  refine Cv1 e112_17 c112_55 (o2 L) (Nat.le_of_ble_eq_true rfl) (Nat.le_of_ble_eq_true rfl) ((s_pick (s := 2) (Or.inl rfl) hR hS.1 h8 hk)) ?_
  refine SA4 e112_20 rfl ?_
  refine LA4 e112_22 ?_
  refine N_null e112_24 t112_24 ?_
  refine LA0 e112_27 ?_
  refine LI1 e112_28 ?_
  refine LI3 e112_29 ?_
  refine Cv2 e112_30 c112_143 (o1 L) (Nat.le_of_ble_eq_true rfl) (Nat.le_of_ble_eq_true rfl) ((hbd ▸ x_bad h)) ?_
  refine B_eq e112_33 t112_33 (fun _ => ?_) (fun q => absurd (rfl) q)
  refine LA0 e112_38 ?_
  refine Gr e112_39 (o1 L) (hR 1 0 2 rfl) f704 ?_
  refine Cv0 e112_42 c112_54 (o2 L) (Nat.le_of_ble_eq_true rfl) (Nat.le_of_ble_eq_true rfl) (((show bI (decide (8 ≤ σ.1.length)) = 0 from by rw [decide_eq_false (by omega)]; rfl) ▸ s_full (s := 2) (Or.inl rfl) hR hS.1 h8)) ?_
  refine B_eq e112_45 t112_45 (fun _ => ?_) (fun q => absurd (rfl) q)
  refine LI1 e112_51 ?_
  refine Cs1 e112_52 c112_144 (Nat.le_of_ble_eq_true rfl) (Nat.le_of_ble_eq_true rfl) (((show bI (decide (isTw 8)) = 0 from by decide) ▸ x_two)) ?_
  refine B_eq e112_55 t112_55 (fun _ => ?_) (fun q => absurd (rfl) q)
  refine LA4 e112_69 ?_
  refine SA5 e112_71 rfl ?_
  refine LA5 e112_73 ?_
  refine N_nonnull e112_75 t112_75 ?_
  refine LA0 e112_80 ?_
  refine Gr e112_81 (o1 L) (hR 1 6 63 rfl) f710 ?_
  refine LI1 e112_84 ?_
  refine LA4 e112_85 ?_
  refine LA5 e112_87 ?_
  refine LI3 e112_89 ?_
  refine LA0 e112_90 ?_
  refine Gr e112_91 (o1 L) (hR 1 3 38 rfl) f707 ?_
  refine Cv5p e112_94 c112_48 (o63 L) (Nat.le_of_ble_eq_true rfl) (Nat.le_of_ble_eq_true rfl) (m_form8 hR hC ha ha (by omega) (by omega) hP hok.b hP) ?_
  rintro v I9 J9 R9 ⟨hI9, hM⟩
  subst hI9
  obtain ⟨f, rfl, hE⟩ := k_mk_end (t := 8) (i := nI k) (q := q) (a := 2 + 2 + 2 * k) (b := 2 + 2 + 2 * k) h hM (fun g e => mkF_PB (t := 8) (q := σ.1.getD k zP) (k := 0) (show mkF 8 (σ.1.getD k zP) (σ.1.getD k zP) 0 = some g from e) hok.1 hok.1 (by decide) (by have := hok.2.2; omega))
  exact hE
set_option maxHeartbeats 2000000 in
theorem k_mk9 {i q : Int32} (h : CSt I J R σ) (hp : inP σ.1 i) (hj : okJ σ.1 9 q) (g8 : ¬ σ.1.length = 8) : Cl 112 [.ref 1, .int 9, .int i, .int q] (amSH L) I J R (CP I J R (match mkF 9 (plP σ.1 i) (plP σ.1 q) q.toInt with | none => (-3, σ) | some g => sBring σ g).2 (.int (match mkF 9 (plP σ.1 i) (plP σ.1 q) q.toInt with | none => (-3, σ) | some g => sBring σ g).1)) := by
  obtain ⟨hR, ⟨x, y, hC⟩, hS, hK, hT, hW, hZ, hO⟩ := id h
  have h8 := hO.1.1
  show Ex 112 0 [some (.ref 1), some (.int 9), some (.int i), some (.int q), none, none] [] (amSH L) I J R _
  obtain ⟨k, hk, ei, ek⟩ := hp.of h8
  subst ei
  rw [ek]
  have hok := hO.1.2 k hk
  have ha : amPO (amSH L) R (2 + 2 + 2 * k) := (show SH 2 from Or.inl rfl).pm hR k (by omega)
  have hP := hS.2 k hk
  have hbd : bI (decide (¬ okJ σ.1 9 q)) = 0 := by rw [decide_eq_false (not_not_intro hj)]; rfl
  refine LI1 e112_0 ?_
  refine B_lt e112_1 t112_1 (fun q => absurd q (by decide)) (fun _ => ?_)
  refine LI1 e112_4 ?_
  refine Ki e112_5 kbipush_12 ?_
  refine C_lt e112_7 t112_7 (fun _ => ?_) (fun q => absurd (by decide) q)
  refine LA0 e112_12 ?_
  refine Gr e112_13 (o1 L) (hR 1 0 2 rfl) f704 ?_
  refine LI2 e112_16 ?_
  refine Cv1 e112_17 c112_55 (o2 L) (Nat.le_of_ble_eq_true rfl) (Nat.le_of_ble_eq_true rfl) ((s_pick (s := 2) (Or.inl rfl) hR hS.1 h8 hk)) ?_
  refine SA4 e112_20 rfl ?_
  refine LA4 e112_22 ?_
  refine N_null e112_24 t112_24 ?_
  refine LA0 e112_27 ?_
  refine LI1 e112_28 ?_
  refine LI3 e112_29 ?_
  refine Cv2 e112_30 c112_143 (o1 L) (Nat.le_of_ble_eq_true rfl) (Nat.le_of_ble_eq_true rfl) ((hbd ▸ x_bad h)) ?_
  refine B_eq e112_33 t112_33 (fun _ => ?_) (fun q => absurd (rfl) q)
  refine LA0 e112_38 ?_
  refine Gr e112_39 (o1 L) (hR 1 0 2 rfl) f704 ?_
  refine Cv0 e112_42 c112_54 (o2 L) (Nat.le_of_ble_eq_true rfl) (Nat.le_of_ble_eq_true rfl) (((show bI (decide (8 ≤ σ.1.length)) = 0 from by rw [decide_eq_false (by omega)]; rfl) ▸ s_full (s := 2) (Or.inl rfl) hR hS.1 h8)) ?_
  refine B_eq e112_45 t112_45 (fun _ => ?_) (fun q => absurd (rfl) q)
  refine LI1 e112_51 ?_
  refine Cs1 e112_52 c112_144 (Nat.le_of_ble_eq_true rfl) (Nat.le_of_ble_eq_true rfl) (((show bI (decide (isTw 9)) = 0 from by decide) ▸ x_two)) ?_
  refine B_eq e112_55 t112_55 (fun _ => ?_) (fun q => absurd (rfl) q)
  refine LA4 e112_69 ?_
  refine SA5 e112_71 rfl ?_
  refine LA5 e112_73 ?_
  refine N_nonnull e112_75 t112_75 ?_
  refine LA0 e112_80 ?_
  refine Gr e112_81 (o1 L) (hR 1 6 63 rfl) f710 ?_
  refine LI1 e112_84 ?_
  refine LA4 e112_85 ?_
  refine LA5 e112_87 ?_
  refine LI3 e112_89 ?_
  refine LA0 e112_90 ?_
  refine Gr e112_91 (o1 L) (hR 1 3 38 rfl) f707 ?_
  refine Cv5p e112_94 c112_48 (o63 L) (Nat.le_of_ble_eq_true rfl) (Nat.le_of_ble_eq_true rfl) (m_form9 hR hC ha ha (by omega) (by omega) hP hok.b hP (fr_ok hok.2.2)) ?_
  rintro v I9 J9 R9 ⟨hI9, hM⟩
  subst hI9
  obtain ⟨f, rfl, hE⟩ := k_mk_end (t := 9) (i := nI k) (q := q) (a := 2 + 2 + 2 * k) (b := 2 + 2 + 2 * k) h hM (fun g e => mkF_PB (t := 9) (q := σ.1.getD k zP) (k := 0) (show mkF 9 (σ.1.getD k zP) (σ.1.getD k zP) 0 = some g from e) hok.1 hok.1 (by decide) (by have := hok.2.2; omega))
  exact hE
set_option maxHeartbeats 2000000 in
theorem k_mk10 {i q : Int32} (h : CSt I J R σ) (hp : inP σ.1 i) (hj : okJ σ.1 10 q) (g8 : ¬ σ.1.length = 8) : Cl 112 [.ref 1, .int 10, .int i, .int q] (amSH L) I J R (CP I J R (match mkF 10 (plP σ.1 i) (plP σ.1 q) q.toInt with | none => (-3, σ) | some g => sBring σ g).2 (.int (match mkF 10 (plP σ.1 i) (plP σ.1 q) q.toInt with | none => (-3, σ) | some g => sBring σ g).1)) := by
  obtain ⟨hR, ⟨x, y, hC⟩, hS, hK, hT, hW, hZ, hO⟩ := id h
  have h8 := hO.1.1
  show Ex 112 0 [some (.ref 1), some (.int 10), some (.int i), some (.int q), none, none] [] (amSH L) I J R _
  obtain ⟨k, hk, ei, ek⟩ := hp.of h8
  subst ei
  rw [ek]
  have hok := hO.1.2 k hk
  have ha : amPO (amSH L) R (2 + 2 + 2 * k) := (show SH 2 from Or.inl rfl).pm hR k (by omega)
  have hP := hS.2 k hk
  have hj2 : inP σ.1 q := hj
  obtain ⟨m, hm, eq, ekm⟩ := hj2.of h8
  have hbd : bI (decide (¬ okJ σ.1 10 q)) = 0 := by rw [decide_eq_false (not_not_intro hj)]; rfl
  subst eq
  rw [ekm]
  have hokm := hO.1.2 m hm
  have hb : amPO (amSH L) R (2 + 2 + 2 * m) := (show SH 2 from Or.inl rfl).pm hR m (by omega)
  have hPm := hS.2 m hm
  have hkb : (nI m).toInt.natAbs ≤ 9 := by rw [nI_toInt (by omega)]; omega
  refine LI1 e112_0 ?_
  refine B_lt e112_1 t112_1 (fun q => absurd q (by decide)) (fun _ => ?_)
  refine LI1 e112_4 ?_
  refine Ki e112_5 kbipush_12 ?_
  refine C_lt e112_7 t112_7 (fun _ => ?_) (fun q => absurd (by decide) q)
  refine LA0 e112_12 ?_
  refine Gr e112_13 (o1 L) (hR 1 0 2 rfl) f704 ?_
  refine LI2 e112_16 ?_
  refine Cv1 e112_17 c112_55 (o2 L) (Nat.le_of_ble_eq_true rfl) (Nat.le_of_ble_eq_true rfl) ((s_pick (s := 2) (Or.inl rfl) hR hS.1 h8 hk)) ?_
  refine SA4 e112_20 rfl ?_
  refine LA4 e112_22 ?_
  refine N_null e112_24 t112_24 ?_
  refine LA0 e112_27 ?_
  refine LI1 e112_28 ?_
  refine LI3 e112_29 ?_
  refine Cv2 e112_30 c112_143 (o1 L) (Nat.le_of_ble_eq_true rfl) (Nat.le_of_ble_eq_true rfl) ((hbd ▸ x_bad h)) ?_
  refine B_eq e112_33 t112_33 (fun _ => ?_) (fun q => absurd (rfl) q)
  refine LA0 e112_38 ?_
  refine Gr e112_39 (o1 L) (hR 1 0 2 rfl) f704 ?_
  refine Cv0 e112_42 c112_54 (o2 L) (Nat.le_of_ble_eq_true rfl) (Nat.le_of_ble_eq_true rfl) (((show bI (decide (8 ≤ σ.1.length)) = 0 from by rw [decide_eq_false (by omega)]; rfl) ▸ s_full (s := 2) (Or.inl rfl) hR hS.1 h8)) ?_
  refine B_eq e112_45 t112_45 (fun _ => ?_) (fun q => absurd (rfl) q)
  refine LI1 e112_51 ?_
  refine Cs1 e112_52 c112_144 (Nat.le_of_ble_eq_true rfl) (Nat.le_of_ble_eq_true rfl) (((show bI (decide (isTw 10)) = 1 from by decide) ▸ x_two)) ?_
  refine B_eq e112_55 t112_55 (fun q => absurd q (by decide)) (fun _ => ?_)
  refine LA0 e112_58 ?_
  refine Gr e112_59 (o1 L) (hR 1 0 2 rfl) f704 ?_
  refine LI3 e112_62 ?_
  refine Cv1 e112_63 c112_55 (o2 L) (Nat.le_of_ble_eq_true rfl) (Nat.le_of_ble_eq_true rfl) ((s_pick (s := 2) (Or.inl rfl) hR hS.1 h8 hm)) ?_
  refine Go e112_66 t112_66 ?_
  refine SA5 e112_71 rfl ?_
  refine LA5 e112_73 ?_
  refine N_nonnull e112_75 t112_75 ?_
  refine LA0 e112_80 ?_
  refine Gr e112_81 (o1 L) (hR 1 6 63 rfl) f710 ?_
  refine LI1 e112_84 ?_
  refine LA4 e112_85 ?_
  refine LA5 e112_87 ?_
  refine LI3 e112_89 ?_
  refine LA0 e112_90 ?_
  refine Gr e112_91 (o1 L) (hR 1 3 38 rfl) f707 ?_
  refine Cv5p e112_94 c112_48 (o63 L) (Nat.le_of_ble_eq_true rfl) (Nat.le_of_ble_eq_true rfl) (m_form10 hR hC ha hb (by omega) (by omega) hP hok.b hPm hokm.b6 hokm.2.1) ?_
  rintro v I9 J9 R9 ⟨hI9, hM⟩
  subst hI9
  obtain ⟨f, rfl, hE⟩ := k_mk_end (t := 10) (i := nI k) (q := nI m) (a := 2 + 2 + 2 * k) (b := 2 + 2 + 2 * m) h hM (fun g e => mkF_PB e hok.1 hokm.1 hkb (by have := hok.2.2; omega))
  exact hE
set_option maxHeartbeats 2000000 in
theorem k_mk11 {i q : Int32} (h : CSt I J R σ) (hp : inP σ.1 i) (hj : okJ σ.1 11 q) (g8 : ¬ σ.1.length = 8) : Cl 112 [.ref 1, .int 11, .int i, .int q] (amSH L) I J R (CP I J R (match mkF 11 (plP σ.1 i) (plP σ.1 q) q.toInt with | none => (-3, σ) | some g => sBring σ g).2 (.int (match mkF 11 (plP σ.1 i) (plP σ.1 q) q.toInt with | none => (-3, σ) | some g => sBring σ g).1)) := by
  obtain ⟨hR, ⟨x, y, hC⟩, hS, hK, hT, hW, hZ, hO⟩ := id h
  have h8 := hO.1.1
  show Ex 112 0 [some (.ref 1), some (.int 11), some (.int i), some (.int q), none, none] [] (amSH L) I J R _
  obtain ⟨k, hk, ei, ek⟩ := hp.of h8
  subst ei
  rw [ek]
  have hok := hO.1.2 k hk
  have ha : amPO (amSH L) R (2 + 2 + 2 * k) := (show SH 2 from Or.inl rfl).pm hR k (by omega)
  have hP := hS.2 k hk
  have hbd : bI (decide (¬ okJ σ.1 11 q)) = 0 := by rw [decide_eq_false (not_not_intro hj)]; rfl
  have z : 1 ≤ q.toInt ∧ q.toInt ≤ 4 := hj
  obtain ⟨m, hm1, hm4, eq⟩ : ∃ m : Nat, 1 ≤ m ∧ m ≤ 4 ∧ q = nI m := ⟨q.toInt.toNat, by omega, by omega, by rw [← Int32.toInt_inj, nI_toInt (by omega)]; omega⟩
  subst eq
  rw [nI_toInt (show m < 2 ^ 31 by omega)]
  refine LI1 e112_0 ?_
  refine B_lt e112_1 t112_1 (fun q => absurd q (by decide)) (fun _ => ?_)
  refine LI1 e112_4 ?_
  refine Ki e112_5 kbipush_12 ?_
  refine C_lt e112_7 t112_7 (fun _ => ?_) (fun q => absurd (by decide) q)
  refine LA0 e112_12 ?_
  refine Gr e112_13 (o1 L) (hR 1 0 2 rfl) f704 ?_
  refine LI2 e112_16 ?_
  refine Cv1 e112_17 c112_55 (o2 L) (Nat.le_of_ble_eq_true rfl) (Nat.le_of_ble_eq_true rfl) ((s_pick (s := 2) (Or.inl rfl) hR hS.1 h8 hk)) ?_
  refine SA4 e112_20 rfl ?_
  refine LA4 e112_22 ?_
  refine N_null e112_24 t112_24 ?_
  refine LA0 e112_27 ?_
  refine LI1 e112_28 ?_
  refine LI3 e112_29 ?_
  refine Cv2 e112_30 c112_143 (o1 L) (Nat.le_of_ble_eq_true rfl) (Nat.le_of_ble_eq_true rfl) ((hbd ▸ x_bad h)) ?_
  refine B_eq e112_33 t112_33 (fun _ => ?_) (fun q => absurd (rfl) q)
  refine LA0 e112_38 ?_
  refine Gr e112_39 (o1 L) (hR 1 0 2 rfl) f704 ?_
  refine Cv0 e112_42 c112_54 (o2 L) (Nat.le_of_ble_eq_true rfl) (Nat.le_of_ble_eq_true rfl) (((show bI (decide (8 ≤ σ.1.length)) = 0 from by rw [decide_eq_false (by omega)]; rfl) ▸ s_full (s := 2) (Or.inl rfl) hR hS.1 h8)) ?_
  refine B_eq e112_45 t112_45 (fun _ => ?_) (fun q => absurd (rfl) q)
  refine LI1 e112_51 ?_
  refine Cs1 e112_52 c112_144 (Nat.le_of_ble_eq_true rfl) (Nat.le_of_ble_eq_true rfl) (((show bI (decide (isTw 11)) = 0 from by decide) ▸ x_two)) ?_
  refine B_eq e112_55 t112_55 (fun _ => ?_) (fun q => absurd (rfl) q)
  refine LA4 e112_69 ?_
  refine SA5 e112_71 rfl ?_
  refine LA5 e112_73 ?_
  refine N_nonnull e112_75 t112_75 ?_
  refine LA0 e112_80 ?_
  refine Gr e112_81 (o1 L) (hR 1 6 63 rfl) f710 ?_
  refine LI1 e112_84 ?_
  refine LA4 e112_85 ?_
  refine LA5 e112_87 ?_
  refine LI3 e112_89 ?_
  refine LA0 e112_90 ?_
  refine Gr e112_91 (o1 L) (hR 1 3 38 rfl) f707 ?_
  refine Cv5p e112_94 c112_48 (o63 L) (Nat.le_of_ble_eq_true rfl) (Nat.le_of_ble_eq_true rfl) (m_form11 hR hC ha ha (by omega) (by omega) hP hok.b hP hm1 hm4 (fun l hl => pf_ok hl hok.2.1 hok.2.2 hm1 hm4)) ?_
  rintro v I9 J9 R9 ⟨hI9, hM⟩
  subst hI9
  obtain ⟨f, rfl, hE⟩ := k_mk_end (t := 11) (i := nI k) (q := nI m) (a := 2 + 2 + 2 * k) (b := 2 + 2 + 2 * k) h hM (fun g e => mkF_PB (q := σ.1.getD k zP) (k := (m : Int)) e hok.1 hok.1 (by omega) (by have := hok.2.2; omega))
  exact hE
set_option maxHeartbeats 2000000 in
theorem k_make {t i q : Int32} (h : CSt I J R σ) : Cl 112 [.ref 1, .int t, .int i, .int q] (amSH L) I J R (CP I J R (sMake σ t i q).2 (.int (sMake σ t i q).1)) := by
  unfold sMake
  by_cases g : (0 ≤ t.toInt ∧ t.toInt < 12) ∧ inP σ.1 i ∧ okJ σ.1 t q
  · rw [if_pos g]
    by_cases g8 : σ.1.length = 8
    · rw [if_pos g8]
      exact k_make8 h g.1 g.2.1 g.2.2 g8
    · rw [if_neg g8]
      obtain ⟨m, hm, rfl⟩ : ∃ m : Nat, m < 12 ∧ t = nI m := ⟨t.toInt.toNat, by omega, by rw [← Int32.toInt_inj, nI_toInt (by omega)]; omega⟩
      have em : (nI m).toInt.toNat = m := by rw [nI_toInt (by omega)]; omega
      rw [em]
      have hj := g.2.2
      have hm12 : m = 0 ∨ m = 1 ∨ m = 2 ∨ m = 3 ∨ m = 4 ∨ m = 5 ∨ m = 6 ∨ m = 7 ∨ m = 8 ∨ m = 9 ∨ m = 10 ∨ m = 11 := by omega
      rcases hm12 with rfl | rfl | rfl | rfl | rfl | rfl | rfl | rfl | rfl | rfl | rfl | rfl
      · exact k_mk0 h g.2.1 hj g8
      · exact k_mk1 h g.2.1 hj g8
      · exact k_mk2 h g.2.1 hj g8
      · exact k_mk3 h g.2.1 hj g8
      · exact k_mk4 h g.2.1 hj g8
      · exact k_mk5 h g.2.1 hj g8
      · exact k_mk6 h g.2.1 hj g8
      · exact k_mk7 h g.2.1 hj g8
      · exact k_mk8 h g.2.1 hj g8
      · exact k_mk9 h g.2.1 hj g8
      · exact k_mk10 h g.2.1 hj g8
      · exact k_mk11 h g.2.1 hj g8
  · rw [if_neg g]
    exact k_make0 h g
end MAKE
