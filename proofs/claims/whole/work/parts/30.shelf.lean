/-! the shelves (printed by wip/whole/t30.py) -/
section SHELF
variable {L : Nat} {I : amI} {J : amJ} {R : amR} {Q : amQ} {a b c n s : Nat} {p q f : Po}
/-- one of the two shelves -/
def SH (s : Nat) : Prop := s = 2 ∨ s = 20
theorem SH.o (hh : SH s) : amO (amSH L) s 9 := by
  rcases hh with e | e
  · subst e; exact o2 L
  · subst e; exact o20 L
theorem SH.oa (hh : SH s) : amA (amSH L) (s + 1) 3 8 := by
  rcases hh with e | e
  · subst e; exact o3 L
  · subst e; exact o21 L
theorem SH.r0 (hh : SH s) (hR : amRok R) : R s 0 = some (s + 1) := by
  rcases hh with e | e
  · subst e; exact hR 2 0 3 rfl
  · subst e; exact hR 20 0 21 rfl
theorem SH.rm (hh : SH s) (hR : amRok R) : ∀ k, k < 8 → R (s + 1) k = some (s + 2 + 2 * k) := by
  rcases hh with e | e
  · subst e
    intro k hk
    match k, hk with
    | 0, _ => exact hR 3 0 4 rfl
    | 1, _ => exact hR 3 1 6 rfl
    | 2, _ => exact hR 3 2 8 rfl
    | 3, _ => exact hR 3 3 10 rfl
    | 4, _ => exact hR 3 4 12 rfl
    | 5, _ => exact hR 3 5 14 rfl
    | 6, _ => exact hR 3 6 16 rfl
    | 7, _ => exact hR 3 7 18 rfl
  · subst e
    intro k hk
    match k, hk with
    | 0, _ => exact hR 21 0 22 rfl
    | 1, _ => exact hR 21 1 24 rfl
    | 2, _ => exact hR 21 2 26 rfl
    | 3, _ => exact hR 21 3 28 rfl
    | 4, _ => exact hR 21 4 30 rfl
    | 5, _ => exact hR 21 5 32 rfl
    | 6, _ => exact hR 21 6 34 rfl
    | 7, _ => exact hR 21 7 36 rfl
theorem SH.pm (hh : SH s) (hR : amRok R) : ∀ k, k < 8 → amPO (amSH L) R (s + 2 + 2 * k) := by
  rcases hh with e | e
  · subst e
    intro k hk
    match k, hk with
    | 0, _ => exact po4 hR
    | 1, _ => exact po6 hR
    | 2, _ => exact po8 hR
    | 3, _ => exact po10 hR
    | 4, _ => exact po12 hR
    | 5, _ => exact po14 hR
    | 6, _ => exact po16 hR
    | 7, _ => exact po18 hR
  · subst e
    intro k hk
    match k, hk with
    | 0, _ => exact po22 hR
    | 1, _ => exact po24 hR
    | 2, _ => exact po26 hR
    | 3, _ => exact po28 hR
    | 4, _ => exact po30 hR
    | 5, _ => exact po32 hR
    | 6, _ => exact po34 hR
    | 7, _ => exact po36 hR
set_option maxHeartbeats 2000000 in
theorem s_size (hh : SH s) (hn : I s 1 = nI n) : Rv 53 [.ref s] (amSH L) I J R (.int (nI n)) := by
  intro Q hQ
  show Ex 53 0 [some (.ref s)] [] (amSH L) I J R _
  refine LA0 e53_0 ?_
  refine Gi e53_1 hh.o (amGi_of f577 (by decide)) ?_
  rw [hn]
  exact Ri e53_4 rt53 (hQ)
set_option maxHeartbeats 2000000 in
theorem s_full (hh : SH s) (hR : amRok R) (hn : I s 1 = nI n) (h8 : n ≤ 8) : Rv 54 [.ref s] (amSH L) I J R (.int (bI (decide (8 ≤ n)))) := by
  intro Q hQ
  show Ex 54 0 [some (.ref s)] [] (amSH L) I J R _
  refine LA0 e54_0 ?_
  refine Gi e54_1 hh.o (amGi_of f577 (by decide)) ?_
  rw [hn]
  refine Ki e54_4 kbipush_8 ?_
  refine CN_lt (a := n) (b := 8) e54_6 t54_6 rfl (by decide) (by omega) (by omega) (fun h6 => ?_) (fun h6 => ?_)
  · refine Ki e54_13 kiconst_0 ?_
    exact Rz e54_14 rt54 (by decide) (by
    rw [decide_eq_false (by omega)] at hQ
    exact hQ)
  · refine Ki e54_9 kiconst_1 ?_
    refine Go e54_10 t54_10 ?_
    exact Rz e54_14 rt54 (by decide) (by
    rw [decide_eq_true (by omega)] at hQ
    exact hQ)
set_option maxHeartbeats 2000000 in
theorem s_pick (hh : SH s) (hR : amRok R) (hn : I s 1 = nI n) (h8 : n ≤ 8) {k : Nat} (hk : k < n) : Rv 55 [.ref s, .int (nI k)] (amSH L) I J R (.ref (s + 2 + 2 * k)) := by
  intro Q hQ
  show Ex 55 0 [some (.ref s), some (.int (nI k))] [] (amSH L) I J R _
  refine LI1 e55_0 ?_
  refine B_lt e55_1 t55_1 (fun q => absurd q (nI_pos (by omega))) (fun _ => ?_)
  refine LI1 e55_4 ?_
  refine LA0 e55_5 ?_
  refine Gi e55_6 hh.o (amGi_of f577 (by decide)) ?_
  rw [hn]
  refine CN_ge (a := k) (b := n) e55_9 t55_9 rfl rfl (by omega) (by omega) (fun q => absurd q (by omega)) (fun _ => ?_)
  refine LI1 e55_12 ?_
  refine Ki e55_13 kbipush_8 ?_
  refine CN_ge (a := k) (b := 8) e55_15 t55_15 rfl (by decide) (by omega) (by omega) (fun q => absurd q (by omega)) (fun _ => ?_)
  refine LA0 e55_18 ?_
  refine Gr e55_19 hh.o (hh.r0 hR) f576 ?_
  refine LI1 e55_22 ?_
  refine ArN (k := k) e55_23 hh.oa (by decide) rfl (by omega) (by decide) (hh.rm hR k (by omega)) ?_
  refine Go e55_24 t55_24 ?_
  exact Ra e55_28 rt55 (hQ)
set_option maxHeartbeats 2000000 in
theorem s_pickno (hh : SH s) (hR : amRok R) (hn : I s 1 = nI n) (h8 : n ≤ 8) {k : Int32} (hk : ¬ (0 ≤ k.toInt ∧ k.toInt < n)) : Rv 55 [.ref s, .int k] (amSH L) I J R .null := by
  intro Q hQ
  have hnn : ¬ k < 0 → ¬ nI n ≤ k → False := fun a b => by
    rw [i32lt, show (0 : Int32).toInt = 0 from rfl] at a
    rw [i32le, nI_toInt (by omega)] at b
    exact hk ⟨by omega, by omega⟩
  show Ex 55 0 [some (.ref s), some (.int k)] [] (amSH L) I J R _
  refine LI1 e55_0 ?_
  refine B_lt e55_1 t55_1 (fun h1 => ?_) (fun h1 => ?_)
  · refine Kn e55_27 ?_
    exact Rn e55_28 rt55 (hQ)
  · refine LI1 e55_4 ?_
    refine LA0 e55_5 ?_
    refine Gi e55_6 hh.o (amGi_of f577 (by decide)) ?_
    rw [hn]
    refine C_ge e55_9 t55_9 (fun h9 => ?_) (fun h9 => ?_)
    · refine Kn e55_27 ?_
      exact Rn e55_28 rt55 (hQ)
    · exact (hnn h1 h9).elim
set_option maxHeartbeats 2000000 in
theorem s_addno (hh : SH s) (hR : amRok R) (hn : I s 1 = nI n) (h8 : n ≤ 8) (h : n = 8) : Rv 56 [.ref s, .ref a] (amSH L) I J R (.int (-3)) := by
  intro Q hQ
  show Ex 56 0 [some (.ref s), some (.ref a)] [] (amSH L) I J R _
  refine LA0 e56_0 ?_
  refine Cv0 e56_1 c56_54 hh.o (Nat.le_of_ble_eq_true rfl) (Nat.le_of_ble_eq_true rfl) (s_full hh hR hn h8) ?_
  rw [decide_eq_true (by omega)]
  refine B_eq e56_4 t56_4 (fun q => absurd q (by decide)) (fun _ => ?_)
  refine Ki e56_7 kbipush_m3 ?_
  exact Ri e56_9 rt56 (hQ)
set_option maxHeartbeats 2000000 in
theorem s_add (hh : SH s) (hR : amRok R) (hn : I s 1 = nI n) (h8 : n ≤ 8) (h : n < 8) (ha : amPO (amSH L) R a) (han : a ≠ s + 2 + 2 * n) (hp : JP J (a + 1) p) : Cl 56 [.ref s, .ref a] (amSH L) I J R (fun v I' J' R' => v = some (.int (nI n)) ∧ I' = amU I s 1 (nI (n + 1)) ∧ R' = R ∧ Fr J J' (s + 2 + 2 * n + 1) ∧ JP J' (s + 2 + 2 * n + 1) p) := by
  show Ex 56 0 [some (.ref s), some (.ref a)] [] (amSH L) I J R _
  refine LA0 e56_0 ?_
  refine Cv0 e56_1 c56_54 hh.o (Nat.le_of_ble_eq_true rfl) (Nat.le_of_ble_eq_true rfl) (s_full hh hR hn h8) ?_
  rw [decide_eq_false (by omega)]
  refine B_eq e56_4 t56_4 (fun _ => ?_) (fun q => absurd (rfl) q)
  refine LA0 e56_10 ?_
  refine Gr e56_11 hh.o (hh.r0 hR) f576 ?_
  refine LA0 e56_14 ?_
  refine Gi e56_15 hh.o (amGi_of f577 (by decide)) ?_
  rw [hn]
  refine ArN (k := n) e56_18 hh.oa (by decide) rfl (by omega) (by decide) (hh.rm hR n (by omega)) ?_
  refine LA1 e56_19 ?_
  refine Cv1p e56_20 c56_8 (hh.pm (L := L) hR n (by omega)).1 (Nat.le_of_ble_eq_true rfl) (Nat.le_of_ble_eq_true rfl) (p_copy (hh.pm hR n (by omega)) ha han hp) ?_
  rintro _ I1 J1 R1 ⟨rfl, hI1, hR1, hF1, hP1⟩
  subst hI1
  subst hR1
  refine LA0 e56_23 ?_
  refine Dup e56_24 rfl ?_
  refine Gi e56_25 hh.o (amGi_of f577 (by decide)) ?_
  rw [hn]
  refine Ki e56_28 kiconst_1 ?_
  refine IaddN (a := n) (b := 1) e56_29 rfl (by decide) ?_
  refine Pi e56_30 hh.o f577 ?_
  refine LA0 e56_33 ?_
  refine Gi e56_34 hh.o (amGi_of f577 (by decide)) ?_
  rw [amU_same]
  refine Ki e56_37 kiconst_1 ?_
  refine IsubN (a := (n + 1)) (b := 1) e56_38 rfl (by decide) (by omega) ?_
  exact Ri e56_39 rt56 (by
  rw [Nat.add_sub_cancel]
  exact ⟨rfl, rfl, rfl, hF1, hP1⟩)
set_option maxHeartbeats 2000000 in
theorem s_shorten (hh : SH s) (hR : amRok R) (hn : I s 1 = nI n) (h8 : n ≤ 8) {k : Nat} (hk : k < n) : Cl 57 [.ref s, .int (nI k)] (amSH L) I J R (fun v I' J' R' => v = none ∧ I' = amU I s 1 (nI k) ∧ J' = J ∧ R' = R) := by
  show Ex 57 0 [some (.ref s), some (.int (nI k))] [] (amSH L) I J R _
  refine LI1 e57_0 ?_
  refine B_lt e57_1 t57_1 (fun q => absurd q (nI_pos (by omega))) (fun _ => ?_)
  refine LI1 e57_4 ?_
  refine LA0 e57_5 ?_
  refine Gi e57_6 hh.o (amGi_of f577 (by decide)) ?_
  rw [hn]
  refine CN_ge (a := k) (b := n) e57_9 t57_9 rfl rfl (by omega) (by omega) (fun q => absurd q (by omega)) (fun _ => ?_)
  refine LA0 e57_12 ?_
  refine LI1 e57_13 ?_
  refine Pi e57_14 hh.o f577 ?_
  exact Rvd e57_17 rt57 (⟨rfl, rfl, rfl, rfl⟩)
set_option maxHeartbeats 2000000 in
theorem s_keep (hh : SH s) (hR : amRok R) (hn : I s 1 = nI n) (h8 : n ≤ 8) : Cl 57 [.ref s, .int (nI n)] (amSH L) I J R (fun v I' J' R' => v = none ∧ I' = I ∧ J' = J ∧ R' = R) := by
  show Ex 57 0 [some (.ref s), some (.int (nI n))] [] (amSH L) I J R _
  refine LI1 e57_0 ?_
  refine B_lt e57_1 t57_1 (fun q => absurd q (nI_pos (by omega))) (fun _ => ?_)
  refine LI1 e57_4 ?_
  refine LA0 e57_5 ?_
  refine Gi e57_6 hh.o (amGi_of f577 (by decide)) ?_
  rw [hn]
  refine CN_ge (a := n) (b := n) e57_9 t57_9 rfl rfl (by omega) (by omega) (fun _ => ?_) (fun q => by omega)
  exact Rvd e57_17 rt57 (⟨rfl, rfl, rfl, rfl⟩)
/-- how many of the first n are like q -/
def hml (J : amJ) (s a : Nat) : Nat → Nat
  | 0 => 0
  | n + 1 => if lk (J (s + 2 + 2 * n + 1)) (J (a + 1)) 9 = true then hml J s a n + 1 else hml J s a n
theorem hml_le : ∀ n, hml J s a n ≤ n
  | 0 => Nat.le_refl _
  | n + 1 => by
    have h := hml_le n
    unfold hml
    split <;> omega
set_option maxHeartbeats 2000000 in
theorem s_like_lp (hh : SH s) (hR : amRok R) (hn : I s 1 = nI n) (h8 : n ≤ 8) (ha : amPO (amSH L) R a) (hQ : Q (some (.int (nI (hml J s a n)))) I J R) : ∀ (m i : Nat), 8 - i < m → i ≤ n → Ex 58 4 [some (.ref s), some (.ref a), some (.int (nI (hml J s a i))), some (.int (nI i))] [] (amSH L) I J R Q := by
  intro m
  induction m with
  | zero => intro i h; omega
  | succ m ih =>
    intro i h' h9
    have hle := hml_le (J := J) (s := s) (a := a) i
    refine LI3 e58_4 ?_
    refine LA0 e58_5 ?_
    refine Gi e58_6 hh.o (amGi_of f577 (by decide)) ?_
    rw [hn]
    refine CN_ge (a := i) (b := n) e58_9 t58_9 rfl rfl (by omega) (by omega) (fun h9 => ?_) (fun h9 => ?_)
    · refine LI2 e58_34 ?_
      exact Ri e58_35 rt58 (by
      have e9 : i = n := by omega
      subst e9
      exact hQ)
    · refine LA0 e58_12 ?_
      refine Gr e58_13 hh.o (hh.r0 hR) f576 ?_
      refine LI3 e58_16 ?_
      refine ArN (k := i) e58_17 hh.oa (by decide) rfl (by omega) (by decide) (hh.rm hR i (by omega)) ?_
      refine LA1 e58_18 ?_
      refine Cv1 e58_19 c58_9 (hh.pm (L := L) hR i (by omega)).1 (Nat.le_of_ble_eq_true rfl) (Nat.le_of_ble_eq_true rfl) (p_like (hh.pm hR i (by omega)) ha) ?_
      by_cases g : lk (J (s + 2 + 2 * i + 1)) (J (a + 1)) 9 = true
      · rw [if_pos g]
        refine B_eq e58_22 t58_22 (fun q => absurd q (by decide)) (fun _ => ?_)
        refine IncN2 (m := (hml J s a i)) e58_25 rfl ?_
        refine IncN3 (m := i) e58_28 rfl ?_
        refine Go e58_31 t58_31 ?_
        have e : hml J s a (i + 1) = hml J s a i + 1 := if_pos g
        have := ih (i + 1) (by omega) (by omega)
        rw [e] at this
        exact this
      · rw [if_neg g]
        refine B_eq e58_22 t58_22 (fun _ => ?_) (fun q => absurd (rfl) q)
        refine IncN3 (m := i) e58_28 rfl ?_
        refine Go e58_31 t58_31 ?_
        have e : hml J s a (i + 1) = hml J s a i := if_neg g
        have := ih (i + 1) (by omega) (by omega)
        rw [e] at this
        exact this
set_option maxHeartbeats 2000000 in
theorem s_like (hh : SH s) (hR : amRok R) (hn : I s 1 = nI n) (h8 : n ≤ 8) (ha : amPO (amSH L) R a) : Rv 58 [.ref s, .ref a] (amSH L) I J R (.int (nI (hml J s a n))) := by
  intro Q hQ
  show Ex 58 0 [some (.ref s), some (.ref a), none, none] [] (amSH L) I J R _
  refine Ki e58_0 kiconst_0 ?_
  refine SI2 e58_1 rfl ?_
  refine Ki e58_2 kiconst_0 ?_
  refine SI3 e58_3 rfl ?_
  exact s_like_lp hh hR hn h8 ha hQ 9 0 (by omega) (by omega)
end SHELF
