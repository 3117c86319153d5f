/-! lists, tape, paper: small methods (printed by wip/whole/t31.py) -/
section ROWS31
variable {L : Nat} {I : amI} {J : amJ} {R : amR} {Q : amQ} {a b c n m k i : Nat} {p q f : Po} {v : Int32}
set_option maxHeartbeats 2000000 in
theorem w_known {k : Int32} : Rv 105 [.ref 149, .int k] (amSH L) I J R (.int (bI (decide (0 ≤ k.toInt ∧ k.toInt < 4)))) := by
  intro Q hQ
  show Ex 105 0 [some (.ref 149), some (.int k)] [] (amSH L) I J R _
  refine LI1 e105_0 ?_
  refine B_lt e105_1 t105_1 (fun h1 => ?_) (fun h1 => ?_)
  · refine Ki e105_13 kiconst_0 ?_
    exact Rz e105_14 rt105 (by decide) (by
    have e : bI (decide (0 ≤ k.toInt ∧ k.toInt < 4)) = 0 := by
      rw [decide_eq_false]
      · rfl
      · simp only [i32lt, i32le, show (0 : Int32).toInt = 0 from rfl, show (4 : Int32).toInt = 4 from rfl] at *
        omega
    rw [e] at hQ
    exact hQ)
  · refine LI1 e105_4 ?_
    refine Ki e105_5 kiconst_4 ?_
    refine C_ge e105_6 t105_6 (fun h6 => ?_) (fun h6 => ?_)
    · refine Ki e105_13 kiconst_0 ?_
      exact Rz e105_14 rt105 (by decide) (by
      have e : bI (decide (0 ≤ k.toInt ∧ k.toInt < 4)) = 0 := by
        rw [decide_eq_false]
        · rfl
        · simp only [i32lt, i32le, show (0 : Int32).toInt = 0 from rfl, show (4 : Int32).toInt = 4 from rfl] at *
          omega
      rw [e] at hQ
      exact hQ)
    · refine Ki e105_9 kiconst_1 ?_
      refine Go e105_10 t105_10 ?_
      exact Rz e105_14 rt105 (by decide) (by
      have e : bI (decide (0 ≤ k.toInt ∧ k.toInt < 4)) = 1 := by
        rw [decide_eq_true]
        · rfl
        · simp only [i32lt, i32le, show (0 : Int32).toInt = 0 from rfl, show (4 : Int32).toInt = 4 from rfl] at *
          omega
      rw [e] at hQ
      exact hQ)
theorem kn1 (hk : k < 4) : Rv 105 [.ref 149, .int (nI k)] (amSH L) I J R (.int 1) := by
  have h := w_known (L := L) (I := I) (J := J) (R := R) (k := nI k)
  rw [decide_eq_true ⟨by rw [nI_toInt (by omega)]; omega, by rw [nI_toInt (by omega)]; omega⟩] at h
  exact h
set_option maxHeartbeats 2000000 in
theorem w_size (hR : amRok R) (hk : k < 4) : Rv 106 [.ref 149, .int (nI k)] (amSH L) I J R (.int (I 151 k)) := by
  intro Q hQ
  show Ex 106 0 [some (.ref 149), some (.int (nI k))] [] (amSH L) I J R _
  refine LA0 e106_0 ?_
  refine LI1 e106_1 ?_
  refine Cv1 e106_2 c106_105 (o149 L) (Nat.le_of_ble_eq_true rfl) (Nat.le_of_ble_eq_true rfl) ((kn1 hk)) ?_
  refine B_eq e106_5 t106_5 (fun q => absurd q (by decide)) (fun _ => ?_)
  refine LA0 e106_8 ?_
  refine Gr e106_9 (o149 L) (hR 149 1 151 rfl) f513 ?_
  refine LI1 e106_12 ?_
  refine AiN (k := k) e106_13 (o151 L) rfl (by omega) (by decide) ?_
  refine Go e106_14 t106_14 ?_
  exact Ri e106_18 rt106 (hQ)
set_option maxHeartbeats 2000000 in
theorem w_at (hR : amRok R) (hk : k < 4) (hn : I 151 k = nI n) (h24 : n ≤ 24) (hi : i < n) : Rv 108 [.ref 149, .int (nI k), .int (nI i)] (amSH L) I J R (.int (I 150 (k * 24 + i))) := by
  intro Q hQ
  show Ex 108 0 [some (.ref 149), some (.int (nI k)), some (.int (nI i))] [] (amSH L) I J R _
  refine LI2 e108_0 ?_
  refine B_lt e108_1 t108_1 (fun q => absurd q (nI_pos (by omega))) (fun _ => ?_)
  refine LI2 e108_4 ?_
  refine LA0 e108_5 ?_
  refine LI1 e108_6 ?_
  refine Cv1 e108_7 c108_106 (o149 L) (Nat.le_of_ble_eq_true rfl) (Nat.le_of_ble_eq_true rfl) ((hn ▸ w_size hR hk : Rv 106 [.ref 149, .int (nI k)] (amSH L) I J R (.int (nI n)))) ?_
  refine CN_ge (a := i) (b := n) e108_10 t108_10 rfl rfl (by omega) (by omega) (fun q => absurd q (by omega)) (fun _ => ?_)
  refine LA0 e108_13 ?_
  refine Gr e108_14 (o149 L) (hR 149 0 150 rfl) f512 ?_
  refine LI1 e108_17 ?_
  refine Ki e108_18 kbipush_24 ?_
  refine ImulN (a := k) (b := 24) e108_20 rfl (by decide) ?_
  refine LI2 e108_21 ?_
  refine IaddN (a := (k * 24)) (b := i) e108_22 rfl rfl ?_
  refine AiN (k := ((k * 24) + i)) e108_23 (o150 L) rfl (by omega) (by decide) ?_
  refine Go e108_24 t108_24 ?_
  exact Ri e108_28 rt108 (hQ)
set_option maxHeartbeats 2000000 in
theorem w_put (hR : amRok R) (hk : k < 4) (hn : I 151 k = nI n) (h24 : n ≤ 24) (hi : i < n) : Cl 109 [.ref 149, .int (nI k), .int (nI i), .int v] (amSH L) I J R (fun u I' J' R' => u = none ∧ I' = amU I 150 (k * 24 + i) v ∧ J' = J ∧ R' = R) := by
  show Ex 109 0 [some (.ref 149), some (.int (nI k)), some (.int (nI i)), some (.int v)] [] (amSH L) I J R _
  refine LI2 e109_0 ?_
  refine B_lt e109_1 t109_1 (fun q => absurd q (nI_pos (by omega))) (fun _ => ?_)
  refine LI2 e109_4 ?_
  refine LA0 e109_5 ?_
  refine LI1 e109_6 ?_
  refine Cv1 e109_7 c109_106 (o149 L) (Nat.le_of_ble_eq_true rfl) (Nat.le_of_ble_eq_true rfl) ((hn ▸ w_size hR hk : Rv 106 [.ref 149, .int (nI k)] (amSH L) I J R (.int (nI n)))) ?_
  refine CN_ge (a := i) (b := n) e109_10 t109_10 rfl rfl (by omega) (by omega) (fun q => absurd q (by omega)) (fun _ => ?_)
  refine LA0 e109_13 ?_
  refine Gr e109_14 (o149 L) (hR 149 0 150 rfl) f512 ?_
  refine LI1 e109_17 ?_
  refine Ki e109_18 kbipush_24 ?_
  refine ImulN (a := k) (b := 24) e109_20 rfl (by decide) ?_
  refine LI2 e109_21 ?_
  refine IaddN (a := (k * 24)) (b := i) e109_22 rfl rfl ?_
  refine LI3 e109_23 ?_
  refine WiN (k := ((k * 24) + i)) e109_24 (o150 L) rfl (by omega) (by decide) ?_
  exact Rvd e109_25 rt109 (⟨rfl, rfl, rfl, rfl⟩)
/-- the list k is new, as far as i -/
def wL (I I' : amI) (k n i : Nat) : Prop := ∀ b x, I' b x = if b = 151 ∧ x = k then nI n else if b = 150 ∧ k * 24 ≤ x ∧ x < k * 24 + i then 0 else I b x
set_option maxHeartbeats 2000000 in
theorem w_lay_lp {I0 : amI} (hR : amRok R) (hk : k < 4) (hn : n ≤ 24) (hQ : ∀ I', wL I0 I' k n n → Q none I' J R) : ∀ (m i : Nat) (I : amI), 24 - i < m → i ≤ n → wL I0 I k n i → Ex 107 28 [some (.ref 149), some (.int (nI k)), some (.int (nI n)), some (.int (nI i))] [] (amSH L) I J R Q := by
  intro m
  induction m with
  | zero => intro i I h; omega
  | succ m ih =>
    intro i I h' h9 hI
    refine LI3 e107_28 ?_
    refine LI2 e107_29 ?_
    refine CN_ge (a := i) (b := n) e107_30 t107_30 rfl rfl (by omega) (by omega) (fun h30 => ?_) (fun h30 => ?_)
    · exact Rvd e107_51 rt107 (by
      have e9 : i = n := by omega
      subst e9
      exact hQ _ hI)
    · refine LA0 e107_33 ?_
      refine Gr e107_34 (o149 L) (hR 149 0 150 rfl) f512 ?_
      refine LI1 e107_37 ?_
      refine Ki e107_38 kbipush_24 ?_
      refine ImulN (a := k) (b := 24) e107_40 rfl (by decide) ?_
      refine LI3 e107_41 ?_
      refine IaddN (a := (k * 24)) (b := i) e107_42 rfl rfl ?_
      refine Ki e107_43 kiconst_0 ?_
      refine WiN (k := ((k * 24) + i)) e107_44 (o150 L) rfl (by omega) (by decide) ?_
      refine IncN3 (m := i) e107_45 rfl ?_
      refine Go e107_48 t107_48 ?_
      refine ih (i + 1) _ (by omega) (by omega) (fun b x => ?_)
      by_cases e : b = 150
      · subst e
        by_cases e2 : x = k * 24 + i
        · subst e2
          rw [amU_same, if_neg (by omega), if_pos ⟨rfl, by omega, by omega⟩]
        · have g0 : ¬ ((150 : Nat) = 151 ∧ x = k) := by omega
          rw [amU_ni e2, hI 150 x, if_neg g0, if_neg g0]
          by_cases g : k * 24 ≤ x ∧ x < k * 24 + i
          · rw [if_pos ⟨rfl, g⟩, if_pos ⟨rfl, g.1, by omega⟩]
          · rw [if_neg (fun z => g z.2), if_neg (fun z => g ⟨z.2.1, by omega⟩)]
      · rw [amU_ne e, hI b x]
        by_cases g : b = 151 ∧ x = k
        · rw [if_pos g, if_pos g]
        · rw [if_neg g, if_neg g, if_neg (fun z => e z.1), if_neg (fun z => e z.1)]
set_option maxHeartbeats 2000000 in
theorem w_lay (hR : amRok R) (hk : k < 4) (hn : n ≤ 24) : Cl 107 [.ref 149, .int (nI k), .int (nI n)] (amSH L) I J R (fun u I' J' R' => u = none ∧ wL I I' k n n ∧ J' = J ∧ R' = R) := by
  show Ex 107 0 [some (.ref 149), some (.int (nI k)), some (.int (nI n)), none] [] (amSH L) I J R _
  refine LA0 e107_0 ?_
  refine LI1 e107_1 ?_
  refine Cv1 e107_2 c107_105 (o149 L) (Nat.le_of_ble_eq_true rfl) (Nat.le_of_ble_eq_true rfl) ((kn1 hk)) ?_
  refine B_eq e107_5 t107_5 (fun q => absurd q (by decide)) (fun _ => ?_)
  refine LI2 e107_8 ?_
  refine B_lt e107_9 t107_9 (fun q => absurd q (nI_pos (by omega))) (fun _ => ?_)
  refine LI2 e107_12 ?_
  refine Ki e107_13 kbipush_24 ?_
  refine CN_le (a := n) (b := 24) e107_15 t107_15 rfl (by decide) (by omega) (by omega) (fun _ => ?_) (fun q => by omega)
  refine LA0 e107_19 ?_
  refine Gr e107_20 (o149 L) (hR 149 1 151 rfl) f513 ?_
  refine LI1 e107_23 ?_
  refine LI2 e107_24 ?_
  refine WiN (k := k) e107_25 (o151 L) rfl (by omega) (by decide) ?_
  refine Ki e107_26 kiconst_0 ?_
  refine SI3 e107_27 rfl ?_
  refine w_lay_lp hR hk hn (fun I' h => ⟨rfl, h, rfl, rfl⟩) 25 0 _ (by omega) (by omega) (fun b x => ?_)
  by_cases e : b = 151
  · subst e
    by_cases e2 : x = k
    · subst e2; rw [amU_same, if_pos ⟨rfl, rfl⟩]
    · rw [amU_ni e2, if_neg (fun z => e2 z.2), if_neg (by omega)]
  · rw [amU_ne e, if_neg (fun z => e z.1), if_neg (by omega)]
set_option maxHeartbeats 2000000 in
theorem t_length (hn : I 143 1 = nI n) : Rv 80 [.ref 143] (amSH L) I J R (.int (nI n)) := by
  intro Q hQ
  show Ex 80 0 [some (.ref 143)] [] (amSH L) I J R _
  refine LA0 e80_0 ?_
  refine Gi e80_1 (o143 L) (amGi_of f641 (by decide)) ?_
  rw [hn]
  exact Ri e80_4 rt80 (hQ)
set_option maxHeartbeats 2000000 in
theorem t_clear  : Cl 82 [.ref 143] (amSH L) I J R (fun u I' J' R' => u = none ∧ I' = amU I 143 1 0 ∧ J' = J ∧ R' = R) := by
  show Ex 82 0 [some (.ref 143)] [] (amSH L) I J R _
  refine LA0 e82_0 ?_
  refine Ki e82_1 kiconst_0 ?_
  refine Pi e82_2 (o143 L) f641 ?_
  exact Rvd e82_5 rt82 (⟨rfl, rfl, rfl, rfl⟩)
set_option maxHeartbeats 2000000 in
theorem t_full (hn : I 143 1 = nI 120) : Rv 81 [.ref 143, .int v] (amSH L) I J R (.int 0) := by
  intro Q hQ
  show Ex 81 0 [some (.ref 143), some (.int v)] [] (amSH L) I J R _
  refine LA0 e81_0 ?_
  refine Gi e81_1 (o143 L) (amGi_of f641 (by decide)) ?_
  rw [hn]
  refine Ki e81_4 kbipush_120 ?_
  refine CN_lt (a := 120) (b := 120) e81_6 t81_6 rfl (by decide) (by omega) (by omega) (fun q => absurd q (by omega)) (fun _ => ?_)
  refine Ki e81_9 kiconst_0 ?_
  exact Rz e81_10 rt81 (by decide) (hQ)
set_option maxHeartbeats 2000000 in
theorem t_take (hR : amRok R) (hn : I 143 1 = nI n) (h : n < 120) : Cl 81 [.ref 143, .int v] (amSH L) I J R (fun u I' J' R' => u = some (.int 1) ∧ I' = amU (amU I 144 n v.toInt8.toInt32.toInt8.toInt32) 143 1 (nI (n + 1)) ∧ J' = J ∧ R' = R) := by
  show Ex 81 0 [some (.ref 143), some (.int v)] [] (amSH L) I J R _
  refine LA0 e81_0 ?_
  refine Gi e81_1 (o143 L) (amGi_of f641 (by decide)) ?_
  rw [hn]
  refine Ki e81_4 kbipush_120 ?_
  refine CN_lt (a := n) (b := 120) e81_6 t81_6 rfl (by decide) (by omega) (by omega) (fun _ => ?_) (fun q => by omega)
  refine LA0 e81_11 ?_
  refine Gr e81_12 (o143 L) (hR 143 0 144 rfl) f640 ?_
  refine LA0 e81_15 ?_
  refine Gi e81_16 (o143 L) (amGi_of f641 (by decide)) ?_
  rw [hn]
  refine LI1 e81_19 ?_
  refine I2b e81_20 ?_
  refine WbN (k := n) e81_21 (o144 L) rfl (by omega) (by decide) ?_
  refine LA0 e81_22 ?_
  refine Dup e81_23 rfl ?_
  refine Gi e81_24 (o143 L) (amGi_of f641 (by decide)) ?_
  rw [amU_ne (by decide), hn]
  refine Ki e81_27 kiconst_1 ?_
  refine IaddN (a := n) (b := 1) e81_28 rfl (by decide) ?_
  refine Pi e81_29 (o143 L) f641 ?_
  refine Ki e81_32 kiconst_1 ?_
  exact Rz e81_33 rt81 (by decide) (⟨rfl, rfl, rfl, rfl⟩)
/-- the byte at a place of the first n, 0 behind the end -/
def byt (I : amI) (c n : Nat) (x : Int32) : Int32 := if 0 ≤ x.toInt ∧ x.toInt < n then I c x.toInt.toNat else 0
set_option maxHeartbeats 2000000 in
theorem t_at {x : Int32} (hR : amRok R) (hn : I 143 1 = nI n) (h : n ≤ 120) : Rv 94 [.ref 143, .int x] (amSH L) I J R (.int (byt I 144 n x)) := by
  intro Q hQ
  show Ex 94 0 [some (.ref 143), some (.int x)] [] (amSH L) I J R _
  refine LI1 e94_0 ?_
  refine B_lt e94_1 t94_1 (fun h1 => ?_) (fun h1 => ?_)
  · refine Ki e94_27 kiconst_0 ?_
    exact Ri e94_28 rt94 (by
    have e : byt I 144 n x = 0 := by
      unfold byt
      rw [if_neg]
      intro z
      first
        | (rw [i32lt, show (0 : Int32).toInt = 0 from rfl] at h1; omega)
        | (rw [i32le, nI_toInt (by omega)] at h9; omega)
    rw [e] at hQ
    exact hQ)
  · refine LI1 e94_4 ?_
    refine LA0 e94_5 ?_
    refine Gi e94_6 (o143 L) (amGi_of f641 (by decide)) ?_
    rw [hn]
    refine C_ge e94_9 t94_9 (fun h9 => ?_) (fun h9 => ?_)
    · refine Ki e94_27 kiconst_0 ?_
      exact Ri e94_28 rt94 (by
      have e : byt I 144 n x = 0 := by
        unfold byt
        rw [if_neg]
        intro z
        first
          | (rw [i32lt, show (0 : Int32).toInt = 0 from rfl] at h1; omega)
          | (rw [i32le, nI_toInt (by omega)] at h9; omega)
      rw [e] at hQ
      exact hQ)
    · have g0 : 0 ≤ x.toInt := by
        rw [i32lt, show (0 : Int32).toInt = 0 from rfl] at h1; omega
      have g1 : x.toInt < n := by
        rw [i32le, nI_toInt (by omega)] at h9; omega
      refine LI1 e94_12 ?_
      refine Ki e94_13 kbipush_120 ?_
      refine C_ge e94_15 t94_15 (fun q => absurd q (fun z => by rw [i32le, show (120 : Int32).toInt = 120 from rfl] at z; omega)) (fun _ => ?_)
      refine LA0 e94_18 ?_
      refine Gr e94_19 (o143 L) (hR 143 0 144 rfl) f640 ?_
      refine LI1 e94_22 ?_
      refine Ab e94_23 (o144 L) (by rw [i32le]; exact g0) (by show x.toInt.toNat < 120; omega) ?_
      refine Go e94_24 t94_24 ?_
      exact Ri e94_28 rt94 (by
      have e : byt I 144 n x = I 144 x.toNatClampNeg := by
        unfold byt
        rw [if_pos ⟨g0, g1⟩]
        rfl
      rw [e] at hQ
      exact hQ)
set_option maxHeartbeats 2000000 in
theorem r_at {x : Int32} (hR : amRok R) (hn : I 147 1 = nI n) (h : n ≤ 60) : Rv 99 [.ref 147, .int x] (amSH L) I J R (.int (byt I 148 n x)) := by
  intro Q hQ
  show Ex 99 0 [some (.ref 147), some (.int x)] [] (amSH L) I J R _
  refine LI1 e99_0 ?_
  refine B_lt e99_1 t99_1 (fun h1 => ?_) (fun h1 => ?_)
  · refine Ki e99_27 kiconst_0 ?_
    exact Ri e99_28 rt99 (by
    have e : byt I 148 n x = 0 := by
      unfold byt
      rw [if_neg]
      intro z
      first
        | (rw [i32lt, show (0 : Int32).toInt = 0 from rfl] at h1; omega)
        | (rw [i32le, nI_toInt (by omega)] at h9; omega)
    rw [e] at hQ
    exact hQ)
  · refine LI1 e99_4 ?_
    refine LA0 e99_5 ?_
    refine Gi e99_6 (o147 L) (amGi_of f321 (by decide)) ?_
    rw [hn]
    refine C_ge e99_9 t99_9 (fun h9 => ?_) (fun h9 => ?_)
    · refine Ki e99_27 kiconst_0 ?_
      exact Ri e99_28 rt99 (by
      have e : byt I 148 n x = 0 := by
        unfold byt
        rw [if_neg]
        intro z
        first
          | (rw [i32lt, show (0 : Int32).toInt = 0 from rfl] at h1; omega)
          | (rw [i32le, nI_toInt (by omega)] at h9; omega)
      rw [e] at hQ
      exact hQ)
    · have g0 : 0 ≤ x.toInt := by
        rw [i32lt, show (0 : Int32).toInt = 0 from rfl] at h1; omega
      have g1 : x.toInt < n := by
        rw [i32le, nI_toInt (by omega)] at h9; omega
      refine LI1 e99_12 ?_
      refine Ki e99_13 kbipush_60 ?_
      refine C_ge e99_15 t99_15 (fun q => absurd q (fun z => by rw [i32le, show (60 : Int32).toInt = 60 from rfl] at z; omega)) (fun _ => ?_)
      refine LA0 e99_18 ?_
      refine Gr e99_19 (o147 L) (hR 147 0 148 rfl) f320 ?_
      refine LI1 e99_22 ?_
      refine Ab e99_23 (o148 L) (by rw [i32le]; exact g0) (by show x.toInt.toNat < 60; omega) ?_
      refine Go e99_24 t99_24 ?_
      exact Ri e99_28 rt99 (by
      have e : byt I 148 n x = I 148 x.toNatClampNeg := by
        unfold byt
        rw [if_pos ⟨g0, g1⟩]
        rfl
      rw [e] at hQ
      exact hQ)
set_option maxHeartbeats 2000000 in
theorem r_length (hn : I 147 1 = nI n) : Rv 98 [.ref 147] (amSH L) I J R (.int (nI n)) := by
  intro Q hQ
  show Ex 98 0 [some (.ref 147)] [] (amSH L) I J R _
  refine LA0 e98_0 ?_
  refine Gi e98_1 (o147 L) (amGi_of f321 (by decide)) ?_
  rw [hn]
  exact Ri e98_4 rt98 (hQ)
set_option maxHeartbeats 2000000 in
theorem r_put (hR : amRok R) (hn : I 147 1 = nI n) (h : n < 60) : Cl 103 [.ref 147, .int v] (amSH L) I J R (fun u I' J' R' => u = none ∧ I' = amU (amU I 148 n v.toInt8.toInt32.toInt8.toInt32) 147 1 (nI (n + 1)) ∧ J' = J ∧ R' = R) := by
  show Ex 103 0 [some (.ref 147), some (.int v)] [] (amSH L) I J R _
  refine LA0 e103_0 ?_
  refine Gi e103_1 (o147 L) (amGi_of f321 (by decide)) ?_
  rw [hn]
  refine Ki e103_4 kbipush_60 ?_
  refine CN_ge (a := n) (b := 60) e103_6 t103_6 rfl (by decide) (by omega) (by omega) (fun q => absurd q (by omega)) (fun _ => ?_)
  refine LA0 e103_9 ?_
  refine Gr e103_10 (o147 L) (hR 147 0 148 rfl) f320 ?_
  refine LA0 e103_13 ?_
  refine Gi e103_14 (o147 L) (amGi_of f321 (by decide)) ?_
  rw [hn]
  refine LI1 e103_17 ?_
  refine I2b e103_18 ?_
  refine WbN (k := n) e103_19 (o148 L) rfl (by omega) (by decide) ?_
  refine LA0 e103_20 ?_
  refine Dup e103_21 rfl ?_
  refine Gi e103_22 (o147 L) (amGi_of f321 (by decide)) ?_
  rw [amU_ne (by decide), hn]
  refine Ki e103_25 kiconst_1 ?_
  refine IaddN (a := n) (b := 1) e103_26 rfl (by decide) ?_
  refine Pi e103_27 (o147 L) f321 ?_
  exact Rvd e103_30 rt103 (⟨rfl, rfl, rfl, rfl⟩)
end ROWS31
