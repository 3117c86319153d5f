/-! the class of polynomials: what its methods do (printed by wip/whole/t19.py) -/
def amPO (S : amS) (R : amR) (a : Nat) : Prop := amO S a 7 ∧ R a 0 = some (a + 1) ∧ amA S (a + 1) 1 9
section POLY
variable {S : amS} {I : amI} {J : amJ} {R : amR} {Q : amQ} {a b c : Nat} {p q : Po}
theorem i32_lt {x y : Int32} (h : ¬ x < y) : y.toInt ≤ x.toInt := by
  rw [Int32.lt_iff_toInt_lt] at h; omega
/-- the number at a power, 0 where there is none -/
def atv (J : amJ) (a : Nat) (k : Int32) : Int64 := if 0 ≤ k.toInt ∧ k.toInt < 9 then J (a + 1) k.toInt.toNat else 0
set_option maxHeartbeats 2000000 in
theorem p_at (ha : amPO S R a) (k : Int32) : Rv 3 [.ref a, .int k] S I J R (.long (atv J a k)) := by
  intro Q hQ
  show Ex 3 0 [some (.ref a), some (.int k)] [] S I J R _
  refine LI1 e3_0 ?_
  refine B_lt e3_1 t3_1 (fun h1 => ?_) (fun h1 => ?_)
  · refine K0 e3_19 ?_
    exact Rj e3_20 rt3 (by
      have e : atv J a k = 0 := by
        unfold atv
        first
          | (rw [if_neg]; rw [Int32.lt_iff_toInt_lt, show (0 : Int32).toInt = 0 from rfl] at h1; omega)
          | (rw [if_neg]; rw [Int32.le_iff_toInt_le, show (9 : Int32).toInt = 9 from rfl] at h7; omega)
          | (rw [if_pos]; rfl; have := Int32.not_le.mp h7; rw [Int32.lt_iff_toInt_lt] at this; rw [show (9 : Int32).toInt = 9 from rfl] at this; have h2 := i32_lt h1; rw [show (0 : Int32).toInt = 0 from rfl] at h2; omega)
      rw [e] at hQ
      exact hQ)
  · refine LI1 e3_4 ?_
    refine Ki e3_5 kbipush_9 ?_
    refine C_ge e3_7 t3_7 (fun h7 => ?_) (fun h7 => ?_)
    · refine K0 e3_19 ?_
      exact Rj e3_20 rt3 (by
        have e : atv J a k = 0 := by
          unfold atv
          first
            | (rw [if_neg]; rw [Int32.lt_iff_toInt_lt, show (0 : Int32).toInt = 0 from rfl] at h1; omega)
            | (rw [if_neg]; rw [Int32.le_iff_toInt_le, show (9 : Int32).toInt = 9 from rfl] at h7; omega)
            | (rw [if_pos]; rfl; have := Int32.not_le.mp h7; rw [Int32.lt_iff_toInt_lt] at this; rw [show (9 : Int32).toInt = 9 from rfl] at this; have h2 := i32_lt h1; rw [show (0 : Int32).toInt = 0 from rfl] at h2; omega)
        rw [e] at hQ
        exact hQ)
    · refine LA0 e3_10 ?_
      refine Gr e3_11 ha.1 ha.2.1 f448 ?_
      refine LI1 e3_14 ?_
      refine Aj e3_15 ha.2.2 (Int32.not_lt.mp h1) (by have := Int32.not_le.mp h7; rw [Int32.lt_iff_toInt_lt] at this; rw [show (9 : Int32).toInt = 9 from rfl] at this; have h2 := i32_lt h1; rw [show (0 : Int32).toInt = 0 from rfl] at h2; show k.toInt.toNat < 9; omega) ?_
      refine Go e3_16 t3_16 ?_
      exact Rj e3_20 rt3 (by
        have e : atv J a k = J (a + 1) k.toNatClampNeg := by
          unfold atv
          first
            | (rw [if_neg]; rw [Int32.lt_iff_toInt_lt, show (0 : Int32).toInt = 0 from rfl] at h1; omega)
            | (rw [if_neg]; rw [Int32.le_iff_toInt_le, show (9 : Int32).toInt = 9 from rfl] at h7; omega)
            | (rw [if_pos]; rfl; have := Int32.not_le.mp h7; rw [Int32.lt_iff_toInt_lt] at this; rw [show (9 : Int32).toInt = 9 from rfl] at this; have h2 := i32_lt h1; rw [show (0 : Int32).toInt = 0 from rfl] at h2; omega)
        rw [e] at hQ
        exact hQ)
theorem atv_n {k : Nat} (hk : k < 9) : atv J a (nI k) = J (a + 1) k := by
  unfold atv
  rw [nI_toInt (by omega), if_pos (by omega)]
  rfl
theorem atv_no {k : Int32} (h : k.toInt < 0 ∨ 9 ≤ k.toInt) : atv J a k = 0 := by
  unfold atv
  rw [if_neg (by omega)]
set_option maxHeartbeats 2000000 in
theorem p_degree_lp (ha : amPO S R a) (hp : JP J (a + 1) p) (hB : PB 4000000000000000000 p) (hQ : Q (some (.int (dI (sz p)))) I J R) : ∀ m, m ≤ 9 → (∀ k, m ≤ k → k < 9 → p k = 0) → Ex 5 3 [some (.ref a), some (.int (dI m))] [] S I J R Q := by
  intro m
  induction m with
  | zero =>
    intro _ hz
    show Ex 5 3 [some (.ref a), some (.int (-1))] [] S I J R Q
    refine LI1 e5_3 ?_
    refine B_lt e5_4 t5_4 (fun _ => ?_) (fun q => absurd (by decide) q)
    refine LI1 e5_24 ?_
    exact Ri e5_25 rt5 (by
      have e : sz p = 0 := sz_of (by omega) hz (Or.inl rfl)
      rw [e] at hQ
      exact hQ)
  | succ m ih =>
    intro hm hz
    show Ex 5 3 [some (.ref a), some (.int (nI m))] [] S I J R Q
    refine LI1 e5_3 ?_
    refine B_lt e5_4 t5_4 (fun q => absurd q (nI_pos (by omega))) (fun _ => ?_)
    refine LA0 e5_7 ?_
    refine Gr e5_8 ha.1 ha.2.1 f448 ?_
    refine LI1 e5_11 ?_
    refine AjN (k := m) e5_12 ha.2.2 rfl (by omega) (by decide) ?_
    refine K0 e5_13 ?_
    refine D_ne e5_14 e5_15 t5_15 (fun h14 => ?_) (fun h14 => ?_)
    · refine LI1 e5_24 ?_
      exact Ri e5_25 rt5 (by
        have e : sz p = m + 1 := sz_of (by omega) (fun k g1 g2 => hz k g1 g2) (Or.inr (fun z => h14 (by rw [hp m (by omega), Nat.add_sub_cancel] at *; rw [z]; rfl)))
        rw [e] at hQ
        exact hQ)
    · refine Inc1 (d := (-1)) e5_18 rfl rfl ?_
      refine Go e5_21 t5_21 ?_
      rw [dI_dec]
      exact ih (by omega) (fun k g1 g2 => by
        by_cases e : k = m
        · subst e; exact Decidable.not_not.mp (fun q => h14 (fun z => q ((oI_eq (hB.iB (by decide) (by omega)) ⟨by decide, by decide⟩).mp ((hp k (by omega)).symm.trans z))))
        · exact hz k (by omega) g2)
set_option maxHeartbeats 2000000 in
theorem p_degree (ha : amPO S R a) (hp : JP J (a + 1) p) (hB : PB 4000000000000000000 p) : Rv 5 [.ref a] S I J R (.int (dI (sz p))) := by
  intro Q hQ
  show Ex 5 0 [some (.ref a), none] [] S I J R _
  refine Ki e5_0 kbipush_8 ?_
  refine SI1 e5_2 rfl ?_
  exact p_degree_lp ha hp hB hQ 9 (Nat.le_refl _) (fun k g1 g2 => by omega)
/-- the head, 0 where all numbers are -/
def hd (p : Po) : Int := if sz p = 0 then 0 else p (sz p - 1)
theorem atv_hd (hp : JP J (a + 1) p) : atv J a (dI (sz p)) = oI (hd p) := by
  have h9 := sz_le p
  unfold hd
  by_cases e : sz p = 0
  · rw [if_pos e, e, atv_no (Or.inl (by decide))]; rfl
  · obtain ⟨n, hn⟩ := Nat.exists_eq_succ_of_ne_zero e
    rw [if_neg e, hn]
    show atv J a (nI n) = _
    rw [atv_n (by omega), hp n (by omega)]
    rfl
set_option maxHeartbeats 2000000 in
theorem p_head (ha : amPO S R a) (hp : JP J (a + 1) p) (hB : PB 4000000000000000000 p) : Rv 6 [.ref a] S I J R (.long (oI (hd p))) := by
  intro Q hQ
  show Ex 6 0 [some (.ref a)] [] S I J R _
  refine LA0 e6_0 ?_
  refine LA0 e6_1 ?_
  refine Cv0 e6_2 c6_5 ha.1 (Nat.le_of_ble_eq_true rfl) (Nat.le_of_ble_eq_true rfl) (p_degree ha hp hB) ?_
  refine Cv1 e6_5 c6_3 ha.1 (Nat.le_of_ble_eq_true rfl) (Nat.le_of_ble_eq_true rfl) (p_at ha _) ?_
  refine Rj e6_8 rt6 ?_
  rw [atv_hd hp]
  exact hQ
end POLY
