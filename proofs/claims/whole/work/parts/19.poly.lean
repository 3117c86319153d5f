/-! the class of polynomials: what its methods do (printed by wip/whole/t19.py) -/
def amPO (S : amS) (R : amR) (a : Nat) : Prop := amO S a 7 ∧ R a 0 = some (a + 1) ∧ amA S (a + 1) 1 9
section POLY
variable {S : amS} {I : amI} {J : amJ} {R : amR} {Q : amQ} {a b c : Nat} {p q : Po}
theorem i32_lt {x y : Int32} (h : ¬ x < y) : y.toInt ≤ x.toInt := by
  rw [Int32.lt_iff_toInt_lt] at h; omega
/-- the number at a power, 0 where there is none -/
def atv (J : amJ) (a : Nat) (k : Int32) : Int64 := if 0 ≤ k.toInt ∧ k.toInt < 9 then J (a + 1) k.toInt.toNat else 0
set_option maxHeartbeats 2000000 in
theorem p_at (ha : amPO S R a) (k : Int32) : Rv 3 [.ref a, .int k] S I J R (.long (atv J a k)) := by
  intro Q hQ
  show Ex 3 0 [some (.ref a), some (.int k)] [] S I J R _
  refine LI1 e3_0 ?_
  refine B_lt e3_1 t3_1 (fun h1 => ?_) (fun h1 => ?_)
  · refine K0 e3_19 ?_
    exact Rj e3_20 rt3 (by
      have e : atv J a k = 0 := by
        unfold atv
        first
          | (rw [if_neg]; rw [Int32.lt_iff_toInt_lt, show (0 : Int32).toInt = 0 from rfl] at h1; omega)
          | (rw [if_neg]; rw [Int32.le_iff_toInt_le, show (9 : Int32).toInt = 9 from rfl] at h7; omega)
          | (rw [if_pos]; rfl; have := Int32.not_le.mp h7; rw [Int32.lt_iff_toInt_lt] at this; rw [show (9 : Int32).toInt = 9 from rfl] at this; have h2 := i32_lt h1; rw [show (0 : Int32).toInt = 0 from rfl] at h2; omega)
      rw [e] at hQ
      exact hQ)
  · refine LI1 e3_4 ?_
    refine Ki e3_5 kbipush_9 ?_
    refine C_ge e3_7 t3_7 (fun h7 => ?_) (fun h7 => ?_)
    · refine K0 e3_19 ?_
      exact Rj e3_20 rt3 (by
        have e : atv J a k = 0 := by
          unfold atv
          first
            | (rw [if_neg]; rw [Int32.lt_iff_toInt_lt, show (0 : Int32).toInt = 0 from rfl] at h1; omega)
            | (rw [if_neg]; rw [Int32.le_iff_toInt_le, show (9 : Int32).toInt = 9 from rfl] at h7; omega)
            | (rw [if_pos]; rfl; have := Int32.not_le.mp h7; rw [Int32.lt_iff_toInt_lt] at this; rw [show (9 : Int32).toInt = 9 from rfl] at this; have h2 := i32_lt h1; rw [show (0 : Int32).toInt = 0 from rfl] at h2; omega)
        rw [e] at hQ
        exact hQ)
    · refine LA0 e3_10 ?_
      refine Gr e3_11 ha.1 ha.2.1 f448 ?_
      refine LI1 e3_14 ?_
      refine Aj e3_15 ha.2.2 (Int32.not_lt.mp h1) (by have := Int32.not_le.mp h7; rw [Int32.lt_iff_toInt_lt] at this; rw [show (9 : Int32).toInt = 9 from rfl] at this; have h2 := i32_lt h1; rw [show (0 : Int32).toInt = 0 from rfl] at h2; show k.toInt.toNat < 9; omega) ?_
      refine Go e3_16 t3_16 ?_
      exact Rj e3_20 rt3 (by
        have e : atv J a k = J (a + 1) k.toNatClampNeg := by
          unfold atv
          first
            | (rw [if_neg]; rw [Int32.lt_iff_toInt_lt, show (0 : Int32).toInt = 0 from rfl] at h1; omega)
            | (rw [if_neg]; rw [Int32.le_iff_toInt_le, show (9 : Int32).toInt = 9 from rfl] at h7; omega)
            | (rw [if_pos]; rfl; have := Int32.not_le.mp h7; rw [Int32.lt_iff_toInt_lt] at this; rw [show (9 : Int32).toInt = 9 from rfl] at this; have h2 := i32_lt h1; rw [show (0 : Int32).toInt = 0 from rfl] at h2; omega)
        rw [e] at hQ
        exact hQ)
theorem atv_n {k : Nat} (hk : k < 9) : atv J a (nI k) = J (a + 1) k := by
  unfold atv
  rw [nI_toInt (by omega), if_pos (by omega)]
  rfl
theorem atv_no {k : Int32} (h : k.toInt < 0 ∨ 9 ≤ k.toInt) : atv J a k = 0 := by
  unfold atv
  rw [if_neg (by omega)]
set_option maxHeartbeats 2000000 in
theorem p_degree_lp (ha : amPO S R a) (hp : JP J (a + 1) p) (hB : PB 4000000000000000000 p) (hQ : Q (some (.int (dI (sz p)))) I J R) : ∀ m, m ≤ 9 → (∀ k, m ≤ k → k < 9 → p k = 0) → Ex 5 3 [some (.ref a), some (.int (dI m))] [] S I J R Q := by
  intro m
  induction m with
  | zero =>
    intro _ hz
    show Ex 5 3 [some (.ref a), some (.int (-1))] [] S I J R Q
    refine LI1 e5_3 ?_
    refine B_lt e5_4 t5_4 (fun _ => ?_) (fun q => absurd (by decide) q)
    refine LI1 e5_24 ?_
    exact Ri e5_25 rt5 (by
      have e : sz p = 0 := sz_of (by omega) hz (Or.inl rfl)
      rw [e] at hQ
      exact hQ)
  | succ m ih =>
    intro hm hz
    show Ex 5 3 [some (.ref a), some (.int (nI m))] [] S I J R Q
    refine LI1 e5_3 ?_
    refine B_lt e5_4 t5_4 (fun q => absurd q (nI_pos (by omega))) (fun _ => ?_)
    refine LA0 e5_7 ?_
    refine Gr e5_8 ha.1 ha.2.1 f448 ?_
    refine LI1 e5_11 ?_
    refine AjN (k := m) e5_12 ha.2.2 rfl (by omega) (by decide) ?_
    refine K0 e5_13 ?_
    refine D_ne e5_14 e5_15 t5_15 (fun h14 => ?_) (fun h14 => ?_)
    · refine LI1 e5_24 ?_
      exact Ri e5_25 rt5 (by
        have e : sz p = m + 1 := sz_of (by omega) (fun k g1 g2 => hz k g1 g2) (Or.inr (fun z => h14 (by rw [hp m (by omega), Nat.add_sub_cancel] at *; rw [z]; rfl)))
        rw [e] at hQ
        exact hQ)
    · refine Inc1 (d := (-1)) e5_18 rfl rfl ?_
      refine Go e5_21 t5_21 ?_
      rw [dI_dec]
      exact ih (by omega) (fun k g1 g2 => by
        by_cases e : k = m
        · subst e; exact Decidable.not_not.mp (fun q => h14 (fun z => q ((oI_eq (hB.iB (by decide) (by omega)) ⟨by decide, by decide⟩).mp ((hp k (by omega)).symm.trans z))))
        · exact hz k (by omega) g2)
set_option maxHeartbeats 2000000 in
theorem p_degree (ha : amPO S R a) (hp : JP J (a + 1) p) (hB : PB 4000000000000000000 p) : Rv 5 [.ref a] S I J R (.int (dI (sz p))) := by
  intro Q hQ
  show Ex 5 0 [some (.ref a), none] [] S I J R _
  refine Ki e5_0 kbipush_8 ?_
  refine SI1 e5_2 rfl ?_
  exact p_degree_lp ha hp hB hQ 9 (Nat.le_refl _) (fun k g1 g2 => by omega)
/-- the head, 0 where all numbers are -/
def hd (p : Po) : Int := if sz p = 0 then 0 else p (sz p - 1)
theorem atv_hd (hp : JP J (a + 1) p) : atv J a (dI (sz p)) = oI (hd p) := by
  have h9 := sz_le p
  unfold hd
  by_cases e : sz p = 0
  · rw [if_pos e, e, atv_no (Or.inl (by decide))]; rfl
  · obtain ⟨n, hn⟩ := Nat.exists_eq_succ_of_ne_zero e
    rw [if_neg e, hn]
    show atv J a (nI n) = _
    rw [atv_n (by omega), hp n (by omega)]
    rfl
set_option maxHeartbeats 2000000 in
theorem p_head (ha : amPO S R a) (hp : JP J (a + 1) p) (hB : PB 4000000000000000000 p) : Rv 6 [.ref a] S I J R (.long (oI (hd p))) := by
  intro Q hQ
  show Ex 6 0 [some (.ref a)] [] S I J R _
  refine LA0 e6_0 ?_
  refine LA0 e6_1 ?_
  refine Cv0 e6_2 c6_5 ha.1 (Nat.le_of_ble_eq_true rfl) (Nat.le_of_ble_eq_true rfl) (p_degree ha hp hB) ?_
  refine Cv1 e6_5 c6_3 ha.1 (Nat.le_of_ble_eq_true rfl) (Nat.le_of_ble_eq_true rfl) (p_at ha _) ?_
  refine Rj e6_8 rt6 ?_
  rw [atv_hd hp]
  exact hQ
/-- only row x may differ -/
def Fr (J J' : amJ) (x : Nat) : Prop := ∀ y, y ≠ x → J' y = J y
theorem Fr.rf {x : Nat} : Fr J J x := fun _ _ => rfl
theorem Fr.tr {J1 J2 : amJ} {x : Nat} (h : Fr J J1 x) (h2 : Fr J1 J2 x) : Fr J J2 x := fun y hy => (h2 y hy).trans (h y hy)
theorem Fr.up {J1 : amJ} {x k : Nat} {v : Int64} (h : Fr J J1 x) : Fr J (amU J1 x k v) x := fun y hy => by
  funext i
  rw [amU_ne hy, h y hy]
theorem JP.fr {J' : amJ} {x y : Nat} (h : JP J y p) (hf : Fr J J' x) (hy : y ≠ x) : JP J' y p := fun k hk => by rw [hf y hy]; exact h k hk
theorem JP.cg {x : Nat} (h : JP J x p) (hpq : ∀ k, k < 9 → p k = q k) : JP J x q := fun k hk => by rw [← hpq k hk]; exact h k hk
/-- row x is done up to i -/
def JU (J J' : amJ) (x i : Nat) (F : Nat → Int64) : Prop := Fr J J' x ∧ ∀ k, J' x k = if k < i then F k else J x k
theorem JU.st {x : Nat} {F : Nat → Int64} : JU J J x 0 F := ⟨Fr.rf, fun k => by rw [if_neg (by omega)]⟩
theorem JU.step {J' : amJ} {x i : Nat} {F : Nat → Int64} {v : Int64} (h : JU J J' x i F) (hv : v = F i) : JU J (amU J' x i v) x (i + 1) F := by
  refine ⟨h.1.up, fun k => ?_⟩
  by_cases e : k = i
  · subst e; rw [amU_same, if_pos (by omega), hv]
  · rw [amU_ni e, h.2 k]
    by_cases g : k < i
    · rw [if_pos g, if_pos (by omega)]
    · rw [if_neg g, if_neg (by omega)]
theorem JU.at {J' : amJ} {x i k : Nat} {F : Nat → Int64} (h : JU J J' x i F) (hk : i ≤ k) : J' x k = J x k := by
  rw [h.2 k, if_neg (by omega)]
theorem JU.jp {J' : amJ} {x : Nat} {F : Nat → Int64} (h : JU J J' x 9 F) (hF : ∀ k, k < 9 → F k = oI (p k)) : JP J' x p := fun k hk => by rw [h.2 k, if_pos hk]; exact hF k hk
/-- a method that changes row x alone, to p -/
abbrev Rw (k : Nat) (as : List Value) (S : amS) (I : amI) (J : amJ) (R : amR) (x : Nat) (p : Po) : Prop := Cl k as S I J R (fun v I' J' R' => v = none ∧ I' = I ∧ R' = R ∧ Fr J J' x ∧ JP J' x p)

set_option maxHeartbeats 2000000 in
theorem p_clear_lp (ha : amPO S R a) (hQ : ∀ J', JU J J' (a + 1) 9 (fun _ => 0) → Q none I J' R) : ∀ (n i : Nat) (J' : amJ), 9 - i < n → i ≤ 9 → JU J J' (a + 1) i (fun _ => 0) → Ex 7 2 [some (.ref a), some (.int (nI i))] [] S I J' R Q := by
  intro n
  induction n with
  | zero => intro i J' h; omega
  | succ n ih =>
    intro i J' h h9 hJ
    refine LI1 e7_2 ?_
    refine Ki e7_3 kbipush_9 ?_
    refine CN_ge (a := i) (b := 9) e7_5 t7_5 rfl (by decide) (by omega) (by omega) (fun h5 => ?_) (fun h5 => ?_)
    · exact Rvd e7_21 rt7 (by
      have e9 : i = 9 := by omega
      subst e9
      exact hQ _ hJ)
    · refine LA0 e7_8 ?_
      refine Gr e7_9 ha.1 ha.2.1 f448 ?_
      refine LI1 e7_12 ?_
      refine K0 e7_13 ?_
      refine WjN (k := i) e7_14 ha.2.2 rfl (by omega) (by decide) ?_
      refine IncN1 (m := i) e7_15 rfl ?_
      refine Go e7_18 t7_18 ?_
      exact ih (i + 1) _ (by omega) (by omega) (hJ.step (rfl))
set_option maxHeartbeats 2000000 in
theorem p_clear (ha : amPO S R a) : Rw 7 [.ref a] S I J R (a + 1) (fun _ => 0) := by
  show Ex 7 0 [some (.ref a), none] [] S I J R _
  refine Ki e7_0 kiconst_0 ?_
  refine SI1 e7_1 rfl ?_
  exact p_clear_lp ha (fun J' hJ => ⟨rfl, rfl, rfl, hJ.1, hJ.jp (fun _ _ => rfl)⟩) 10 0 J (by omega) (by omega) JU.st
set_option maxHeartbeats 2000000 in
theorem p_copy_lp (ha : amPO S R a) (hb : amPO S R b) (hab : b ≠ a) (hQ : ∀ J', JU J J' (a + 1) 9 (fun k => J (b + 1) k) → Q none I J' R) : ∀ (n i : Nat) (J' : amJ), 9 - i < n → i ≤ 9 → JU J J' (a + 1) i (fun k => J (b + 1) k) → Ex 8 2 [some (.ref a), some (.ref b), some (.int (nI i))] [] S I J' R Q := by
  intro n
  induction n with
  | zero => intro i J' h; omega
  | succ n ih =>
    intro i J' h h9 hJ
    refine LI2 e8_2 ?_
    refine Ki e8_3 kbipush_9 ?_
    refine CN_ge (a := i) (b := 9) e8_5 t8_5 rfl (by decide) (by omega) (by omega) (fun h5 => ?_) (fun h5 => ?_)
    · exact Rvd e8_26 rt8 (by
      have e9 : i = 9 := by omega
      subst e9
      exact hQ _ hJ)
    · refine LA0 e8_8 ?_
      refine Gr e8_9 ha.1 ha.2.1 f448 ?_
      refine LI2 e8_12 ?_
      refine LA1 e8_13 ?_
      refine Gr e8_14 hb.1 hb.2.1 f448 ?_
      refine LI2 e8_17 ?_
      refine AjN (k := i) e8_18 hb.2.2 rfl (by omega) (by decide) ?_
      refine WjN (k := i) e8_19 ha.2.2 rfl (by omega) (by decide) ?_
      refine IncN2 (m := i) e8_20 rfl ?_
      refine Go e8_23 t8_23 ?_
      exact ih (i + 1) _ (by omega) (by omega) (hJ.step (by rw [hJ.1 (b + 1) (by omega)]))
set_option maxHeartbeats 2000000 in
theorem p_copy (ha : amPO S R a) (hb : amPO S R b) (hab : b ≠ a) (hq : JP J (b + 1) q) : Rw 8 [.ref a, .ref b] S I J R (a + 1) q := by
  show Ex 8 0 [some (.ref a), some (.ref b), none] [] S I J R _
  refine Ki e8_0 kiconst_0 ?_
  refine SI2 e8_1 rfl ?_
  exact p_copy_lp ha hb hab (fun J' hJ => ⟨rfl, rfl, rfl, hJ.1, hJ.jp hq⟩) 10 0 J (by omega) (by omega) JU.st
set_option maxHeartbeats 2000000 in
theorem p_turn_lp (ha : amPO S R a) (hQ : ∀ J', JU J J' (a + 1) 9 (fun k => -J (a + 1) k) → Q none I J' R) : ∀ (n i : Nat) (J' : amJ), 9 - i < n → i ≤ 9 → JU J J' (a + 1) i (fun k => -J (a + 1) k) → Ex 12 2 [some (.ref a), some (.int (nI i))] [] S I J' R Q := by
  intro n
  induction n with
  | zero => intro i J' h; omega
  | succ n ih =>
    intro i J' h h9 hJ
    refine LI1 e12_2 ?_
    refine Ki e12_3 kbipush_9 ?_
    refine CN_ge (a := i) (b := 9) e12_5 t12_5 rfl (by decide) (by omega) (by omega) (fun h5 => ?_) (fun h5 => ?_)
    · exact Rvd e12_27 rt12 (by
      have e9 : i = 9 := by omega
      subst e9
      exact hQ _ hJ)
    · refine LA0 e12_8 ?_
      refine Gr e12_9 ha.1 ha.2.1 f448 ?_
      refine LI1 e12_12 ?_
      refine LA0 e12_13 ?_
      refine Gr e12_14 ha.1 ha.2.1 f448 ?_
      refine LI1 e12_17 ?_
      refine AjN (k := i) e12_18 ha.2.2 rfl (by omega) (by decide) ?_
      refine Lneg e12_19 ?_
      refine WjN (k := i) e12_20 ha.2.2 rfl (by omega) (by decide) ?_
      refine IncN1 (m := i) e12_21 rfl ?_
      refine Go e12_24 t12_24 ?_
      exact ih (i + 1) _ (by omega) (by omega) (hJ.step (by rw [hJ.at (Nat.le_refl _)]))
set_option maxHeartbeats 2000000 in
theorem p_turn (ha : amPO S R a) (hp : JP J (a + 1) p) : Rw 12 [.ref a] S I J R (a + 1) (fun k => -p k) := by
  show Ex 12 0 [some (.ref a), none] [] S I J R _
  refine Ki e12_0 kiconst_0 ?_
  refine SI1 e12_1 rfl ?_
  exact p_turn_lp ha (fun J' hJ => ⟨rfl, rfl, rfl, hJ.1, hJ.jp (fun k hk => by rw [hp k hk, oI_neg])⟩) 10 0 J (by omega) (by omega) JU.st
set_option maxHeartbeats 2000000 in
theorem p_add_lp {t : Int64} (ha : amPO S R a) (hb : amPO S R b) (hab : b ≠ a) (hQ : ∀ J', JU J J' (a + 1) 9 (fun k => J (a + 1) k + J (b + 1) k * t) → Q none I J' R) : ∀ (n i : Nat) (J' : amJ), 9 - i < n → i ≤ 9 → JU J J' (a + 1) i (fun k => J (a + 1) k + J (b + 1) k * t) → Ex 14 3 [some (.ref a), some (.ref b), some (.long t), none, some (.int (nI i))] [] S I J' R Q := by
  intro n
  induction n with
  | zero => intro i J' h; omega
  | succ n ih =>
    intro i J' h h9 hJ
    refine LI4 e14_3 ?_
    refine Ki e14_5 kbipush_9 ?_
    refine CN_ge (a := i) (b := 9) e14_7 t14_7 rfl (by decide) (by omega) (by omega) (fun h7 => ?_) (fun h7 => ?_)
    · exact Rvd e14_35 rt14 (by
      have e9 : i = 9 := by omega
      subst e9
      exact hQ _ hJ)
    · refine LA0 e14_10 ?_
      refine Gr e14_11 ha.1 ha.2.1 f448 ?_
      refine LI4 e14_14 ?_
      refine Dup2 e14_16 ⟨rfl, rfl⟩ ?_
      refine AjN (k := i) e14_17 ha.2.2 rfl (by omega) (by decide) ?_
      refine LA1 e14_18 ?_
      refine Gr e14_19 hb.1 hb.2.1 f448 ?_
      refine LI4 e14_22 ?_
      refine AjN (k := i) e14_24 hb.2.2 rfl (by omega) (by decide) ?_
      refine LJ2 e14_25 ?_
      refine Lmul e14_26 ?_
      refine Ladd e14_27 ?_
      refine WjN (k := i) e14_28 ha.2.2 rfl (by omega) (by decide) ?_
      refine IncN4 (m := i) e14_29 rfl ?_
      refine Go e14_32 t14_32 ?_
      exact ih (i + 1) _ (by omega) (by omega) (hJ.step (by rw [hJ.1 (b + 1) (by omega), hJ.at (Nat.le_refl _)]))
set_option maxHeartbeats 2000000 in
theorem p_add {t : Int} (ha : amPO S R a) (hb : amPO S R b) (hab : b ≠ a) (hp : JP J (a + 1) p) (hq : JP J (b + 1) q) : Rw 14 [.ref a, .ref b, .long (oI t)] S I J R (a + 1) (fun k => p k + q k * t) := by
  show Ex 14 0 [some (.ref a), some (.ref b), some (.long (oI t)), none, none] [] S I J R _
  refine Ki e14_0 kiconst_0 ?_
  refine SI4 e14_1 rfl ?_
  exact p_add_lp ha hb hab (fun J' hJ => ⟨rfl, rfl, rfl, hJ.1, hJ.jp (fun k hk => by rw [hp k hk, hq k hk, oI_mul, oI_add])⟩) 10 0 J (by omega) (by omega) JU.st
/-- all signs turned if the head is below 0 -/
def up (p : Po) : Po := fun k => if hd p < 0 then -p k else p k
theorem hd_iB {B : Int} (hB : PB B p) (h : B ≤ 9000000000000000000) : iB (hd p) := by
  unfold hd
  by_cases e : sz p = 0
  · rw [if_pos e]; exact ⟨by decide, by decide⟩
  · rw [if_neg e]
    have := sz_le p
    exact hB.iB h (by omega)
set_option maxHeartbeats 2000000 in
theorem p_headUp (ha : amPO S R a) (hp : JP J (a + 1) p) (hB : PB 4000000000000000000 p) : Rw 13 [.ref a] S I J R (a + 1) (up p) := by
  show Ex 13 0 [some (.ref a)] [] S I J R _
  refine LA0 e13_0 ?_
  refine LA0 e13_1 ?_
  refine Cv0 e13_2 c13_5 ha.1 (Nat.le_of_ble_eq_true rfl) (Nat.le_of_ble_eq_true rfl) (p_degree ha hp hB) ?_
  refine Cv1 e13_5 c13_3 ha.1 (Nat.le_of_ble_eq_true rfl) (Nat.le_of_ble_eq_true rfl) ((atv_hd hp ▸ p_at ha _ : Rv 3 [.ref a, .int (dI (sz p))] S I J R (.long (oI (hd p))))) ?_
  refine K0 e13_8 ?_
  refine D_ge e13_9 e13_10 t13_10 (fun h9 => ?_) (fun h9 => ?_)
  · exact Rvd e13_17 rt13 (⟨rfl, rfl, rfl, Fr.rf, hp.cg (fun k _ => by unfold up; rw [if_neg]; rw [oI_0, oI_le ⟨by decide, by decide⟩ (hd_iB hB (by decide))] at h9; omega)⟩)
  · refine LA0 e13_13 ?_
    refine Cv0p e13_14 c13_12 ha.1 (Nat.le_of_ble_eq_true rfl) (Nat.le_of_ble_eq_true rfl) (p_turn ha hp) ?_
    rintro _ _ J' _ ⟨rfl, rfl, rfl, hF, hP⟩
    exact Rvd e13_17 rt13 (⟨rfl, rfl, rfl, hF, hP.cg (fun k _ => by unfold up; rw [if_pos]; rw [oI_0, oI_le ⟨by decide, by decide⟩ (hd_iB hB (by decide))] at h9; omega)⟩)
/-- derived -/
def der (p : Po) : Po := fun k => if k < 8 then p (k + 1) * ((k : Int) + 1) else 0
theorem nI_oI {n : Nat} (h : n < 2 ^ 31) : (nI n).toInt64 = oI n := by
  rw [nI_l h]
  exact (Int64.ofInt_eq_ofNat).symm
set_option maxHeartbeats 2000000 in
theorem p_derive_lp (ha : amPO S R a) (hQ : ∀ J', JU J J' (a + 1) 8 (fun k => J (a + 1) (k + 1) * oI ((k + 1 : Nat) : Int)) → Q none I (amU J' (a + 1) 8 0) R) : ∀ (n i : Nat) (J' : amJ), 8 - i < n → i ≤ 8 → JU J J' (a + 1) i (fun k => J (a + 1) (k + 1) * oI ((k + 1 : Nat) : Int)) → Ex 16 2 [some (.ref a), some (.int (nI (i + 1)))] [] S I J' R Q := by
  intro n
  induction n with
  | zero => intro i J' h; omega
  | succ n ih =>
    intro i J' h h9 hJ
    refine LI1 e16_2 ?_
    refine Ki e16_3 kbipush_9 ?_
    refine CN_ge (a := (i + 1)) (b := 9) e16_5 t16_5 rfl (by decide) (by omega) (by omega) (fun h5 => ?_) (fun h5 => ?_)
    · refine LA0 e16_31 ?_
      refine Gr e16_32 ha.1 ha.2.1 f448 ?_
      refine Ki e16_35 kbipush_8 ?_
      refine K0 e16_37 ?_
      refine WjN (k := 8) e16_38 ha.2.2 (by decide) (by omega) (by decide) ?_
      exact Rvd e16_39 rt16 (by
      have e9 : i = 8 := by omega
      subst e9
      exact hQ _ hJ)
    · refine LA0 e16_8 ?_
      refine Gr e16_9 ha.1 ha.2.1 f448 ?_
      refine LI1 e16_12 ?_
      refine Ki e16_13 kiconst_1 ?_
      refine IsubN (a := (i + 1)) (b := 1) e16_14 rfl (by decide) (by omega) ?_
      refine LA0 e16_15 ?_
      refine Gr e16_16 ha.1 ha.2.1 f448 ?_
      refine LI1 e16_19 ?_
      refine AjN (k := (i + 1)) e16_20 ha.2.2 rfl (by omega) (by decide) ?_
      refine LI1 e16_21 ?_
      refine I2l e16_22 ?_
      refine Lmul e16_23 ?_
      refine WjN (k := ((i + 1) - 1)) e16_24 ha.2.2 rfl (by omega) (by decide) ?_
      refine IncN1 (m := (i + 1)) e16_25 rfl ?_
      refine Go e16_28 t16_28 ?_
      rw [Nat.add_sub_cancel]
      exact ih (i + 1) _ (by omega) (by omega) (hJ.step (by rw [hJ.at (by omega), nI_oI (by omega)]))
set_option maxHeartbeats 2000000 in
theorem p_derive (ha : amPO S R a) (hp : JP J (a + 1) p) : Rw 16 [.ref a] S I J R (a + 1) (der p) := by
  show Ex 16 0 [some (.ref a), none] [] S I J R _
  refine Ki e16_0 kiconst_1 ?_
  refine SI1 e16_1 rfl ?_
  refine p_derive_lp ha (fun J' hJ => ⟨rfl, rfl, rfl, hJ.1.up, fun k hk => ?_⟩) 9 0 J (by omega) (by omega) JU.st
  by_cases e : k = 8
  · subst e; rw [amU_same]; rfl
  · rw [amU_ni e, hJ.2 k, if_pos (by omega)]
    show J (a + 1) (k + 1) * oI ((k + 1 : Nat) : Int) = _
    rw [hp (k + 1) (by omega), oI_mul]
    unfold der
    rw [if_pos (by omega)]
    rfl
/-- alike in the first n places -/
def lk (f g : Nat → Int64) : Nat → Bool
  | 0 => true
  | n + 1 => lk f g n && decide (f n = g n)
theorem lk_iff {f g : Nat → Int64} : ∀ {n : Nat}, lk f g n = true ↔ ∀ k, k < n → f k = g k
  | 0 => ⟨fun _ k h => absurd h (Nat.not_lt_zero k), fun _ => rfl⟩
  | n + 1 => by
    unfold lk
    rw [Bool.and_eq_true, decide_eq_true_eq, lk_iff]
    exact ⟨fun h k hk => if e : k = n then e ▸ h.2 else h.1 k (by omega), fun h => ⟨fun k hk => h k (by omega), h n (by omega)⟩⟩
set_option maxHeartbeats 2000000 in
theorem p_like_lp (ha : amPO S R a) (hb : amPO S R b) (hQ : Q (some (.int (if lk (J (a + 1)) (J (b + 1)) 9 = true then 1 else 0))) I J R) : ∀ (n i : Nat), 9 - i < n → i ≤ 9 → (∀ k, k < i → J (a + 1) k = J (b + 1) k) → Ex 9 2 [some (.ref a), some (.ref b), some (.int (nI i))] [] S I J R Q := by
  intro n
  induction n with
  | zero => intro i h; omega
  | succ n ih =>
    intro i h h9 hz
    refine LI2 e9_2 ?_
    refine Ki e9_3 kbipush_9 ?_
    refine CN_ge (a := i) (b := 9) e9_5 t9_5 rfl (by decide) (by omega) (by omega) (fun h5 => ?_) (fun h5 => ?_)
    · refine Ki e9_32 kiconst_1 ?_
      exact Rz e9_33 rt9 (by decide) (by
      have e : lk (J (a + 1)) (J (b + 1)) 9 = true := lk_iff.mpr (fun k hk => hz k (by omega))
      rw [if_pos e] at hQ
      exact hQ)
    · refine LA0 e9_8 ?_
      refine Gr e9_9 ha.1 ha.2.1 f448 ?_
      refine LI2 e9_12 ?_
      refine AjN (k := i) e9_13 ha.2.2 rfl (by omega) (by decide) ?_
      refine LA1 e9_14 ?_
      refine Gr e9_15 hb.1 hb.2.1 f448 ?_
      refine LI2 e9_18 ?_
      refine AjN (k := i) e9_19 hb.2.2 rfl (by omega) (by decide) ?_
      refine D_eq e9_20 e9_21 t9_21 (fun h20 => ?_) (fun h20 => ?_)
      · refine IncN2 (m := i) e9_26 rfl ?_
        refine Go e9_29 t9_29 ?_
        exact ih (i + 1) (by omega) (by omega) (fun k hk => by
          by_cases e : k = i
          · subst e; exact h20
          · exact hz k (by omega))
      · refine Ki e9_24 kiconst_0 ?_
        exact Rz e9_25 rt9 (by decide) (by
        have e : ¬ lk (J (a + 1)) (J (b + 1)) 9 = true := fun q => h20 (lk_iff.mp q i (by omega))
        rw [if_neg e] at hQ
        exact hQ)
set_option maxHeartbeats 2000000 in
theorem p_like (ha : amPO S R a) (hb : amPO S R b) : Rv 9 [.ref a, .ref b] S I J R (.int (if lk (J (a + 1)) (J (b + 1)) 9 = true then 1 else 0)) := by
  intro Q hQ
  show Ex 9 0 [some (.ref a), some (.ref b), none] [] S I J R _
  refine Ki e9_0 kiconst_0 ?_
  refine SI2 e9_1 rfl ?_
  exact p_like_lp ha hb hQ 10 0 (by omega) (by omega) (fun k hk => by omega)
/-- the greatest number without signs, of the first n -/
def mx (p : Po) : Nat → Nat
  | 0 => 0
  | n + 1 => max (mx p n) (p n).natAbs
theorem mx_le {p : Po} {B : Nat} : ∀ {n : Nat}, (∀ k, k < n → (p k).natAbs ≤ B) → mx p n ≤ B
  | 0, _ => Nat.zero_le _
  | n + 1, h => Nat.max_le.mpr ⟨mx_le (fun k hk => h k (by omega)), h n (by omega)⟩
theorem mx_ge {p : Po} : ∀ {n k : Nat}, k < n → (p k).natAbs ≤ mx p n
  | 0, _, h => absurd h (Nat.not_lt_zero _)
  | n + 1, k, h => by
    unfold mx
    by_cases e : k = n
    · subst e; exact Nat.le_max_right _ _
    · exact Nat.le_trans (mx_ge (by omega)) (Nat.le_max_left _ _)
theorem oI_abs {x : Int} (h : iB x) : (if 0 < oI x then oI x else -oI x) = oI x.natAbs := by
  have q : (0 : Int64) < oI x ↔ 0 < x := oI_lt (a := 0) ⟨by decide, by decide⟩ h
  by_cases e : 0 < x
  · rw [if_pos (q.mpr e)]; congr 1; omega
  · rw [if_neg (fun z => e (q.mp z)), oI_neg]; congr 1; omega
theorem oI_max {x y : Nat} (hx : iB x) (hy : iB y) : (if oI y < oI x then oI x else oI y) = oI (max x y : Nat) := by
  have q := oI_lt hy hx
  by_cases e : (y : Int) < x
  · rw [if_pos (q.mpr e), Nat.max_eq_left (by omega)]
  · rw [if_neg (fun z => e (q.mp z)), Nat.max_eq_right (by omega)]
theorem abs_iB (hB : PB 4000000000000000000 p) {k : Nat} (hk : k < 9) : iB ((p k).natAbs : Nat) := by
  obtain ⟨h1, h2⟩ := hB k hk
  exact ⟨by omega, by omega⟩
theorem mx_iB (hB : PB 4000000000000000000 p) {n : Nat} (hn : n ≤ 9) : iB (mx p n : Nat) := by
  have := mx_le (p := p) (B := 4000000000000000000) (n := n) (fun k hk => by obtain ⟨h1, h2⟩ := hB k (by omega); omega)
  exact ⟨by omega, by omega⟩
set_option maxHeartbeats 2000000 in
theorem p_greatest_lp (ha : amPO S R a) (hp : JP J (a + 1) p) (hB : PB 4000000000000000000 p) (hQ : Q (some (.long (oI (mx p 9 : Nat)))) I J R) : ∀ (n i : Nat), 9 - i < n → i ≤ 9 → Ex 10 4 [some (.ref a), some (.long (oI (mx p i : Nat))), none, some (.int (nI i))] [] S I J R Q := by
  intro n
  induction n with
  | zero => intro i h; omega
  | succ n ih =>
    intro i h h9
    refine LI3 e10_4 ?_
    refine Ki e10_5 kbipush_9 ?_
    refine CN_ge (a := i) (b := 9) e10_7 t10_7 rfl (by decide) (by omega) (by omega) (fun h7 => ?_) (fun h7 => ?_)
    · refine LJ1 e10_30 ?_
      exact Rj e10_31 rt10 (by
      have e9 : i = 9 := by omega
      subst e9
      exact hQ)
    · refine LJ1 e10_10 ?_
      refine LA0 e10_11 ?_
      refine Gr e10_12 ha.1 ha.2.1 f448 ?_
      refine LI3 e10_15 ?_
      refine AjN (k := i) e10_16 ha.2.2 rfl (by omega) (by decide) ?_
      rw [hp i (by omega)]
      refine Mabs e10_17 (Nat.le_of_ble_eq_true rfl) ?_
      rw [oI_abs (hB.iB (by decide) (by omega))]
      refine Mmax e10_20 (Nat.le_of_ble_eq_true rfl) ?_
      rw [oI_max (mx_iB hB (by omega)) (abs_iB hB (by omega))]
      refine SJ1 e10_23 rfl ?_
      refine IncN3 (m := i) e10_24 rfl ?_
      refine Go e10_27 t10_27 ?_
      exact ih (i + 1) (by omega) (by omega)
set_option maxHeartbeats 2000000 in
theorem p_greatest (ha : amPO S R a) (hp : JP J (a + 1) p) (hB : PB 4000000000000000000 p) : Rv 10 [.ref a] S I J R (.long (oI (mx p 9 : Nat))) := by
  intro Q hQ
  show Ex 10 0 [some (.ref a), none, none, none] [] S I J R _
  refine K0 e10_0 ?_
  refine SJ1 e10_1 rfl ?_
  refine Ki e10_2 kiconst_0 ?_
  refine SI3 e10_3 rfl ?_
  exact p_greatest_lp ha hp hB hQ 10 0 (by omega) (by omega)
end POLY
