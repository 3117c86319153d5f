/-! the greatest common divisor of two, points (printed by wip/whole/t29.py) -/
section GCD
variable {S : amS} {I : amI} {J : amJ} {R : amR} {Q : amQ} {a b c : Nat} {p q : Po}
set_option maxHeartbeats 2000000 in
theorem g_euc_1 {x y : Int64} {i d r : Nat} {l9 : Option Value} (hi : i < 1000) (hd : d ≤ 4000000000000000000) (hr : r ≤ 4000000000000000000) (h0 : ¬ r = 0) (k : Ex 151 31 [some (.long x), none, some (.long y), none, some (.long (oI (r : Nat))), none, some (.long (oI ((d % r : Nat) : Int))), none, some (.int (nI (i + 1))), some (.long (oI ((d % r : Nat) : Int))), none] [] S I J R Q) : Ex 151 31 [some (.long x), none, some (.long y), none, some (.long (oI (d : Nat))), none, some (.long (oI (r : Nat))), none, some (.int (nI i)), l9, none] [] S I J R Q := by
  have e : oI (d : Nat) - oI (d : Nat) / oI (r : Nat) * oI (r : Nat) = oI ((d % r : Nat) : Int) := by
    rw [oI_rem (oI_nb hd) (oI_nb hr)]; rfl
  refine LI8 e151_31 ?_
  refine Ki e151_33 ksipush_1000 ?_
  refine CN_ge (a := i) (b := 1000) e151_36 t151_36 rfl (by decide) (by omega) (by omega) (fun q => absurd q (by omega)) (fun _ => ?_)
  refine LJ6 e151_39 ?_
  refine K0 e151_41 ?_
  refine D_eq e151_42 e151_43 t151_43 (fun q => absurd q (fun z => h0 ((oI_n0 hr).mp z))) (fun _ => ?_)
  refine LJ4 e151_46 ?_
  refine LJ6 e151_48 ?_
  refine Lrem e151_50 (fun z => h0 ((oI_n0 hr).mp z)) ?_
  rw [e]
  refine SJ9 e151_51 rfl ?_
  refine LJ6 e151_53 ?_
  refine SJ4 e151_55 rfl ?_
  refine LJ9 e151_57 ?_
  refine SJ6 e151_59 rfl ?_
  refine IncN8 (m := i) e151_61 rfl ?_
  refine Go e151_64 t151_64 ?_
  exact k
set_option maxHeartbeats 2000000 in
theorem g_euc {x y : Int64} : ∀ (k i d r : Nat) (l9 : Option Value), r < 2 ^ k → i + 2 * k ≤ 900 → d ≤ 4000000000000000000 → r ≤ 4000000000000000000 → Q (some (.long (oI (Nat.gcd d r : Nat)))) I J R → Ex 151 31 [some (.long x), none, some (.long y), none, some (.long (oI (d : Nat))), none, some (.long (oI (r : Nat))), none, some (.int (nI i)), l9, none] [] S I J R Q := by
  have z : ∀ (i d : Nat) (l9 : Option Value), i ≤ 902 → Q (some (.long (oI (Nat.gcd d 0 : Nat)))) I J R → Ex 151 31 [some (.long x), none, some (.long y), none, some (.long (oI (d : Nat))), none, some (.long (oI ((0 : Nat) : Int))), none, some (.int (nI i)), l9, none] [] S I J R Q := by
    intro i d l9 hi hQ
    refine LI8 e151_31 ?_
    refine Ki e151_33 ksipush_1000 ?_
    refine CN_ge (a := i) (b := 1000) e151_36 t151_36 rfl (by decide) (by omega) (by omega) (fun q => absurd q (by omega)) (fun _ => ?_)
    refine LJ6 e151_39 ?_
    refine K0 e151_41 ?_
    refine D_eq e151_42 e151_43 t151_43 (fun _ => ?_) (fun q => absurd (rfl) q)
    refine LJ4 e151_67 ?_
    exact Rj e151_69 rt151 (by
    rw [Nat.gcd_zero_right] at hQ
    exact hQ)
  intro k
  induction k with
  | zero =>
    intro i d r l9 h hi hd hr hQ
    have : r = 0 := by rw [Nat.pow_zero] at h; omega
    subst this
    exact z i d l9 (by omega) hQ
  | succ k ih =>
    intro i d r l9 h hi hd hr hQ
    by_cases e : r = 0
    · subst e; exact z i d l9 (by omega) hQ
    · have g1 : d % r < r := Nat.mod_lt _ (by omega)
      refine g_euc_1 (by omega) hd hr e ?_
      have k1 : Nat.gcd d r = Nat.gcd r (d % r) := by rw [Nat.gcd_comm d r, Nat.gcd_rec r d, Nat.gcd_comm]
      rw [k1] at hQ
      by_cases e2 : d % r = 0
      · rw [e2] at hQ ⊢
        exact z (i + 1) r _ (by omega) hQ
      · refine g_euc_1 (by omega) hr (by omega) e2 ?_
        have k2 : Nat.gcd r (d % r) = Nat.gcd (d % r) (r % (d % r)) := by rw [Nat.gcd_comm r, Nat.gcd_rec, Nat.gcd_comm]
        rw [k2] at hQ
        have g2 : r % (d % r) < d % r := Nat.mod_lt _ (by omega)
        have g3 : 2 * (r % (d % r)) < r := by
          have q1 := Nat.div_add_mod r (d % r)
          have q2 : 1 ≤ r / (d % r) := (Nat.one_le_div_iff (by omega)).mpr (by omega)
          have q3 : (d % r) * 1 ≤ (d % r) * (r / (d % r)) := Nat.mul_le_mul_left _ q2
          omega
        refine ih (i + 1 + 1) _ _ _ ?_ (by omega) (by omega) (by omega) hQ
        rw [Nat.pow_succ] at h
        omega
/-- within what gcd() bears -/
def gB (a : Int) : Prop := -4000000000000000000 ≤ a ∧ a ≤ 4000000000000000000
set_option maxHeartbeats 2000000 in
theorem g_gcd {u t : Int} (hu : gB u) (ht : gB t) : Rv 151 [.long (oI u), .long (oI t)] S I J R (.long (oI (Nat.gcd u.natAbs t.natAbs : Nat))) := by
  intro Q hQ
  have hu' : iB u := ⟨by have := hu.1; omega, by have := hu.2; omega⟩
  have ht' : iB t := ⟨by have := ht.1; omega, by have := ht.2; omega⟩
  have hu1 := hu.1
  have hu2 := hu.2
  have ht1 := ht.1
  have ht2 := ht.2
  have K2 : Ex 151 26 [some (.long (oI u)), none, some (.long (oI t)), none, some (.long (oI (u.natAbs : Nat))), none, none, none, none, none, none] [.long (oI (t.natAbs : Nat))] S I J R Q := by
    refine SJ6 e151_26 rfl ?_
    refine Ki e151_28 kiconst_0 ?_
    refine SI8 e151_29 rfl ?_
    exact g_euc 62 0 _ _ none (by omega) (by omega) (by omega) (by omega) hQ
  have K : Ex 151 12 [some (.long (oI u)), none, some (.long (oI t)), none, none, none, none, none, none, none, none] [.long (oI (u.natAbs : Nat))] S I J R Q := by
    refine SJ4 e151_12 rfl ?_
    refine LJ2 e151_14 ?_
    refine K0 e151_15 ?_
    refine D_ge e151_16 e151_17 t151_17 (fun h16 => ?_) (fun h16 => ?_)
    · refine LJ2 e151_25 ?_
      have e : oI t = oI (t.natAbs : Nat) := by
        rw [oI_0, oI_le ⟨by decide, by decide⟩ ht'] at h16
        congr 1
        omega
      have K3 := K2
      rw [← e] at K3
      exact K3
    · refine LJ2 e151_20 ?_
      refine Lneg e151_21 ?_
      refine Go e151_22 t151_22 ?_
      have e : -(oI t) = oI (t.natAbs : Nat) := by
        rw [oI_0, oI_le ⟨by decide, by decide⟩ ht'] at h16
        rw [oI_neg]
        congr 1
        omega
      have K3 := K2
      rw [← e] at K3
      exact K3
  show Ex 151 0 [some (.long (oI u)), none, some (.long (oI t)), none, none, none, none, none, none, none, none] [] S I J R _
  refine LJ0 e151_0 ?_
  refine K0 e151_1 ?_
  refine D_ge e151_2 e151_3 t151_3 (fun h2 => ?_) (fun h2 => ?_)
  · refine LJ0 e151_11 ?_
    have e : oI u = oI (u.natAbs : Nat) := by
      rw [oI_0, oI_le ⟨by decide, by decide⟩ hu'] at h2
      congr 1
      omega
    have K3 := K
    rw [← e] at K3
    exact K3
  · refine LJ0 e151_6 ?_
    refine Lneg e151_7 ?_
    refine Go e151_8 t151_8 ?_
    have e : -(oI u) = oI (u.natAbs : Nat) := by
      rw [oI_0, oI_le ⟨by decide, by decide⟩ hu'] at h2
      rw [oI_neg]
      congr 1
      omega
    have K3 := K
    rw [← e] at K3
    exact K3
/-- u by v is a point -/
abbrev isPt (u v : Int32) : Prop := (-1000 ≤ u.toInt ∧ u.toInt ≤ 1000) ∧ 1 ≤ v.toInt ∧ v.toInt ≤ 1000
theorem i32lt {x y : Int32} : x < y ↔ x.toInt < y.toInt := Int32.lt_iff_toInt_lt
theorem i32le {x y : Int32} : x ≤ y ↔ x.toInt ≤ y.toInt := Int32.le_iff_toInt_le
theorem c1000 : (1000 : Int32).toInt = 1000 := rfl
theorem cm1000 : (-1000 : Int32).toInt = -1000 := rfl
theorem c1 : (1 : Int32).toInt = 1 := rfl
set_option maxHeartbeats 2000000 in
theorem g_badPoint {u v : Int32} : Rv 146 [.int u, .int v] S I J R (.int (bI (decide (¬ isPt u v)))) := by
  intro Q hQ
  show Ex 146 0 [some (.int u), some (.int v)] [] S I J R _
  refine LI0 e146_0 ?_
  refine Ki e146_1 ksipush_m1000 ?_
  refine C_lt e146_4 t146_4 (fun h4 => ?_) (fun h4 => ?_)
  · refine Ki e146_26 kiconst_1 ?_
    refine Go e146_27 t146_27 ?_
    exact Rz e146_31 rt146 (by decide) (by
    have e : bI (decide (¬ isPt u v)) = 1 := by
      rw [decide_eq_true]
      · rfl
      · simp only [isPt, i32lt, i32le, c1000, cm1000, c1] at *
        omega
    rw [e] at hQ
    exact hQ)
  · refine LI0 e146_7 ?_
    refine Ki e146_8 ksipush_1000 ?_
    refine C_gt e146_11 t146_11 (fun h11 => ?_) (fun h11 => ?_)
    · refine Ki e146_26 kiconst_1 ?_
      refine Go e146_27 t146_27 ?_
      exact Rz e146_31 rt146 (by decide) (by
      have e : bI (decide (¬ isPt u v)) = 1 := by
        rw [decide_eq_true]
        · rfl
        · simp only [isPt, i32lt, i32le, c1000, cm1000, c1] at *
          omega
      rw [e] at hQ
      exact hQ)
    · refine LI1 e146_14 ?_
      refine Ki e146_15 kiconst_1 ?_
      refine C_lt e146_16 t146_16 (fun h16 => ?_) (fun h16 => ?_)
      · refine Ki e146_26 kiconst_1 ?_
        refine Go e146_27 t146_27 ?_
        exact Rz e146_31 rt146 (by decide) (by
        have e : bI (decide (¬ isPt u v)) = 1 := by
          rw [decide_eq_true]
          · rfl
          · simp only [isPt, i32lt, i32le, c1000, cm1000, c1] at *
            omega
        rw [e] at hQ
        exact hQ)
      · refine LI1 e146_19 ?_
        refine Ki e146_20 ksipush_1000 ?_
        refine C_le e146_23 t146_23 (fun h23 => ?_) (fun h23 => ?_)
        · refine Ki e146_30 kiconst_0 ?_
          exact Rz e146_31 rt146 (by decide) (by
          have e : bI (decide (¬ isPt u v)) = 0 := by
            rw [decide_eq_false]
            · rfl
            · simp only [isPt, i32lt, i32le, c1000, cm1000, c1] at *
              omega
          rw [e] at hQ
          exact hQ)
        · refine Ki e146_26 kiconst_1 ?_
          refine Go e146_27 t146_27 ?_
          exact Rz e146_31 rt146 (by decide) (by
          have e : bI (decide (¬ isPt u v)) = 1 := by
            rw [decide_eq_true]
            · rfl
            · simp only [isPt, i32lt, i32le, c1000, cm1000, c1] at *
              omega
          rw [e] at hQ
          exact hQ)
end GCD
