/-! the class of polynomials, second half (printed by wip/whole/t20.py) -/
section POLY2
variable {S : amS} {I : amI} {J : amJ} {R : amR} {Q : amQ} {a b c : Nat} {p q : Po}
def sgl (x : Int64) : Int32 := if x < 0 then -1 else if 0 < x then 1 else 0
theorem i64_sar (x : Int64) : x >>> (63 : Int64) = if x < 0 then -1 else 0 := by
  apply Int64.toInt_inj.mp
  have e : (x >>> (63 : Int64)).toInt = x.toInt >>> 63 := by
    show ((x >>> (63 : Int64)).toBitVec).toInt = _
    rw [Int64.toBitVec_shiftRight, BitVec.sshiftRight', BitVec.toInt_sshiftRight]
    rfl
  rw [e, Int.shiftRight_eq_div_pow]
  have h1 := Int64.le_toInt x
  have h2 := Int64.toInt_lt x
  by_cases g : x < 0
  · rw [if_pos g]
    rw [Int64.lt_iff_toInt_lt, show (0 : Int64).toInt = 0 from rfl] at g
    rw [show (-1 : Int64).toInt = -1 from rfl]
    omega
  · rw [if_neg g]
    rw [Int64.lt_iff_toInt_lt, show (0 : Int64).toInt = 0 from rfl] at g
    rw [show (0 : Int64).toInt = 0 from rfl]
    omega
theorem i64_shr (x : Int64) : (x.toUInt64 >>> (63 : UInt64)).toInt64 = if x < 0 then 1 else 0 := by
  apply Int64.toBitVec_inj.mp
  apply BitVec.eq_of_toNat_eq
  show ((x.toUInt64 >>> (63 : UInt64)).toNat) = _
  rw [UInt64.toNat_shiftRight]
  rw [show (63 : UInt64).toNat % 64 = 63 from rfl, Nat.shiftRight_eq_div_pow]
  have h1 := Int64.le_toInt x
  have h2 := Int64.toInt_lt x
  have h3 : x.toInt = if x.toUInt64.toNat < 2 ^ 63 then (x.toUInt64.toNat : Int) else x.toUInt64.toNat - 2 ^ 64 := by
    show x.toBitVec.toInt = _
    rw [BitVec.toInt_eq_toNat_cond]
    show (if 2 * x.toUInt64.toNat < 2 ^ 64 then _ else _) = _
    by_cases g : x.toUInt64.toNat < 2 ^ 63
    · rw [if_pos g, if_pos (by omega)]; rfl
    · rw [if_neg g, if_neg (by omega)]; rfl
  have h4 : x.toUInt64.toNat < 2 ^ 64 := x.toUInt64.toNat_lt
  by_cases g : x < 0
  · rw [if_pos g]
    rw [Int64.lt_iff_toInt_lt, show (0 : Int64).toInt = 0 from rfl, h3] at g
    rw [show (1 : Int64).toBitVec.toNat = 1 from rfl]
    split at g <;> omega
  · rw [if_neg g]
    rw [Int64.lt_iff_toInt_lt, show (0 : Int64).toInt = 0 from rfl, h3] at g
    rw [show (0 : Int64).toBitVec.toNat = 0 from rfl]
    split at g <;> omega
theorem sgl_bits (x : Int64) : ((x >>> (63 : Int64)) ||| ((-x).toUInt64 >>> (63 : UInt64)).toInt64).toInt32 = sgl x := by
  rw [i64_sar, i64_shr]
  have e0 : x = oI x.toInt := oI_of x
  have h1 := Int64.le_toInt x
  have h2 := Int64.toInt_lt x
  unfold sgl
  by_cases g : x < 0
  · rw [if_pos g, if_pos g]
    by_cases g2 : -x < 0
    · rw [if_pos g2]; decide
    · rw [if_neg g2]; decide
  · rw [if_neg g, if_neg g]
    have g' := g
    rw [Int64.lt_iff_toInt_lt, show (0 : Int64).toInt = 0 from rfl] at g'
    have en : (-x).toInt = -x.toInt := by
      rw [e0, oI_neg, oI_t (by omega) (by omega), oI_t (by omega) (by omega)]
    by_cases g2 : 0 < x
    · rw [if_pos g2, if_pos (by rw [Int64.lt_iff_toInt_lt, en]; rw [Int64.lt_iff_toInt_lt, show (0 : Int64).toInt = 0 from rfl] at g2; rw [show (0 : Int64).toInt = 0 from rfl]; omega)]
      decide
    · rw [if_neg g2, if_neg (by rw [Int64.lt_iff_toInt_lt, en]; rw [Int64.lt_iff_toInt_lt, show (0 : Int64).toInt = 0 from rfl] at g2; rw [show (0 : Int64).toInt = 0 from rfl]; omega)]
      decide
set_option maxHeartbeats 2000000 in
theorem l_signum {x : Int64} : Rv 1 [.long x] S I J R (.int (sgl x)) := by
  intro Q hQ
  show Ex 1 0 [some (.long x), none] [] S I J R _
  refine LJ0 e1_0 ?_
  refine Ki e1_1 kbipush_63 ?_
  refine Lshr e1_3 ?_
  refine LJ0 e1_4 ?_
  refine Lneg e1_5 ?_
  refine Ki e1_6 kbipush_63 ?_
  refine Lushr e1_8 ?_
  refine Lor e1_9 ?_
  refine L2i e1_10 ?_
  exact Ri e1_11 rt1 (by
  rw [← sgl_bits] at hQ
  exact hQ)
/-- one number changed -/
def pU (p : Po) (k : Nat) (v : Int) : Po := fun i => if i = k then v else p i
theorem JP.st {x k : Nat} {v : Int} (h : JP J x p) : JP (amU J x k (oI v)) x (pU p k v) := fun i hi => by
  by_cases e : i = k
  · subst e; rw [amU_same]; unfold pU; rw [if_pos rfl]
  · rw [amU_ni e, h i hi]; unfold pU; rw [if_neg e]
set_option maxHeartbeats 2000000 in
theorem p_put {k : Nat} {v : Int} (ha : amPO S R a) (hp : JP J (a + 1) p) (hk : k < 9) : Rw 4 [.ref a, .int (nI k), .long (oI v)] S I J R (a + 1) (pU p k v) := by
  show Ex 4 0 [some (.ref a), some (.int (nI k)), some (.long (oI v)), none] [] S I J R _
  refine LI1 e4_0 ?_
  refine B_lt e4_1 t4_1 (fun q => absurd q (nI_pos (by omega))) (fun _ => ?_)
  refine LI1 e4_4 ?_
  refine Ki e4_5 kbipush_9 ?_
  refine CN_ge (a := k) (b := 9) e4_7 t4_7 rfl (by decide) (by omega) (by omega) (fun h7 => ?_) (fun h7 => ?_)
  · exact Rvd e4_17 rt4 ((by omega))
  · refine LA0 e4_10 ?_
    refine Gr e4_11 ha.1 ha.2.1 f448 ?_
    refine LI1 e4_14 ?_
    refine LJ2 e4_15 ?_
    refine WjN (k := k) e4_16 ha.2.2 rfl (by omega) (by decide) ?_
    exact Rvd e4_17 rt4 (⟨rfl, rfl, rfl, Fr.rf.up, hp.st⟩)
/-- the products that come to the power k, of the first n -/
def cvN (p q : Po) (k : Nat) : Nat → Int
  | 0 => 0
  | i + 1 => cvN p q k i + (if i ≤ k then p i * q (k - i) else 0)
def cv (p q : Po) : Po := fun k => cvN p q k 9
/-- the product up to row i and there up to place j -/
def cvP (p q : Po) (i j : Nat) : Po := fun k => cvN p q k i + (if i ≤ k ∧ k < i + j then p i * q (k - i) else 0)
variable {d e : Nat}
set_option maxHeartbeats 2000000 in
theorem p_product_in {i : Nat} (ha : amPO S R a) (hb : amPO S R b) (hc : amPO S R c) (hab : b ≠ a) (hac : c ≠ a) (hp : JP J (b + 1) p) (hq : JP J (c + 1) q) (hi : i < 9) (hK : ∀ J', Fr J J' (a + 1) → JP J' (a + 1) (cvP p q i (9 - i)) → Ex 15 56 [some (.ref a), some (.ref b), some (.ref c), some (.int (nI i)), some (.int (nI (9 - i)))] [] S I J' R Q) : ∀ (n m : Nat) (J' : amJ), 9 - m < n → m ≤ 9 - i → Fr J J' (a + 1) → JP J' (a + 1) (cvP p q i m) → Ex 15 15 [some (.ref a), some (.ref b), some (.ref c), some (.int (nI i)), some (.int (nI m))] [] S I J' R Q := by
  intro n
  induction n with
  | zero => intro m J' h; omega
  | succ n ih =>
    intro m J' h h9 hJ hF
    refine LI4 e15_15 ?_
    refine Ki e15_17 kbipush_9 ?_
    refine LI3 e15_19 ?_
    refine IsubN (a := 9) (b := i) e15_20 (by decide) rfl (by omega) ?_
    refine CN_ge (a := m) (b := (9 - i)) e15_21 t15_21 rfl rfl (by omega) (by omega) (fun h21 => ?_) (fun h21 => ?_)
    · have e9 : m = 9 - i := by omega
      subst e9
      exact hK _ hJ hF
    · refine LA0 e15_24 ?_
      refine Gr e15_25 ha.1 ha.2.1 f448 ?_
      refine LI3 e15_28 ?_
      refine LI4 e15_29 ?_
      refine IaddN (a := i) (b := m) e15_31 rfl rfl ?_
      refine Dup2 e15_32 ⟨rfl, rfl⟩ ?_
      refine AjN (k := (i + m)) e15_33 ha.2.2 rfl (by omega) (by decide) ?_
      refine LA1 e15_34 ?_
      refine Gr e15_35 hb.1 hb.2.1 f448 ?_
      refine LI3 e15_38 ?_
      refine AjN (k := i) e15_39 hb.2.2 rfl (by omega) (by decide) ?_
      refine LA2 e15_40 ?_
      refine Gr e15_41 hc.1 hc.2.1 f448 ?_
      refine LI4 e15_44 ?_
      refine AjN (k := m) e15_46 hc.2.2 rfl (by omega) (by decide) ?_
      refine Lmul e15_47 ?_
      refine Ladd e15_48 ?_
      refine WjN (k := (i + m)) e15_49 ha.2.2 rfl (by omega) (by decide) ?_
      refine IncN4 (m := m) e15_50 rfl ?_
      refine Go e15_53 t15_53 ?_
      refine ih (m + 1) _ (by omega) (by omega) hJ.up (fun k hk => ?_)
      by_cases e : k = i + m
      · subst e
        rw [amU_same, hF _ hk, hJ (b + 1) (by omega), hJ (c + 1) (by omega), hp i (by omega), hq m (by omega), oI_mul, oI_add]
        unfold cvP
        rw [if_neg (by omega), if_pos ⟨by omega, by omega⟩, Nat.add_sub_cancel_left, Int.add_zero]
      · rw [amU_ni e, hF k hk]
        unfold cvP
        by_cases g : i ≤ k ∧ k < i + m
        · rw [if_pos g, if_pos ⟨g.1, by omega⟩]
        · rw [if_neg g, if_neg (by omega)]
set_option maxHeartbeats 2000000 in
theorem p_product_lp (ha : amPO S R a) (hb : amPO S R b) (hc : amPO S R c) (hab : b ≠ a) (hac : c ≠ a) (hp : JP J (b + 1) p) (hq : JP J (c + 1) q) : ∀ (n i : Nat) (l4 : Option Value) (J' : amJ), 9 - i < n → i ≤ 9 → Fr J J' (a + 1) → JP J' (a + 1) (fun k => cvN p q k i) → Ex 15 6 [some (.ref a), some (.ref b), some (.ref c), some (.int (nI i)), l4] [] S I J' R (fun v I' J' R' => v = none ∧ I' = I ∧ R' = R ∧ Fr J J' (a + 1) ∧ JP J' (a + 1) (cv p q)) := by
  intro n
  induction n with
  | zero => intro i l4 J' h; omega
  | succ n ih =>
    intro i l4 J' h h9 hJ hF
    refine LI3 e15_6 ?_
    refine Ki e15_7 kbipush_9 ?_
    refine CN_ge (a := i) (b := 9) e15_9 t15_9 rfl (by decide) (by omega) (by omega) (fun h9 => ?_) (fun h9 => ?_)
    · exact Rvd e15_62 rt15 (by
      have e9 : i = 9 := by omega
      subst e9
      exact ⟨rfl, rfl, rfl, hJ, hF⟩)
    · refine Ki e15_12 kiconst_0 ?_
      refine SI4 e15_13 rfl ?_
      refine p_product_in ha hb hc hab hac (hp.fr hJ (by omega)) (hq.fr hJ (by omega)) (by omega) (fun J'' hJ2 hF2 => ?_) 10 0 J' (by omega) (by omega) Fr.rf (hF.cg (fun k hk => by unfold cvP; rw [if_neg (by omega), Int.add_zero]))
      refine IncN3 (m := i) e15_56 rfl ?_
      refine Go e15_59 t15_59 ?_
      exact ih (i + 1) (some (.int (nI (9 - i)))) _ (by omega) (by omega) (hJ.tr hJ2) (hF2.cg (fun k hk => by
        show cvN p q k i + _ = cvN p q k i + _
        by_cases g : i ≤ k
        · rw [if_pos ⟨g, by omega⟩, if_pos g]
        · rw [if_neg (by omega), if_neg g]))
set_option maxHeartbeats 2000000 in
theorem p_product (ha : amPO S R a) (hb : amPO S R b) (hc : amPO S R c) (hab : b ≠ a) (hac : c ≠ a) (hp : JP J (b + 1) p) (hq : JP J (c + 1) q) : Rw 15 [.ref a, .ref b, .ref c] S I J R (a + 1) (cv p q) := by
  show Ex 15 0 [some (.ref a), some (.ref b), some (.ref c), none, none] [] S I J R _
  refine LA0 e15_0 ?_
  refine Cv0p e15_1 c15_7 ha.1 (Nat.le_of_ble_eq_true rfl) (Nat.le_of_ble_eq_true rfl) (p_clear ha) ?_
  rintro _ _ J' _ ⟨rfl, rfl, rfl, hF, hP⟩
  refine Ki e15_4 kiconst_0 ?_
  refine SI3 e15_5 rfl ?_
  exact (p_product_lp ha hb hc hab hac (hp.fr hF (by omega)) (hq.fr hF (by omega)) 10 0 none J' (by omega) (by omega) Fr.rf (hP.cg (fun _ _ => rfl))).mono (fun v I' J'' R' ⟨h1, h2, h3, h4, h5⟩ => ⟨h1, h2, h3, hF.tr h4, h5⟩)
/-- the value at u by v, times v to the power below s: from the head on, j numbers of it -/
def hN (p : Po) (u v : Int) (s : Nat) : Nat → Int
  | 0 => 0
  | j + 1 => hN p u v s j * u + p (s - 1 - j) * v ^ j
def hv (p : Po) (u v : Int) : Int := hN p u v (sz p) (sz p)
theorem pw_pos {v : Int} (h : 1 ≤ v) : ∀ j : Nat, 1 ≤ v ^ j
  | 0 => by rw [Int.pow_zero]; omega
  | j + 1 => by rw [Int.pow_succ]; exact Int.le_trans (by omega) (Int.mul_le_mul (pw_pos h j) h (by omega) (by have := pw_pos h j; omega))
theorem pw_le {v : Int} (h : 1 ≤ v) (h2 : v ≤ 1000) : ∀ j : Nat, v ^ j ≤ 1000 ^ j
  | 0 => by rw [Int.pow_zero, Int.pow_zero]; omega
  | j + 1 => by rw [Int.pow_succ, Int.pow_succ]; exact Int.mul_le_mul (pw_le h h2 j) h2 (by omega) (by have := pw_pos (v := 1000) (by omega) j; omega)
theorem pw_nz {v : Int} (h : 1 ≤ v) (h2 : v ≤ 1000) {j : Nat} (hj : j ≤ 5) : ¬ oI (v ^ j) = 0 := by
  have h3 := pw_pos h j
  have h4 := pw_le h h2 j
  have h5 : (1000 : Int) ^ j ≤ 1000 ^ 5 := by
    match j, hj with
    | 0, _ => decide
    | 1, _ => decide
    | 2, _ => decide
    | 3, _ => decide
    | 4, _ => decide
    | 5, _ => decide
  have h6 : (1000 : Int) ^ 5 ≤ 9000000000000000000 := by decide
  intro q
  rw [oI_0, oI_eq ⟨by omega, by omega⟩ ⟨by decide, by decide⟩] at q
  omega
set_option maxHeartbeats 2000000 in
theorem p_worth_lpB {u v : Int} (ha : amPO S R a) (hp : JP J (a + 1) p) (hB : PB 4000000000000000000 p) (hs : sz p ≤ 5) (h1 : 1 ≤ v) (h2 : v ≤ 1000) (hQ : Q (some (.long (oI (hv p u v)))) I J R) : ∀ m, m < sz p → Ex 20 10 [some (.ref a), some (.long (oI u)), none, some (.long (oI v)), none, some (.long (oI (hN p u v (sz p) (sz p - m)))), none, some (.long (oI (v ^ (sz p - m)))), none, some (.int (dI m))] [] S I J R Q := by
  intro m
  induction m with
  | zero =>
    intro _
    show Ex 20 10 [some (.ref a), some (.long (oI u)), none, some (.long (oI v)), none, some (.long (oI (hN p u v (sz p) (sz p - 0)))), none, some (.long (oI (v ^ (sz p - 0)))), none, some (.int (-1))] [] S I J R Q
    refine LI9 e20_10 ?_
    refine B_lt e20_12 t20_12 (fun _ => ?_) (fun q => absurd (by decide) q)
    refine LJ5 e20_66 ?_
    exact Rj e20_68 rt20 (hQ)
  | succ m ih =>
    intro hm
    show Ex 20 10 [some (.ref a), some (.long (oI u)), none, some (.long (oI v)), none, some (.long (oI (hN p u v (sz p) (sz p - (m + 1))))), none, some (.long (oI (v ^ (sz p - (m + 1))))), none, some (.int (nI m))] [] S I J R Q
    refine LI9 e20_10 ?_
    refine B_lt e20_12 t20_12 (fun q => absurd q (nI_pos (by omega))) (fun _ => ?_)
    refine LJ7 e20_15 ?_
    refine K0 e20_17 ?_
    refine D_ne e20_18 e20_19 t20_19 (fun _ => ?_) (fun q => absurd (pw_nz h1 h2 (by omega)) q)
    refine LJ5 e20_37 ?_
    refine LJ1 e20_39 ?_
    refine Lmul e20_40 ?_
    refine LA0 e20_41 ?_
    refine Gr e20_42 ha.1 ha.2.1 f448 ?_
    refine LI9 e20_45 ?_
    refine AjN (k := m) e20_47 ha.2.2 rfl (by omega) (by decide) ?_
    refine LJ7 e20_48 ?_
    refine Lmul e20_50 ?_
    refine Ladd e20_51 ?_
    refine SJ5 e20_52 rfl ?_
    refine LJ7 e20_54 ?_
    refine LJ3 e20_56 ?_
    refine Lmul e20_57 ?_
    refine SJ7 e20_58 rfl ?_
    refine Inc9 (d := (-1)) e20_60 rfl rfl ?_
    refine Go e20_63 t20_63 ?_
    rw [dI_dec, hp m (by omega), oI_mul, oI_mul, oI_add, oI_mul]
    have e : sz p - m = (sz p - (m + 1)) + 1 := by omega
    have e1 : hN p u v (sz p) (sz p - (m + 1)) * u + p m * v ^ (sz p - (m + 1)) = hN p u v (sz p) (sz p - m) := by
      rw [e]
      show _ = hN p u v (sz p) (sz p - (m + 1)) * u + p (sz p - 1 - (sz p - (m + 1))) * v ^ (sz p - (m + 1))
      rw [show sz p - 1 - (sz p - (m + 1)) = m from by omega]
    have e2 : v ^ (sz p - (m + 1)) * v = v ^ (sz p - m) := by rw [e, Int.pow_succ]
    rw [e1, e2]
    exact ih (by omega)
set_option maxHeartbeats 2000000 in
theorem p_worth_lpA {u v : Int} (ha : amPO S R a) (hp : JP J (a + 1) p) (hB : PB 4000000000000000000 p) (hs : sz p ≤ 5) (h1 : 1 ≤ v) (h2 : v ≤ 1000) (hQ : Q (some (.long (oI (hv p u v)))) I J R) : ∀ m, sz p ≤ m → m ≤ 9 → Ex 20 10 [some (.ref a), some (.long (oI u)), none, some (.long (oI v)), none, some (.long 0), none, some (.long 0), none, some (.int (dI m))] [] S I J R Q := by
  intro m
  induction m with
  | zero =>
    intro hz _
    show Ex 20 10 [some (.ref a), some (.long (oI u)), none, some (.long (oI v)), none, some (.long 0), none, some (.long 0), none, some (.int (-1))] [] S I J R Q
    refine LI9 e20_10 ?_
    refine B_lt e20_12 t20_12 (fun _ => ?_) (fun q => absurd (by decide) q)
    refine LJ5 e20_66 ?_
    exact Rj e20_68 rt20 (by
    have e : sz p = 0 := by omega
    unfold hv at hQ
    rw [e] at hQ
    exact hQ)
  | succ m ih =>
    intro hz h9
    show Ex 20 10 [some (.ref a), some (.long (oI u)), none, some (.long (oI v)), none, some (.long 0), none, some (.long 0), none, some (.int (nI m))] [] S I J R Q
    by_cases e : sz p = m + 1
    · have hm : ¬ J (a + 1) m = 0 := fun q => by
        have h3 := sz_head (p := p) (by omega)
        rw [show sz p - 1 = m from by omega] at h3
        rw [hp m (by omega), oI_0, oI_eq (hB.iB (by decide) (by omega)) ⟨by decide, by decide⟩] at q
        exact h3 q
      refine LI9 e20_10 ?_
      refine B_lt e20_12 t20_12 (fun q => absurd q (nI_pos (by omega))) (fun _ => ?_)
      refine LJ7 e20_15 ?_
      refine K0 e20_17 ?_
      refine D_ne e20_18 e20_19 t20_19 (fun q => absurd rfl q) (fun _ => ?_)
      refine LA0 e20_22 ?_
      refine Gr e20_23 ha.1 ha.2.1 f448 ?_
      refine LI9 e20_26 ?_
      refine AjN (k := m) e20_28 ha.2.2 rfl (by omega) (by decide) ?_
      refine K0 e20_29 ?_
      refine D_eq e20_30 e20_31 t20_31 (fun q => absurd q (hm)) (fun _ => ?_)
      refine K1 e20_34 ?_
      refine SJ7 e20_35 rfl ?_
      refine LJ5 e20_37 ?_
      refine LJ1 e20_39 ?_
      refine Lmul e20_40 ?_
      refine LA0 e20_41 ?_
      refine Gr e20_42 ha.1 ha.2.1 f448 ?_
      refine LI9 e20_45 ?_
      refine AjN (k := m) e20_47 ha.2.2 rfl (by omega) (by decide) ?_
      refine LJ7 e20_48 ?_
      refine Lmul e20_50 ?_
      refine Ladd e20_51 ?_
      refine SJ5 e20_52 rfl ?_
      refine LJ7 e20_54 ?_
      refine LJ3 e20_56 ?_
      refine Lmul e20_57 ?_
      refine SJ7 e20_58 rfl ?_
      refine Inc9 (d := (-1)) e20_60 rfl rfl ?_
      refine Go e20_63 t20_63 ?_
      rw [dI_dec, hp m (by omega)]
      have e1 : (0 : Int64) * oI u + oI (p m) * 1 = oI (hN p u v (sz p) (sz p - m)) := by
        rw [show sz p - m = 0 + 1 from by omega, oI_0, oI_1, oI_mul, oI_mul, oI_add]
        show _ = oI (0 * u + p (sz p - 1 - 0) * v ^ 0)
        rw [show sz p - 1 - 0 = m from by omega, Int.pow_zero]
      have e2 : (1 : Int64) * oI v = oI (v ^ (sz p - m)) := by
        rw [show sz p - m = 0 + 1 from by omega, oI_1, oI_mul, Int.pow_succ, Int.pow_zero]
      rw [e1, e2]
      exact p_worth_lpB ha hp hB hs h1 h2 hQ m (by omega)
    · have hm : J (a + 1) m = 0 := by rw [hp m (by omega), sz_zero (p := p) (by omega) (by omega)]; rfl
      refine LI9 e20_10 ?_
      refine B_lt e20_12 t20_12 (fun q => absurd q (nI_pos (by omega))) (fun _ => ?_)
      refine LJ7 e20_15 ?_
      refine K0 e20_17 ?_
      refine D_ne e20_18 e20_19 t20_19 (fun q => absurd rfl q) (fun _ => ?_)
      refine LA0 e20_22 ?_
      refine Gr e20_23 ha.1 ha.2.1 f448 ?_
      refine LI9 e20_26 ?_
      refine AjN (k := m) e20_28 ha.2.2 rfl (by omega) (by decide) ?_
      refine K0 e20_29 ?_
      refine D_eq e20_30 e20_31 t20_31 (fun _ => ?_) (fun q => absurd (hm) q)
      refine LJ5 e20_37 ?_
      refine LJ1 e20_39 ?_
      refine Lmul e20_40 ?_
      refine LA0 e20_41 ?_
      refine Gr e20_42 ha.1 ha.2.1 f448 ?_
      refine LI9 e20_45 ?_
      refine AjN (k := m) e20_47 ha.2.2 rfl (by omega) (by decide) ?_
      refine LJ7 e20_48 ?_
      refine Lmul e20_50 ?_
      refine Ladd e20_51 ?_
      refine SJ5 e20_52 rfl ?_
      refine LJ7 e20_54 ?_
      refine LJ3 e20_56 ?_
      refine Lmul e20_57 ?_
      refine SJ7 e20_58 rfl ?_
      refine Inc9 (d := (-1)) e20_60 rfl rfl ?_
      refine Go e20_63 t20_63 ?_
      rw [dI_dec, hm]
      have e1 : (0 : Int64) * oI u + 0 * 0 = 0 := by rw [oI_0, oI_mul, oI_mul, oI_add, Int.zero_mul]; rfl
      have e2 : (0 : Int64) * oI v = 0 := by rw [oI_0, oI_mul, Int.zero_mul]
      rw [e1, e2]
      exact ih (by omega) (by omega)
set_option maxHeartbeats 2000000 in
theorem p_worth {u v : Int} (ha : amPO S R a) (hp : JP J (a + 1) p) (hB : PB 4000000000000000000 p) (hs : sz p ≤ 5) (h1 : 1 ≤ v) (h2 : v ≤ 1000) : Rv 20 [.ref a, .long (oI u), .long (oI v)] S I J R (.long (oI (hv p u v))) := by
  intro Q hQ
  show Ex 20 0 [some (.ref a), some (.long (oI u)), none, some (.long (oI v)), none, none, none, none, none, none] [] S I J R _
  refine K0 e20_0 ?_
  refine SJ5 e20_1 rfl ?_
  refine K0 e20_3 ?_
  refine SJ7 e20_4 rfl ?_
  refine Ki e20_6 kbipush_8 ?_
  refine SI9 e20_8 rfl ?_
  exact p_worth_lpA ha hp hB hs h1 h2 hQ 9 (sz_le p) (Nat.le_refl _)
theorem i2l_oI (x : Int32) : x.toInt64 = oI x.toInt := by
  apply Int64.toInt_inj.mp
  have h1 := Int32.le_toInt x
  have h2 := Int32.toInt_lt x
  rw [Int32.toInt_toInt64, oI_t (by omega) (by omega)]
set_option maxHeartbeats 2000000 in
theorem p_signAt {u v : Int32} (ha : amPO S R a) (hp : JP J (a + 1) p) (hB : PB 4000000000000000000 p) (hs : sz p ≤ 5) (h1 : 1 ≤ v.toInt) (h2 : v.toInt ≤ 1000) : Rv 21 [.ref a, .int u, .int v] S I J R (.int (sgl (oI (hv p u.toInt v.toInt)))) := by
  intro Q hQ
  show Ex 21 0 [some (.ref a), some (.int u), some (.int v)] [] S I J R _
  refine LA0 e21_0 ?_
  refine LI1 e21_1 ?_
  refine I2l e21_2 ?_
  refine LI2 e21_3 ?_
  refine I2l e21_4 ?_
  refine Cv2 e21_5 c21_20 ha.1 (Nat.le_of_ble_eq_true rfl) (Nat.le_of_ble_eq_true rfl) (by rw [i2l_oI, i2l_oI]; exact p_worth ha hp hB hs h1 h2) ?_
  refine Cs1 e21_8 c21_1 (Nat.le_of_ble_eq_true rfl) (Nat.le_of_ble_eq_true rfl) (l_signum) ?_
  exact Ri e21_11 rt21 (hQ)
set_option maxHeartbeats 2000000 in
theorem p_above (ha : amPO S R a) (hp : JP J (a + 1) p) (hB : PB 4000000000000000000 p) : Rv 22 [.ref a] S I J R (.int (sgl (oI (hd p)))) := by
  intro Q hQ
  show Ex 22 0 [some (.ref a)] [] S I J R _
  refine LA0 e22_0 ?_
  refine LA0 e22_1 ?_
  refine Cv0 e22_2 c22_5 ha.1 (Nat.le_of_ble_eq_true rfl) (Nat.le_of_ble_eq_true rfl) (p_degree ha hp hB) ?_
  refine Cv1 e22_5 c22_3 ha.1 (Nat.le_of_ble_eq_true rfl) (Nat.le_of_ble_eq_true rfl) ((atv_hd hp ▸ p_at ha _ : Rv 3 [.ref a, .int (dI (sz p))] S I J R (.long (oI (hd p))))) ?_
  refine Cs1 e22_8 c22_1 (Nat.le_of_ble_eq_true rfl) (Nat.le_of_ble_eq_true rfl) (l_signum) ?_
  exact Ri e22_11 rt22 (hQ)
/-- the sign below all -/
def sba (p : Po) : Int32 := if sz p % 2 = 1 then sgl (oI (hd p)) else -sgl (oI (hd p))
theorem dI_odd : ∀ n, n ≤ 9 → (dI n - dI n / 2 * 2 = 0 ↔ n % 2 = 1) := by decide
set_option maxHeartbeats 2000000 in
theorem p_below (ha : amPO S R a) (hp : JP J (a + 1) p) (hB : PB 4000000000000000000 p) : Rv 23 [.ref a] S I J R (.int (sba p)) := by
  intro Q hQ
  show Ex 23 0 [some (.ref a), none, none] [] S I J R _
  refine LA0 e23_0 ?_
  refine Cv0 e23_1 c23_5 ha.1 (Nat.le_of_ble_eq_true rfl) (Nat.le_of_ble_eq_true rfl) (p_degree ha hp hB) ?_
  refine SI1 e23_4 rfl ?_
  refine LA0 e23_5 ?_
  refine LI1 e23_6 ?_
  refine Cv1 e23_7 c23_3 ha.1 (Nat.le_of_ble_eq_true rfl) (Nat.le_of_ble_eq_true rfl) ((atv_hd hp ▸ p_at ha _ : Rv 3 [.ref a, .int (dI (sz p))] S I J R (.long (oI (hd p))))) ?_
  refine Cs1 e23_10 c23_1 (Nat.le_of_ble_eq_true rfl) (Nat.le_of_ble_eq_true rfl) (l_signum) ?_
  refine SI2 e23_13 rfl ?_
  refine LI1 e23_14 ?_
  refine Ki e23_15 kiconst_2 ?_
  refine Irem e23_16 (by decide) ?_
  refine B_ne e23_17 t23_17 (fun h17 => ?_) (fun h17 => ?_)
  · refine LI2 e23_24 ?_
    refine Ineg e23_25 ?_
    exact Ri e23_26 rt23 (by
    unfold sba at hQ
    rw [if_neg (fun z => h17 ((dI_odd _ (sz_le p)).mpr z))] at hQ
    exact hQ)
  · refine LI2 e23_20 ?_
    refine Go e23_21 t23_21 ?_
    exact Ri e23_26 rt23 (by
    unfold sba at hQ
    rw [if_pos ((dI_odd _ (sz_le p)).mp (Decidable.not_not.mp h17))] at hQ
    exact hQ)
/-- how often the sign changes among the first n, and the last that isn't 0 -/
def chN (f : Nat → Int32) : Nat → Nat × Int32
  | 0 => (0, 0)
  | n + 1 => (if f n * (chN f n).2 < 0 then (chN f n).1 + 1 else (chN f n).1, if f n = 0 then (chN f n).2 else f n)
theorem chN_le (f : Nat → Int32) : ∀ n, (chN f n).1 ≤ n
  | 0 => Nat.le_refl _
  | n + 1 => by
    have h := chN_le f n
    show (if f n * (chN f n).2 < 0 then (chN f n).1 + 1 else (chN f n).1) ≤ n + 1
    by_cases e : f n * (chN f n).2 < 0
    · rw [if_pos e]; omega
    · rw [if_neg e]; omega
theorem chN_cg {f g : Nat → Int32} : ∀ {n : Nat}, (∀ k, k < n → f k = g k) → chN f n = chN g n
  | 0, _ => rfl
  | n + 1, h => by
    unfold chN
    rw [chN_cg (fun k hk => h k (by omega)), h n (by omega)]
set_option maxHeartbeats 2000000 in
theorem p_turns_lp (ha : amPO S R a) (hp : JP J (a + 1) p) (hQ : Q (some (.int (nI (chN (fun k => sgl (oI (p k))) 9).1))) I J R) : ∀ (n i : Nat) (l4 : Option Value), 9 - i < n → i ≤ 9 → Ex 11 6 [some (.ref a), some (.int (nI (chN (fun k => sgl (oI (p k))) i).1)), some (.int ((chN (fun k => sgl (oI (p k))) i).2)), some (.int (nI i)), l4] [] S I J R Q := by
  intro n
  induction n with
  | zero => intro i l4 h; omega
  | succ n ih =>
    intro i l4 h h9
    have hle := chN_le (fun k => sgl (oI (p k))) i
    refine LI3 e11_6 ?_
    refine Ki e11_7 kbipush_9 ?_
    refine CN_ge (a := i) (b := 9) e11_9 t11_9 rfl (by decide) (by omega) (by omega) (fun h9 => ?_) (fun h9 => ?_)
    · refine LI1 e11_47 ?_
      exact Ri e11_48 rt11 (by
      have e9 : i = 9 := by omega
      subst e9
      exact hQ)
    · refine LA0 e11_12 ?_
      refine Gr e11_13 ha.1 ha.2.1 f448 ?_
      refine LI3 e11_16 ?_
      refine AjN (k := i) e11_17 ha.2.2 rfl (by omega) (by decide) ?_
      refine Cs1 e11_18 c11_1 (Nat.le_of_ble_eq_true rfl) (Nat.le_of_ble_eq_true rfl) (by rw [hp i (by omega)]; exact l_signum) ?_
      refine SI4 e11_21 rfl ?_
      refine LI4 e11_23 ?_
      refine LI2 e11_25 ?_
      refine Imul e11_26 ?_
      refine B_ge e11_27 t11_27 (fun h27 => ?_) (fun h27 => ?_)
      · refine LI4 e11_33 ?_
        refine B_eq e11_35 t11_35 (fun h35 => ?_) (fun h35 => ?_)
        · refine IncN3 (m := i) e11_41 rfl ?_
          refine Go e11_44 t11_44 ?_
          have e1 : (chN (fun k => sgl (oI (p k))) (i + 1)).1 = (chN (fun k => sgl (oI (p k))) i).1 := if_neg (Int32.not_lt.mpr h27)
          have e2 : (chN (fun k => sgl (oI (p k))) (i + 1)).2 = (chN (fun k => sgl (oI (p k))) i).2 := if_pos h35
          have := ih (i + 1) (some (.int (sgl (oI (p i))))) (by omega) (by omega)
          rw [e1, e2] at this
          exact this
        · refine LI4 e11_38 ?_
          refine SI2 e11_40 rfl ?_
          refine IncN3 (m := i) e11_41 rfl ?_
          refine Go e11_44 t11_44 ?_
          have e1 : (chN (fun k => sgl (oI (p k))) (i + 1)).1 = (chN (fun k => sgl (oI (p k))) i).1 := if_neg (Int32.not_lt.mpr h27)
          have e2 : (chN (fun k => sgl (oI (p k))) (i + 1)).2 = sgl (oI (p i)) := if_neg h35
          have := ih (i + 1) (some (.int (sgl (oI (p i))))) (by omega) (by omega)
          rw [e1, e2] at this
          exact this
      · refine IncN1 (m := (chN (fun k => sgl (oI (p k))) i).1) e11_30 rfl ?_
        refine LI4 e11_33 ?_
        refine B_eq e11_35 t11_35 (fun h35 => ?_) (fun h35 => ?_)
        · refine IncN3 (m := i) e11_41 rfl ?_
          refine Go e11_44 t11_44 ?_
          have e1 : (chN (fun k => sgl (oI (p k))) (i + 1)).1 = (chN (fun k => sgl (oI (p k))) i).1 + 1 := if_pos (Int32.not_le.mp h27)
          have e2 : (chN (fun k => sgl (oI (p k))) (i + 1)).2 = (chN (fun k => sgl (oI (p k))) i).2 := if_pos h35
          have := ih (i + 1) (some (.int (sgl (oI (p i))))) (by omega) (by omega)
          rw [e1, e2] at this
          exact this
        · refine LI4 e11_38 ?_
          refine SI2 e11_40 rfl ?_
          refine IncN3 (m := i) e11_41 rfl ?_
          refine Go e11_44 t11_44 ?_
          have e1 : (chN (fun k => sgl (oI (p k))) (i + 1)).1 = (chN (fun k => sgl (oI (p k))) i).1 + 1 := if_pos (Int32.not_le.mp h27)
          have e2 : (chN (fun k => sgl (oI (p k))) (i + 1)).2 = sgl (oI (p i)) := if_neg h35
          have := ih (i + 1) (some (.int (sgl (oI (p i))))) (by omega) (by omega)
          rw [e1, e2] at this
          exact this
set_option maxHeartbeats 2000000 in
theorem p_turns (ha : amPO S R a) (hp : JP J (a + 1) p) : Rv 11 [.ref a] S I J R (.int (nI (chN (fun k => sgl (oI (p k))) 9).1)) := by
  intro Q hQ
  show Ex 11 0 [some (.ref a), none, none, none, none] [] S I J R _
  refine Ki e11_0 kiconst_0 ?_
  refine SI1 e11_1 rfl ?_
  refine Ki e11_2 kiconst_0 ?_
  refine SI2 e11_3 rfl ?_
  refine Ki e11_4 kiconst_0 ?_
  refine SI3 e11_5 rfl ?_
  exact p_turns_lp ha hp hQ 10 0 none (by omega) (by omega)
end POLY2
