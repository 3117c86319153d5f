/-! stretch, shift, reverse and small things (printed by wip/whole/t32.py) -/
section MAK
variable {S : amS} {L : Nat} {I : amI} {J : amJ} {R : amR} {Q : amQ} {a b c h : Nat} {p q f : Po} {l : List Po}
/-- k times x for x, as far as m -/
def strP (p : Po) (k : Int) (m : Nat) : Po := fun i => if i < m then p i * k ^ i else p i
set_option maxHeartbeats 2000000 in
theorem m_stretch_lp {k : Int32} (ha : amPO S R a) : ∀ (n m : Nat) (J' : amJ), 5 - m < n → m ≤ 5 → Fr J J' (a + 1) → JP J' (a + 1) (strP p k.toInt m) → Ex 49 5 [some (.ref a), some (.int k), some (.long (oI (k.toInt ^ m))), none, some (.int (nI m))] [] S I J' R (fun v I' J' R' => v = none ∧ I' = I ∧ R' = R ∧ Fr J J' (a + 1) ∧ JP J' (a + 1) (strP p k.toInt 5)) := by
  intro n
  induction n with
  | zero => intro m J' h; omega
  | succ n ih =>
    intro m J' h' h9 hF hJ
    refine LI4 e49_5 ?_
    refine Ki e49_7 kiconst_4 ?_
    refine CN_gt (a := m) (b := 4) e49_8 t49_8 rfl (by decide) (by omega) (by omega) (fun h8 => ?_) (fun h8 => ?_)
    · exact Rvd e49_36 rt49 (by
      have e5 : m = 5 := by omega
      subst e5
      exact ⟨rfl, rfl, rfl, hF, hJ⟩)
    · refine LA0 e49_11 ?_
      refine LI4 e49_12 ?_
      refine LA0 e49_14 ?_
      refine LI4 e49_15 ?_
      refine Cv1 e49_17 c49_3 ha.1 (Nat.le_of_ble_eq_true rfl) (Nat.le_of_ble_eq_true rfl) (((show atv J' a (nI m) = oI (p m) from by rw [atv_n (by omega), hJ m (by omega)]; unfold strP; rw [if_neg (by omega)]) ▸ p_at ha _ : Rv 3 [.ref a, .int (nI m)] S I J' R (.long (oI (p m))))) ?_
      refine LJ2 e49_20 ?_
      refine Lmul e49_21 ?_
      rw [oI_mul]
      refine Cv2p e49_22 c49_4 ha.1 (Nat.le_of_ble_eq_true rfl) (Nat.le_of_ble_eq_true rfl) (p_put ha hJ (by omega)) ?_
      rintro _ I1 J1 R1 ⟨rfl, hI1, hR1, hF1, hP1⟩
      subst hI1
      subst hR1
      refine LJ2 e49_25 ?_
      refine LI1 e49_26 ?_
      refine I2l e49_27 ?_
      refine Lmul e49_28 ?_
      rw [i2l_oI, oI_mul, ← Int.pow_succ]
      refine SJ2 e49_29 rfl ?_
      refine IncN4 (m := m) e49_30 rfl ?_
      refine Go e49_33 t49_33 ?_
      refine ih (m + 1) _ (by omega) (by omega) (hF.tr hF1) (hP1.cg (fun i hi => ?_))
      unfold pU strP
      by_cases e : i = m
      · subst e; rw [if_pos rfl, if_pos (by omega)]
      · rw [if_neg e]
        by_cases g : i < m
        · rw [if_pos g, if_pos (by omega)]
        · rw [if_neg g, if_neg (by omega)]
set_option maxHeartbeats 2000000 in
theorem m_stretch {k : Int32} (ha : amPO S R a) (hp : JP J (a + 1) p) : Rw 49 [.ref a, .int k] S I J R (a + 1) (strP p k.toInt 5) := by
  show Ex 49 0 [some (.ref a), some (.int k), none, none, none] [] S I J R _
  refine K1 e49_0 ?_
  refine SJ2 e49_1 rfl ?_
  refine Ki e49_2 kiconst_0 ?_
  refine SI4 e49_3 rfl ?_
  rw [oI_1, show (1 : Int) = k.toInt ^ 0 from by rw [Int.pow_zero]]
  exact m_stretch_lp ha 6 0 J (by omega) (by omega) Fr.rf (hp.cg (fun i hi => by unfold strP; rw [if_neg (by omega)]))
/-- one round from the power s + n - 1 down to s -/
def shN (k : Int) (s : Nat) : Nat → Po → Po
  | 0, p => p
  | n + 1, p => shN k s n (pU p (s + n) (p (s + n) + k * p (s + n + 1)))
def shO (k : Int) : Nat → Nat → Po → Po
  | 0, _, p => p
  | r + 1, s, p => shO k r (s + 1) (shN k s (4 - s) p)
set_option maxHeartbeats 2000000 in
theorem m_shift_in {k : Int32} {s : Nat} {K : amQ} {r : Po} (ha : amPO S R a) (hs : s < 4) (hK : ∀ J' l3, Fr J J' (a + 1) → JP J' (a + 1) r → Ex 50 41 [some (.ref a), some (.int k), some (.int (nI s)), l3] [] S I J' R K) : ∀ (n : Nat) (p : Po) (J' : amJ), s + n ≤ 4 → shN k.toInt s n p = r → Fr J J' (a + 1) → JP J' (a + 1) p → Ex 50 9 [some (.ref a), some (.int k), some (.int (nI s)), some (.int (dI (s + n)))] [] S I J' R K := by
  intro n
  induction n with
  | zero =>
    intro p J' hn hr hF hJ
    have hlt : dI (s + 0) < nI s := by
      rw [Int32.lt_iff_toInt_lt, dI_toInt (by omega), nI_toInt (by omega)]; omega
    rw [shN] at hr
    subst hr
    refine LI3 e50_9 ?_
    refine LI2 e50_10 ?_
    refine C_lt e50_11 t50_11 (fun _ => ?_) (fun q => absurd (hlt) q)
    exact hK _ _ hF hJ
  | succ n ih =>
    intro p J' hn hr hF hJ
    rw [shN] at hr
    show Ex 50 9 [some (.ref a), some (.int k), some (.int (nI s)), some (.int (nI (s + n)))] [] S I J' R K
    refine LI3 e50_9 ?_
    refine LI2 e50_10 ?_
    refine CN_lt (a := (s + n)) (b := s) e50_11 t50_11 rfl rfl (by omega) (by omega) (fun q => absurd q (by omega)) (fun _ => ?_)
    refine LA0 e50_14 ?_
    refine LI3 e50_15 ?_
    refine LA0 e50_16 ?_
    refine LI3 e50_17 ?_
    refine Cv1 e50_18 c50_3 ha.1 (Nat.le_of_ble_eq_true rfl) (Nat.le_of_ble_eq_true rfl) (((show atv J' a (nI (s + n)) = oI (p (s + n)) from by rw [atv_n (by omega), hJ _ (by omega)]) ▸ p_at ha _ : Rv 3 [.ref a, .int (nI (s + n))] S I J' R (.long (oI (p (s + n)))))) ?_
    refine LI1 e50_21 ?_
    refine I2l e50_22 ?_
    refine LA0 e50_23 ?_
    refine LI3 e50_24 ?_
    refine Ki e50_25 kiconst_1 ?_
    refine IaddN (a := (s + n)) (b := 1) e50_26 rfl (by decide) ?_
    refine Cv1 e50_27 c50_3 ha.1 (Nat.le_of_ble_eq_true rfl) (Nat.le_of_ble_eq_true rfl) (((show atv J' a (nI (s + n + 1)) = oI (p (s + n + 1)) from by rw [atv_n (by omega), hJ _ (by omega)]) ▸ p_at ha _ : Rv 3 [.ref a, .int (nI (s + n + 1))] S I J' R (.long (oI (p (s + n + 1)))))) ?_
    refine Lmul e50_30 ?_
    refine Ladd e50_31 ?_
    rw [i2l_oI, oI_mul, oI_add]
    refine Cv2p e50_32 c50_4 ha.1 (Nat.le_of_ble_eq_true rfl) (Nat.le_of_ble_eq_true rfl) (p_put ha hJ (by omega)) ?_
    rintro _ I1 J1 R1 ⟨rfl, hI1, hR1, hF1, hP1⟩
    subst hI1
    subst hR1
    refine Inc3 (d := (-1)) e50_35 rfl rfl ?_
    refine Go e50_38 t50_38 ?_
    rw [dI_dec]
    exact ih _ _ (by omega) hr (hF.tr hF1) hP1
set_option maxHeartbeats 2000000 in
theorem m_shift_lp {k : Int32} (ha : amPO S R a) : ∀ (r s : Nat) (p : Po) (J' : amJ) (l3 : Option Value), s + r = 4 → Fr J J' (a + 1) → JP J' (a + 1) p → Ex 50 2 [some (.ref a), some (.int k), some (.int (nI s)), l3] [] S I J' R (fun v I' J' R' => v = none ∧ I' = I ∧ R' = R ∧ Fr J J' (a + 1) ∧ JP J' (a + 1) (shO k.toInt r s p)) := by
  intro r
  induction r with
  | zero =>
    intro s p J' l3 hs hF hJ
    refine LI2 e50_2 ?_
    refine Ki e50_3 kiconst_4 ?_
    refine CN_ge (a := s) (b := 4) e50_4 t50_4 rfl (by decide) (by omega) (by omega) (fun _ => ?_) (fun q => by omega)
    exact Rvd e50_47 rt50 (⟨rfl, rfl, rfl, hF, hJ⟩)
  | succ r ih =>
    intro s p J' l3 hs hF hJ
    refine LI2 e50_2 ?_
    refine Ki e50_3 kiconst_4 ?_
    refine CN_ge (a := s) (b := 4) e50_4 t50_4 rfl (by decide) (by omega) (by omega) (fun q => absurd q (by omega)) (fun _ => ?_)
    refine Ki e50_7 kiconst_3 ?_
    refine SI3 e50_8 rfl ?_
    have := m_shift_in (S := S) (I := I) (J := J) (R := R) (k := k) (s := s) (r := shN k.toInt s (4 - s) p) ha (by omega) (K := fun v I' J' R' => v = none ∧ I' = I ∧ R' = R ∧ Fr J J' (a + 1) ∧ JP J' (a + 1) (shO k.toInt (r + 1) s p)) (fun J2 l3 hF2 hJ2 => ?_) (4 - s) p J' (by omega) rfl hF hJ
    · rw [show s + (4 - s) = 4 from by omega] at this
      exact this
    · refine IncN2 (m := s) e50_41 rfl ?_
      refine Go e50_44 t50_44 ?_
      exact ih (s + 1) _ J2 l3 (by omega) hF2 hJ2
set_option maxHeartbeats 2000000 in
theorem m_shift {k : Int32} (ha : amPO S R a) (hp : JP J (a + 1) p) : Rw 50 [.ref a, .int k] S I J R (a + 1) (shO k.toInt 4 0 p) := by
  show Ex 50 0 [some (.ref a), some (.int k), none, none] [] S I J R _
  refine Ki e50_0 kiconst_0 ?_
  refine SI2 e50_1 rfl ?_
  exact m_shift_lp ha 4 0 p J none (by omega) Fr.rf hp
def revN (p : Po) (m : Nat) : Po := fun i => if i < m then p (sz p - 1 - i) else p i
set_option maxHeartbeats 2000000 in
theorem m_rev_lp (ha : amPO S R a) (hb : amPO S R b) (hab : b ≠ a) (hq : JP J (b + 1) p) : ∀ (n m : Nat) (J' : amJ), 9 - m < n → m ≤ sz p → Fr J J' (a + 1) → JP J' (a + 1) (revN p m) → Ex 51 7 [some (.ref b), some (.ref a), some (.int (dI (sz p))), some (.int (nI m))] [] S I J' R (fun v I' J' R' => v = none ∧ I' = I ∧ R' = R ∧ Fr J J' (a + 1) ∧ JP J' (a + 1) (revN p (sz p))) := by
  intro n
  induction n with
  | zero => intro m J' h; omega
  | succ n ih =>
    intro m J' h' h9 hF hJ
    have hs9 := sz_le p
    by_cases e0 : m = sz p
    · have hgt : dI (sz p) < nI m := by rw [Int32.lt_iff_toInt_lt, dI_toInt (by omega), nI_toInt (by omega)]; omega
      refine LI3 e51_7 ?_
      refine LI2 e51_8 ?_
      refine C_gt e51_9 t51_9 (fun _ => ?_) (fun q => absurd (hgt) q)
      exact Rvd e51_30 rt51 (by
      subst e0
      exact ⟨rfl, rfl, rfl, hF, hJ⟩)
    · have hgt : ¬ dI (sz p) < nI m := by rw [Int32.lt_iff_toInt_lt, dI_toInt (by omega), nI_toInt (by omega)]; omega
      obtain ⟨t, ht⟩ := Nat.exists_eq_succ_of_ne_zero (show sz p ≠ 0 by omega)
      have hdt : dI (sz p) = nI t := by rw [ht]; rfl
      rw [hdt] at hgt ⊢
      refine LI3 e51_7 ?_
      refine LI2 e51_8 ?_
      refine CN_gt (a := m) (b := t) e51_9 t51_9 rfl rfl (by omega) (by omega) (fun q => absurd q (by omega)) (fun _ => ?_)
      refine LA1 e51_12 ?_
      refine LI3 e51_13 ?_
      refine LA0 e51_14 ?_
      refine LI2 e51_15 ?_
      refine LI3 e51_16 ?_
      refine IsubN (a := t) (b := m) e51_17 rfl rfl (by omega) ?_
      refine Cv1 e51_18 c51_3 hb.1 (Nat.le_of_ble_eq_true rfl) (Nat.le_of_ble_eq_true rfl) (((show atv J' b (nI (t - m)) = oI (p (t - m)) from by rw [atv_n (by omega), hF (b + 1) (by omega), hq _ (by omega)]) ▸ p_at hb _ : Rv 3 [.ref b, .int (nI (t - m))] S I J' R (.long (oI (p (t - m)))))) ?_
      refine Cv2p e51_21 c51_4 ha.1 (Nat.le_of_ble_eq_true rfl) (Nat.le_of_ble_eq_true rfl) (p_put ha hJ (by omega)) ?_
      rintro _ I1 J1 R1 ⟨rfl, hI1, hR1, hF1, hP1⟩
      subst hI1
      subst hR1
      refine IncN3 (m := m) e51_24 rfl ?_
      refine Go e51_27 t51_27 ?_
      rw [← hdt]
      refine ih (m + 1) _ (by omega) (by omega) (hF.tr hF1) (hP1.cg (fun i hi => ?_))
      unfold pU revN
      by_cases e : i = m
      · subst e; rw [if_pos rfl, if_pos (by omega), show sz p - 1 - i = t - i from by omega]
      · rw [if_neg e]
        by_cases g : i < m
        · rw [if_pos g, if_pos (by omega)]
        · rw [if_neg g, if_neg (by omega)]
set_option maxHeartbeats 2000000 in
theorem m_reverse (ha : amPO S R a) (hb : amPO S R b) (hab : b ≠ a) (hp : JP J (a + 1) p) (hq : JP J (b + 1) p) (hB : PB 4000000000000000000 p) : Rw 51 [.ref b, .ref a] S I J R (a + 1) (revN p (sz p)) := by
  show Ex 51 0 [some (.ref b), some (.ref a), none, none] [] S I J R _
  refine LA0 e51_0 ?_
  refine Cv0 e51_1 c51_5 hb.1 (Nat.le_of_ble_eq_true rfl) (Nat.le_of_ble_eq_true rfl) (p_degree hb hq hB) ?_
  refine SI2 e51_4 rfl ?_
  refine Ki e51_5 kiconst_0 ?_
  refine SI3 e51_6 rfl ?_
  exact m_rev_lp ha hb hab hq 10 0 J (by omega) (by omega) Fr.rf (hp.cg (fun i hi => by unfold revN; rw [if_neg (by omega)]))
end MAK
