/-! the reference: numbers, rows of numbers (printed by wip/whole/t64.py) -/
section REF1
variable {S : amS} {I : amI} {J : amJ} {R : amR} {Q : amQ} {a b c : Nat} {p q : Po}
theorem m_in {u s t : Int64} : Rv 152 [.long u, .long s, .long t] S I J R (.int (bI (decide (s ≤ u ∧ u ≤ t)))) := by
  intro Q hQ
  show Ex 152 0 [some (.long u), none, some (.long s), none, some (.long t), none] [] S I J R _
  refine LJ0 e152_0 ?_
  refine LJ2 e152_1 ?_
  refine D_lt e152_2 e152_3 t152_3 (fun h2 => ?_) (fun h2 => ?_)
  · refine Ki e152_17 kiconst_0 ?_
    exact Rz e152_18 rt152 (by decide) (by
    have e : bI (decide (s ≤ u ∧ u ≤ t)) = 0 := by
      rw [decide_eq_false]
      · rfl
      · simp only [Int64.lt_iff_toInt_lt, Int64.le_iff_toInt_le] at *
        omega
    rw [e] at hQ
    exact hQ)
  · refine LJ0 e152_6 ?_
    refine LJ4 e152_7 ?_
    refine D_gt e152_9 e152_10 t152_10 (fun h9 => ?_) (fun h9 => ?_)
    · refine Ki e152_17 kiconst_0 ?_
      exact Rz e152_18 rt152 (by decide) (by
      have e : bI (decide (s ≤ u ∧ u ≤ t)) = 0 := by
        rw [decide_eq_false]
        · rfl
        · simp only [Int64.lt_iff_toInt_lt, Int64.le_iff_toInt_le] at *
          omega
      rw [e] at hQ
      exact hQ)
    · refine Ki e152_13 kiconst_1 ?_
      refine Go e152_14 t152_14 ?_
      exact Rz e152_18 rt152 (by decide) (by
      have e : bI (decide (s ≤ u ∧ u ≤ t)) = 1 := by
        rw [decide_eq_true]
        · rfl
        · simp only [Int64.lt_iff_toInt_lt, Int64.le_iff_toInt_le] at *
          omega
      rw [e] at hQ
      exact hQ)
theorem m_size {x : Int} (hx : iB x) : Rv 153 [.long (oI x)] S I J R (.long (oI (x.natAbs : Nat))) := by
  intro Q hQ
  show Ex 153 0 [some (.long (oI x)), none] [] S I J R _
  refine LJ0 e153_0 ?_
  refine K0 e153_1 ?_
  refine D_ge e153_2 e153_3 t153_3 (fun h2 => ?_) (fun h2 => ?_)
  · refine LJ0 e153_11 ?_
    exact Rj e153_12 rt153 (by
    rw [oI_0, oI_le ⟨by decide, by decide⟩ hx] at h2
    have e : oI x = oI (x.natAbs : Nat) := by
      congr 1
      omega
    rw [e]
    exact hQ)
  · refine LJ0 e153_6 ?_
    refine Lneg e153_7 ?_
    refine Go e153_8 t153_8 ?_
    exact Rj e153_12 rt153 (by
    rw [oI_0, oI_le ⟨by decide, by decide⟩ hx] at h2
    have e : -(oI x) = oI (x.natAbs : Nat) := by
      rw [oI_neg]
      congr 1
      omega
    rw [e]
    exact hQ)
theorem m_sign {x : Int64} : Rv 154 [.long x] S I J R (.int (sgl x)) := by
  intro Q hQ
  show Ex 154 0 [some (.long x), none] [] S I J R _
  refine LJ0 e154_0 ?_
  refine K0 e154_1 ?_
  refine D_le e154_2 e154_3 t154_3 (fun h2 => ?_) (fun h2 => ?_)
  · refine LJ0 e154_10 ?_
    refine K0 e154_11 ?_
    refine D_ge e154_12 e154_13 t154_13 (fun h12 => ?_) (fun h12 => ?_)
    · refine Ki e154_20 kiconst_0 ?_
      exact Ri e154_21 rt154 (by
      have e : sgl x = 0 := by
        unfold sgl
        simp only [Int64.lt_iff_toInt_lt, Int64.le_iff_toInt_le] at *
        rw [if_neg (by omega), if_neg (by omega)]
      rw [e] at hQ
      exact hQ)
    · refine Ki e154_16 kiconst_m1 ?_
      refine Go e154_17 t154_17 ?_
      exact Ri e154_21 rt154 (by
      have e : sgl x = (-1) := by
        unfold sgl
        simp only [Int64.lt_iff_toInt_lt, Int64.le_iff_toInt_le] at *
        rw [if_pos (by omega)]
      rw [e] at hQ
      exact hQ)
  · refine Ki e154_6 kiconst_1 ?_
    refine Go e154_7 t154_7 ?_
    exact Ri e154_21 rt154 (by
    have e : sgl x = 1 := by
      unfold sgl
      simp only [Int64.lt_iff_toInt_lt, Int64.le_iff_toInt_le] at *
      rw [if_neg (by omega), if_pos (by omega)]
    rw [e] at hQ
    exact hQ)
theorem nat_mod {d r : Nat} (hd : d ≤ 4000000000000000000) (hr : r ≤ 4000000000000000000) : oI (d : Nat) - oI (d : Nat) / oI (r : Nat) * oI (r : Nat) = oI ((d % r : Nat) : Int) := by
  rw [oI_rem (oI_nb hd) (oI_nb hr)]
  rfl
set_option maxHeartbeats 2000000 in
theorem m_gcd_lp {u t : Int64} : ∀ (m d r : Nat) (l8 l9 : Option Value), r < m → d ≤ 4000000000000000000 → r ≤ 4000000000000000000 → Q (some (.long (oI (Nat.gcd d r : Nat)))) I J R → Ex 155 12 [some (.long u), none, some (.long t), none, some (.long (oI (d : Nat))), none, some (.long (oI (r : Nat))), none, l8, l9] [] S I J R Q := by
  intro m
  induction m with
  | zero => intro d r l8 l9 h; omega
  | succ m ih =>
    intro d r l8 l9 h hd hr hQ
    by_cases h0 : r = 0
    · subst h0
      rw [Nat.gcd_zero_right] at hQ
      refine LJ6 e155_12 ?_
      refine K0 e155_14 ?_
      refine D_eq e155_15 e155_16 t155_16 (fun _ => ?_) (fun q => absurd (rfl) q)
      refine LJ4 e155_37 ?_
      exact Rj e155_39 rt155 (hQ)
    · have h1 : d % r < r := Nat.mod_lt _ (by omega)
      rw [Nat.gcd_comm, Nat.gcd_rec] at hQ
      rw [Nat.gcd_comm] at hQ
      refine LJ6 e155_12 ?_
      refine K0 e155_14 ?_
      refine D_eq e155_15 e155_16 t155_16 (fun q => absurd q (fun z => h0 ((oI_n0 hr).mp z))) (fun _ => ?_)
      refine LJ4 e155_19 ?_
      refine LJ6 e155_21 ?_
      refine Lrem e155_23 (fun z => h0 ((oI_n0 hr).mp z)) ?_
      rw [nat_mod hd hr]
      refine SJ8 e155_24 rfl ?_
      refine LJ6 e155_26 ?_
      refine SJ4 e155_28 rfl ?_
      refine LJ8 e155_30 ?_
      refine SJ6 e155_32 rfl ?_
      refine Go e155_34 t155_34 ?_
      exact ih r (d % r) _ _ (by omega) hr (by omega) hQ
set_option maxHeartbeats 2000000 in
theorem m_gcd {u t : Int} (hu : gB u) (ht : gB t) : Rv 155 [.long (oI u), .long (oI t)] S I J R (.long (oI (Nat.gcd u.natAbs t.natAbs : Nat))) := by
  intro Q hQ
  have hu2 := hu
  have ht2 := ht
  unfold gB at hu2 ht2
  show Ex 155 0 [some (.long (oI u)), none, some (.long (oI t)), none, none, none, none, none, none, none] [] S I J R _
  refine LJ0 e155_0 ?_
  refine Cs1 e155_1 c155_153 (Nat.le_of_ble_eq_true rfl) (Nat.le_of_ble_eq_true rfl) ((m_size ⟨by omega, by omega⟩)) ?_
  refine SJ4 e155_4 rfl ?_
  refine LJ2 e155_6 ?_
  refine Cs1 e155_7 c155_153 (Nat.le_of_ble_eq_true rfl) (Nat.le_of_ble_eq_true rfl) ((m_size ⟨by omega, by omega⟩)) ?_
  refine SJ6 e155_10 rfl ?_
  exact m_gcd_lp (t.natAbs + 1) u.natAbs t.natAbs _ _ (by omega) (by omega) (by omega) hQ
set_option maxHeartbeats 2000000 in
theorem m_degree_lp (ha : amA S a 1 9) (hp : JP J a p) (hB : PB 4000000000000000000 p) : ∀ n, n ≤ 9 → (∀ i, n ≤ i → i < 9 → p i = 0) → Q (some (.int (dI (sz p)))) I J R → Ex 173 3 [some (.ref a), some (.int (dI n))] [] S I J R Q := by
  intro n
  induction n with
  | zero =>
    intro h9 hz hQ
    have e : sz p = 0 := sz_of (by omega) hz (Or.inl rfl)
    rw [e] at hQ
    refine LI1 e173_3 ?_
    refine B_lt e173_4 t173_4 (fun _ => ?_) (fun q => absurd (by decide) q)
    refine LI1 e173_21 ?_
    exact Ri e173_22 rt173 (hQ)
  | succ n ih =>
    intro h9 hz hQ
    show Ex 173 3 [some (.ref a), some (.int (nI n))] [] S I J R Q
    have hi := hB.iB (by decide) (k := n) (by omega)
    refine LI1 e173_3 ?_
    refine B_lt e173_4 t173_4 (fun q => absurd q (nI_pos (by omega))) (fun _ => ?_)
    refine LA0 e173_7 ?_
    refine LI1 e173_8 ?_
    refine AjN (k := n) e173_9 ha rfl (by omega) (by decide) ?_
    rw [hp n (by omega)]
    refine K0 e173_10 ?_
    refine D_ne e173_11 e173_12 t173_12 (fun h11 => ?_) (fun h11 => ?_)
    · refine LI1 e173_21 ?_
      exact Ri e173_22 rt173 (by
      have hn : ¬ p n = 0 := fun z => h11 (by rw [z]; rfl)
      have e : sz p = n + 1 := sz_of h9 hz (Or.inr hn)
      rw [e] at hQ
      exact hQ)
    · have h11 : p n = 0 := by
        rw [oI_0, oI_eq hi ⟨by decide, by decide⟩] at h11
        exact Decidable.not_not.mp h11
      refine Inc1 (d := (-1)) e173_15 rfl rfl ?_
      refine Go e173_18 t173_18 ?_
      rw [show nI n + (-1) = dI n from dI_dec n]
      exact ih (by omega) (fun i g1 g2 => by
        by_cases e : i = n
        · rw [e]; exact h11
        · exact hz i (by omega) g2) hQ
theorem m_degree (ha : amA S a 1 9) (hp : JP J a p) (hB : PB 4000000000000000000 p) : Rv 173 [.ref a] S I J R (.int (dI (sz p))) := by
  intro Q hQ
  show Ex 173 0 [some (.ref a), none] [] S I J R _
  refine Ki e173_0 kbipush_8 ?_
  refine SI1 e173_2 rfl ?_
  exact m_degree_lp ha hp hB 9 (Nat.le_refl _) (fun i g1 g2 => by omega) hQ
theorem m_deg_n {n : Nat} (ha : amA S a 1 9) (hp : JP J a p) (hB : PB 4000000000000000000 p) (hn : sz p = n + 1) : Rv 173 [.ref a] S I J R (.int (nI n)) := by
  have h := m_degree (S := S) (I := I) (R := R) ha hp hB
  rw [hn] at h
  exact h
theorem m_head (ha : amA S a 1 9) (hp : JP J a p) (hB : PB 4000000000000000000 p) (h0 : 0 < sz p) : Rv 174 [.ref a] S I J R (.long (oI (hd p))) := by
  intro Q hQ
  have h9 := sz_le p
  obtain ⟨n, hn⟩ : ∃ n, sz p = n + 1 := ⟨sz p - 1, by omega⟩
  have e : hd p = p n := by unfold hd; rw [if_neg (by omega), hn, Nat.add_sub_cancel]
  rw [e] at hQ
  show Ex 174 0 [some (.ref a)] [] S I J R _
  refine LA0 e174_0 ?_
  refine LA0 e174_1 ?_
  refine Cs1 e174_2 c174_173 (Nat.le_of_ble_eq_true rfl) (Nat.le_of_ble_eq_true rfl) ((m_deg_n ha hp hB hn)) ?_
  refine AjN (k := n) e174_5 ha rfl (by omega) (by decide) ?_
  exact Rj e174_6 rt174 (by
  rw [hp n (by omega)]
  exact hQ)
set_option maxHeartbeats 2000000 in
theorem m_empties_lp (ha : amA S a 1 9) (hQ : ∀ J', JU J J' a 9 (fun _ => 0) → Q none I J' R) : ∀ (n i : Nat) (J' : amJ), 9 - i < n → i ≤ 9 → JU J J' a i (fun _ => 0) → Ex 171 2 [some (.ref a), some (.int (nI i))] [] S I J' R Q := by
  intro n
  induction n with
  | zero => intro i J' h; omega
  | succ n ih =>
    intro i J' h h9 hJ
    refine LI1 e171_2 ?_
    refine Ki e171_3 kbipush_9 ?_
    refine CN_ge (a := i) (b := 9) e171_5 t171_5 rfl (by decide) (by omega) (by omega) (fun h5 => ?_) (fun h5 => ?_)
    · exact Rvd e171_18 rt171 (by
      have e9 : i = 9 := by omega
      subst e9
      exact hQ _ hJ)
    · refine LA0 e171_8 ?_
      refine LI1 e171_9 ?_
      refine K0 e171_10 ?_
      refine WjN (k := i) e171_11 ha rfl (by omega) (by decide) ?_
      refine IncN1 (m := i) e171_12 rfl ?_
      refine Go e171_15 t171_15 ?_
      exact ih (i + 1) _ (by omega) (by omega) (hJ.step (rfl))
set_option maxHeartbeats 2000000 in
theorem m_empties (ha : amA S a 1 9) : Rw 171 [.ref a] S I J R a (fun _ => 0) := by
  show Ex 171 0 [some (.ref a), none] [] S I J R _
  refine Ki e171_0 kiconst_0 ?_
  refine SI1 e171_1 rfl ?_
  exact m_empties_lp ha (fun J' hJ => ⟨rfl, rfl, rfl, hJ.1, hJ.jp (fun _ _ => rfl)⟩) 10 0 J (by omega) (by omega) JU.st
set_option maxHeartbeats 2000000 in
theorem m_copies_lp (ha : amA S a 1 9) (hb : amA S b 1 9) (hab : b ≠ a) (hq : JP J b q) (hQ : ∀ J', JU J J' a 9 (J b) → Q none I J' R) : ∀ (n i : Nat) (J' : amJ), 9 - i < n → i ≤ 9 → JU J J' a i (J b) → Ex 172 2 [some (.ref b), some (.ref a), some (.int (nI i))] [] S I J' R Q := by
  intro n
  induction n with
  | zero => intro i J' h; omega
  | succ n ih =>
    intro i J' h h9 hJ
    refine LI2 e172_2 ?_
    refine Ki e172_3 kbipush_9 ?_
    refine CN_ge (a := i) (b := 9) e172_5 t172_5 rfl (by decide) (by omega) (by omega) (fun h5 => ?_) (fun h5 => ?_)
    · exact Rvd e172_20 rt172 (by
      have e9 : i = 9 := by omega
      subst e9
      exact hQ _ hJ)
    · refine LA1 e172_8 ?_
      refine LI2 e172_9 ?_
      refine LA0 e172_10 ?_
      refine LI2 e172_11 ?_
      refine AjN (k := i) e172_12 hb rfl (by omega) (by decide) ?_
      refine WjN (k := i) e172_13 ha rfl (by omega) (by decide) ?_
      refine IncN2 (m := i) e172_14 rfl ?_
      refine Go e172_17 t172_17 ?_
      exact ih (i + 1) _ (by omega) (by omega) (hJ.step (by rw [hJ.1 b hab]))
set_option maxHeartbeats 2000000 in
theorem m_copies (ha : amA S a 1 9) (hb : amA S b 1 9) (hab : b ≠ a) (hq : JP J b q) : Rw 172 [.ref b, .ref a] S I J R a q := by
  show Ex 172 0 [some (.ref b), some (.ref a), none] [] S I J R _
  refine Ki e172_0 kiconst_0 ?_
  refine SI2 e172_1 rfl ?_
  exact m_copies_lp ha hb hab hq (fun J' hJ => ⟨rfl, rfl, rfl, hJ.1, hJ.jp (fun k hk => hq k hk)⟩) 10 0 J (by omega) (by omega) JU.st
set_option maxHeartbeats 2000000 in
theorem m_turns_lp (ha : amA S a 1 9) (hp : JP J a p) (hQ : ∀ J', JU J J' a 9 (fun k => -J a k) → Q none I J' R) : ∀ (n i : Nat) (J' : amJ), 9 - i < n → i ≤ 9 → JU J J' a i (fun k => -J a k) → Ex 176 2 [some (.ref a), some (.int (nI i))] [] S I J' R Q := by
  intro n
  induction n with
  | zero => intro i J' h; omega
  | succ n ih =>
    intro i J' h h9 hJ
    refine LI1 e176_2 ?_
    refine Ki e176_3 kbipush_9 ?_
    refine CN_ge (a := i) (b := 9) e176_5 t176_5 rfl (by decide) (by omega) (by omega) (fun h5 => ?_) (fun h5 => ?_)
    · exact Rvd e176_21 rt176 (by
      have e9 : i = 9 := by omega
      subst e9
      exact hQ _ hJ)
    · refine LA0 e176_8 ?_
      refine LI1 e176_9 ?_
      refine LA0 e176_10 ?_
      refine LI1 e176_11 ?_
      refine AjN (k := i) e176_12 ha rfl (by omega) (by decide) ?_
      refine Lneg e176_13 ?_
      refine WjN (k := i) e176_14 ha rfl (by omega) (by decide) ?_
      refine IncN1 (m := i) e176_15 rfl ?_
      refine Go e176_18 t176_18 ?_
      exact ih (i + 1) _ (by omega) (by omega) (hJ.step (by rw [hJ.at (Nat.le_refl _)]))
set_option maxHeartbeats 2000000 in
theorem m_turns (ha : amA S a 1 9) (hp : JP J a p) : Rw 176 [.ref a] S I J R a (ng p) := by
  show Ex 176 0 [some (.ref a), none] [] S I J R _
  refine Ki e176_0 kiconst_0 ?_
  refine SI1 e176_1 rfl ?_
  exact m_turns_lp ha hp (fun J' hJ => ⟨rfl, rfl, rfl, hJ.1, hJ.jp (fun k hk => by rw [hp k hk, oI_neg]; rfl)⟩) 10 0 J (by omega) (by omega) JU.st
set_option maxHeartbeats 2000000 in
theorem m_derives_lp (ha : amA S a 1 9) (hb : amA S b 1 9) (hab : b ≠ a) (hQ : ∀ J', JU J J' a 9 (fun k => if k + 1 < 9 then (nI (k + 1)).toInt64 * J b (k + 1) else 0) → Q none I J' R) : ∀ (n i : Nat) (J' : amJ), 9 - i < n → i ≤ 9 → JU J J' a i (fun k => if k + 1 < 9 then (nI (k + 1)).toInt64 * J b (k + 1) else 0) → Ex 178 2 [some (.ref b), some (.ref a), some (.int (nI i))] [] S I J' R Q := by
  intro n
  induction n with
  | zero => intro i J' h; omega
  | succ n ih =>
    intro i J' h h9 hJ
    refine LI2 e178_2 ?_
    refine Ki e178_3 kbipush_9 ?_
    refine CN_ge (a := i) (b := 9) e178_5 t178_5 rfl (by decide) (by omega) (by omega) (fun h5 => ?_) (fun h5 => ?_)
    · exact Rvd e178_39 rt178 (by
      have e9 : i = 9 := by omega
      subst e9
      exact hQ _ hJ)
    · refine LA1 e178_8 ?_
      refine LI2 e178_9 ?_
      refine LI2 e178_10 ?_
      refine Ki e178_11 kiconst_1 ?_
      refine IaddN (a := i) (b := 1) e178_12 rfl (by decide) ?_
      refine Ki e178_13 kbipush_9 ?_
      refine CN_ge (a := (i + 1)) (b := 9) e178_15 t178_15 rfl (by decide) (by omega) (by omega) (fun h15 => ?_) (fun h15 => ?_)
      · refine K0 e178_31 ?_
        refine WjN (k := i) e178_32 ha rfl (by omega) (by decide) ?_
        refine IncN2 (m := i) e178_33 rfl ?_
        refine Go e178_36 t178_36 ?_
        exact ih (i + 1) _ (by omega) (by omega) (hJ.step (by first | (rw [if_pos (by omega), hJ.1 b hab]) | (rw [if_neg (by omega)])))
      · refine LI2 e178_18 ?_
        refine Ki e178_19 kiconst_1 ?_
        refine IaddN (a := i) (b := 1) e178_20 rfl (by decide) ?_
        refine I2l e178_21 ?_
        refine LA0 e178_22 ?_
        refine LI2 e178_23 ?_
        refine Ki e178_24 kiconst_1 ?_
        refine IaddN (a := i) (b := 1) e178_25 rfl (by decide) ?_
        refine AjN (k := (i + 1)) e178_26 hb rfl (by omega) (by decide) ?_
        refine Lmul e178_27 ?_
        refine Go e178_28 t178_28 ?_
        refine WjN (k := i) e178_32 ha rfl (by omega) (by decide) ?_
        refine IncN2 (m := i) e178_33 rfl ?_
        refine Go e178_36 t178_36 ?_
        exact ih (i + 1) _ (by omega) (by omega) (hJ.step (by first | (rw [if_pos (by omega), hJ.1 b hab]) | (rw [if_neg (by omega)])))
set_option maxHeartbeats 2000000 in
theorem m_derives (ha : amA S a 1 9) (hb : amA S b 1 9) (hab : b ≠ a) : ∀ {q : Po}, JP J b q → Rw 178 [.ref b, .ref a] S I J R a (der q) := by
  intro q hq
  show Ex 178 0 [some (.ref b), some (.ref a), none] [] S I J R _
  refine Ki e178_0 kiconst_0 ?_
  refine SI2 e178_1 rfl ?_
  exact m_derives_lp ha hb hab (fun J' hJ => ⟨rfl, rfl, rfl, hJ.1, hJ.jp (fun k hk => by
  unfold der
  by_cases g : k < 8
  · rw [if_pos (by omega), if_pos g, hq (k + 1) (by omega), nI_oI (n := k + 1) (by omega), oI_mul, Int.mul_comm]; rfl
  · rw [if_neg (by omega), if_neg g]; rfl)⟩) 10 0 J (by omega) (by omega) JU.st
set_option maxHeartbeats 2000000 in
theorem m_raises (ha : amA S a 1 9) (hp : JP J a p) (hB : PB 4000000000000000000 p) : Rw 177 [.ref a] S I J R a (up p) := by
  have h9 := sz_le p
  by_cases h0 : sz p = 0
  · have eu : up p = p := by
      funext k
      unfold up hd
      rw [if_pos h0, if_neg (by decide)]
    rw [eu]
    show Ex 177 0 [some (.ref a)] [] S I J R _
    refine LA0 e177_0 ?_
    refine Cs1 e177_1 c177_173 (Nat.le_of_ble_eq_true rfl) (Nat.le_of_ble_eq_true rfl) ((m_degree ha hp hB)) ?_
    refine B_lt e177_4 t177_4 (fun _ => ?_) (fun q => absurd ((dI_neg h9).mpr h0) q)
    exact Rvd e177_20 rt177 (⟨rfl, rfl, rfl, Fr.rf, hp⟩)
  · show Ex 177 0 [some (.ref a)] [] S I J R _
    have hi := hd_iB hB (by decide)
    refine LA0 e177_0 ?_
    refine Cs1 e177_1 c177_173 (Nat.le_of_ble_eq_true rfl) (Nat.le_of_ble_eq_true rfl) ((m_degree ha hp hB)) ?_
    refine B_lt e177_4 t177_4 (fun q => absurd q (fun z => h0 ((dI_neg h9).mp z))) (fun _ => ?_)
    refine LA0 e177_7 ?_
    refine Cs1 e177_8 c177_174 (Nat.le_of_ble_eq_true rfl) (Nat.le_of_ble_eq_true rfl) ((m_head ha hp hB (by omega))) ?_
    refine K0 e177_11 ?_
    refine D_ge e177_12 e177_13 t177_13 (fun h12 => ?_) (fun h12 => ?_)
    · exact Rvd e177_20 rt177 (by
      rw [oI_0, oI_le ⟨by decide, by decide⟩ hi] at h12
      have eu : up p = p := by
        funext k
        unfold up
        rw [if_neg (by omega)]
      rw [eu]
      exact ⟨rfl, rfl, rfl, Fr.rf, hp⟩)
    · refine LA0 e177_16 ?_
      refine Cs1p e177_17 c177_176 (Nat.le_of_ble_eq_true rfl) (Nat.le_of_ble_eq_true rfl) (m_turns ha hp) ?_
      rintro _ I1 J1 R1 ⟨rfl, hI1, hR1, hF1, hP1⟩
      subst hI1
      subst hR1
      exact Rvd e177_20 rt177 (by
      rw [oI_0, oI_le ⟨by decide, by decide⟩ hi] at h12
      have eu : up p = ng p := by
        funext k
        unfold up ng
        rw [if_pos (by omega)]
      rw [eu]
      exact ⟨rfl, rfl, rfl, hF1, hP1⟩)
end REF1
