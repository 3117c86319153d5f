/-! remainders and quotients (printed by wip/whole/t22.py) -/
section POLY4
variable {S : amS} {I : amI} {J : amJ} {R : amR} {Q : amQ} {a b c : Nat} {p q : Po}
/-- one step of a remainder: the number at the power l + t becomes 0 -/
def stp (q : Po) (l t : Nat) (p : Po) : Po := fun k => p k * ((q l).natAbs : Nat) - (if t ≤ k ∧ k < t + (l + 1) then q (k - t) * (if q l < 0 then -p (l + t) else p (l + t)) else 0)
/-- the remainder: t powers from l on are to become 0 -/
def rm (q : Po) (l : Nat) : Nat → Po → Option Po
  | 0, p => some p
  | t + 1, p => if p (l + t) = 0 then rm q l t p else if fit (stp q l t p) = true then rm q l t (cln (stp q l t p)) else none
def rem (p q : Po) : Option Po := if fit p = true then rm q (sz q - 1) (9 - (sz q - 1)) (cln p) else none
theorem fit_PB (h : fit p = true) : PB 1000000 (cln p) := fun k hk => fitN_iff.mp h k hk
theorem mul_b {x y : Int} {B C : Nat} (hx : x.natAbs ≤ B) (hy : y.natAbs ≤ C) : (x * y).natAbs ≤ B * C := by
  rw [Int.natAbs_mul]; exact Nat.mul_le_mul hx hy
theorem stp_PB {l t : Nat} (hp : PB 1000000 p) (hq : PB 1000000 q) (hl : l + t < 9) : PB 4000000000000000000 (stp q l t p) := fun k hk => by
  obtain ⟨a1, a2⟩ := hp k hk
  obtain ⟨b1, b2⟩ := hq l (by omega)
  obtain ⟨c1, c2⟩ := hp (l + t) hl
  have m1 := mul_b (x := p k) (y := ((q l).natAbs : Nat)) (B := 1000000) (C := 1000000) (by omega) (by omega)
  unfold stp
  by_cases g : t ≤ k ∧ k < t + (l + 1)
  · obtain ⟨d1, d2⟩ := hq (k - t) (by omega)
    have m2 := mul_b (x := q (k - t)) (y := if q l < 0 then -p (l + t) else p (l + t)) (B := 1000000) (C := 1000000) (by omega) (by split <;> omega)
    rw [if_pos g]
    exact ⟨by omega, by omega⟩
  · rw [if_neg g]
    exact ⟨by omega, by omega⟩
theorem rm_zero {l : Nat} : ∀ {t : Nat} {p r : Po}, rm q l t p = some r → (∀ k, l + t ≤ k → k < 9 → p k = 0) → ¬ q l = 0 → ∀ k, l ≤ k → k < 9 → r k = 0
  | 0, p, r, h, hz, _, k, h1, h2 => by
    rw [rm] at h; cases h; exact hz k (by omega) h2
  | t + 1, p, r, h, hz, hq, k, h1, h2 => by
    rw [rm] at h
    by_cases e : p (l + t) = 0
    · rw [if_pos e] at h
      refine rm_zero h (fun k g1 g2 => ?_) hq k h1 h2
      by_cases z : k = l + t
      · subst z; exact e
      · exact hz k (by omega) g2
    · rw [if_neg e] at h
      split at h
      · refine rm_zero h (fun k g1 g2 => ?_) hq k h1 h2
        have s0 : stp q l t p k = 0 := by
          unfold stp
          by_cases z : k = l + t
          · subst z
            rw [if_pos ⟨by omega, by omega⟩, Nat.add_sub_cancel]
            by_cases n : q l < 0
            · rw [if_pos n, show (((q l).natAbs : Nat) : Int) = -q l from by omega, Int.mul_neg, Int.mul_neg, Int.mul_comm]; omega
            · rw [if_neg n, show (((q l).natAbs : Nat) : Int) = q l from by omega, Int.mul_comm]; omega
          · rw [if_neg (by omega), hz k (by omega) g2, Int.zero_mul]; rfl
        show (stp q l t p k).tdiv _ = 0
        rw [s0, Int.zero_tdiv]
      · cases h
theorem rm_PB {l : Nat} : ∀ {t : Nat} {p r : Po}, rm q l t p = some r → PB 1000000 p → PB 1000000 r
  | 0, p, r, h, hp => by rw [rm] at h; cases h; exact hp
  | t + 1, p, r, h, hp => by
    rw [rm] at h
    split at h
    · exact rm_PB h hp
    · split at h
      · rename_i e; exact rm_PB h (fit_PB e)
      · cases h
theorem rem_PB {r : Po} (h : rem p q = some r) : PB 1000000 r := by
  unfold rem at h
  split at h
  · rename_i e; exact rm_PB h (fit_PB e)
  · cases h
theorem sz_lt {m : Nat} (h : ∀ k, m ≤ k → k < 9 → p k = 0) : sz p ≤ m := by
  rcases Nat.lt_or_ge m (sz p) with g | g
  · have := sz_head (p := p) (by omega)
    have h9 := sz_le p
    exact absurd (h (sz p - 1) (by omega) (by omega)) this
  · exact g
theorem rem_sz {r : Po} (h : rem p q = some r) (hq : 0 < sz q) : sz r < sz q := by
  unfold rem at h
  have h9 := sz_le q
  split at h
  · have := sz_lt (p := r) (m := sz q - 1) (rm_zero h (fun k g1 g2 => by omega) (sz_head hq))
    omega
  · cases h
/-- what reduce() leaves -/
def RdP (J : amJ) (x : Nat) (o : Option Po) (v : Option Value) (J' : amJ) : Prop := Fr J J' x ∧ ((∃ r, o = some r ∧ v = some (.int 1) ∧ JP J' x r) ∨ (o = none ∧ v = some (.int 0) ∧ ∃ r, PB 4000000000000000000 r ∧ JP J' x r))
abbrev Rd (k : Nat) (as : List Value) (S : amS) (I : amI) (J : amJ) (R : amR) (x : Nat) (o : Option Po) : Prop := Cl k as S I J R (fun v I' J' R' => I' = I ∧ R' = R ∧ RdP J x o v J')
set_option maxHeartbeats 2000000 in
theorem p_red_mul {l t : Nat} {h : Int} (ha : amPO S R a) (hp : JP J (a + 1) p) (hi : iB (q l)) (hQ : ∀ J', JU J J' (a + 1) 9 (fun k => oI (p k * ((q l).natAbs : Nat))) → Ex 18 113 [some (.ref a), some (.ref b), some (.int (nI l)), some (.int 1), some (.long (oI (q l))), none, some (.int (nI (l + t))), some (.long (oI h)), none, some (.int (nI 9))] [] S I J' R Q) : ∀ (n i : Nat) (J' : amJ), 9 - i < n → i ≤ 9 → JU J J' (a + 1) i (fun k => oI (p k * ((q l).natAbs : Nat))) → Ex 18 75 [some (.ref a), some (.ref b), some (.int (nI l)), some (.int 1), some (.long (oI (q l))), none, some (.int (nI (l + t))), some (.long (oI h)), none, some (.int (nI i))] [] S I J' R Q := by
  intro n
  induction n with
  | zero => intro i J' h; omega
  | succ n ih =>
    intro i J' h' h9 hJ
    refine LI9 e18_75 ?_
    refine Ki e18_77 kbipush_9 ?_
    refine CN_ge (a := i) (b := 9) e18_79 t18_79 rfl (by decide) (by omega) (by omega) (fun h79 => ?_) (fun h79 => ?_)
    · have e9 : i = 9 := by omega
      subst e9
      exact hQ _ hJ
    · refine LA0 e18_82 ?_
      refine Gr e18_83 ha.1 ha.2.1 f448 ?_
      refine LI9 e18_86 ?_
      refine Dup2 e18_88 ⟨rfl, rfl⟩ ?_
      refine AjN (k := i) e18_89 ha.2.2 rfl (by omega) (by decide) ?_
      refine LJ4 e18_90 ?_
      refine K0 e18_92 ?_
      refine D_ge e18_93 e18_94 t18_94 (fun h93 => ?_) (fun h93 => ?_)
      · refine LJ4 e18_103 ?_
        refine Lmul e18_105 ?_
        refine WjN (k := i) e18_106 ha.2.2 rfl (by omega) (by decide) ?_
        refine IncN9 (m := i) e18_107 rfl ?_
        refine Go e18_110 t18_110 ?_
        refine ih (i + 1) _ (by omega) (by omega) (hJ.step ?_)
        rw [hJ.at (Nat.le_refl _), hp i (by omega), oI_mul]
        rw [oI_0, oI_le ⟨by decide, by decide⟩ hi] at h93
        congr 2
        omega
      · refine LJ4 e18_97 ?_
        refine Lneg e18_99 ?_
        refine Go e18_100 t18_100 ?_
        refine Lmul e18_105 ?_
        refine WjN (k := i) e18_106 ha.2.2 rfl (by omega) (by decide) ?_
        refine IncN9 (m := i) e18_107 rfl ?_
        refine Go e18_110 t18_110 ?_
        refine ih (i + 1) _ (by omega) (by omega) (hJ.step ?_)
        rw [hJ.at (Nat.le_refl _), hp i (by omega), oI_neg, oI_mul]
        rw [oI_0, oI_le ⟨by decide, by decide⟩ hi] at h93
        congr 2
        omega
/-- the step, of it i subtractions -/
def stpN (p q : Po) (l t : Nat) (h : Int) (i : Nat) : Po := fun k => p k * ((q l).natAbs : Nat) - (if t ≤ k ∧ k < t + i then q (k - t) * h else 0)
set_option maxHeartbeats 2000000 in
theorem p_red_sub {l t : Nat} {h : Int} (ha : amPO S R a) (hb : amPO S R b) (hab : b ≠ a) (hq : JP J (b + 1) q) (hl : l + t < 9) (hQ : ∀ J', Fr J J' (a + 1) → JP J' (a + 1) (stpN p q l t h (l + 1)) → Ex 18 153 [some (.ref a), some (.ref b), some (.int (nI l)), some (.int 1), some (.long (oI (q l))), none, some (.int (nI (l + t))), some (.long (oI h)), none, some (.int (nI (l + 1)))] [] S I J' R Q) : ∀ (n i : Nat) (J' : amJ), 9 - i < n → i ≤ l + 1 → Fr J J' (a + 1) → JP J' (a + 1) (stpN p q l t h i) → Ex 18 116 [some (.ref a), some (.ref b), some (.int (nI l)), some (.int 1), some (.long (oI (q l))), none, some (.int (nI (l + t))), some (.long (oI h)), none, some (.int (nI i))] [] S I J' R Q := by
  intro n
  induction n with
  | zero => intro i J' h; omega
  | succ n ih =>
    intro i J' h' h9 hF hJ
    refine LI9 e18_116 ?_
    refine LI2 e18_118 ?_
    refine CN_gt (a := i) (b := l) e18_119 t18_119 rfl rfl (by omega) (by omega) (fun h119 => ?_) (fun h119 => ?_)
    · have e9 : i = l + 1 := by omega
      subst e9
      exact hQ _ hF hJ
    · refine LA0 e18_122 ?_
      refine Gr e18_123 ha.1 ha.2.1 f448 ?_
      refine LI6 e18_126 ?_
      refine LI2 e18_128 ?_
      refine IsubN (a := (l + t)) (b := l) e18_129 rfl rfl (by omega) ?_
      refine LI9 e18_130 ?_
      refine IaddN (a := ((l + t) - l)) (b := i) e18_132 rfl rfl ?_
      refine Dup2 e18_133 ⟨rfl, rfl⟩ ?_
      refine AjN (k := (((l + t) - l) + i)) e18_134 ha.2.2 rfl (by omega) (by decide) ?_
      refine LA1 e18_135 ?_
      refine Gr e18_136 hb.1 hb.2.1 f448 ?_
      refine LI9 e18_139 ?_
      refine AjN (k := i) e18_141 hb.2.2 rfl (by omega) (by decide) ?_
      refine LJ7 e18_142 ?_
      refine Lmul e18_144 ?_
      refine Lsub e18_145 ?_
      refine WjN (k := (((l + t) - l) + i)) e18_146 ha.2.2 rfl (by omega) (by decide) ?_
      refine IncN9 (m := i) e18_147 rfl ?_
      refine Go e18_150 t18_150 ?_
      refine ih (i + 1) _ (by omega) (by omega) hF.up (fun k hk => ?_)
      rw [hF (b + 1) (by omega), hq i (by omega)]
      have et : l + t - l = t := by omega
      rw [et]
      by_cases e : k = t + i
      · subst e
        rw [amU_same, hJ _ hk, oI_mul, oI_sub]
        unfold stpN
        rw [if_neg (by omega), if_pos ⟨by omega, by omega⟩, Nat.add_sub_cancel_left, Int.sub_zero]
      · rw [amU_ni e, hJ k hk]
        unfold stpN
        by_cases g : t ≤ k ∧ k < t + i
        · rw [if_pos g, if_pos ⟨g.1, by omega⟩]
        · rw [if_neg g, if_neg (by omega)]
set_option maxHeartbeats 2000000 in
theorem p_red_lp {l : Nat} (ha : amPO S R a) (hb : amPO S R b) (hab : b ≠ a) (hq : JP J (b + 1) q) (hqB : PB 1000000 q) (hl : l < 9) : ∀ (t : Nat) (p : Po) (J' : amJ) (l7 l9 : Option Value), l + t ≤ 9 → Fr J J' (a + 1) → JP J' (a + 1) p → PB 1000000 p → Ex 18 28 [some (.ref a), some (.ref b), some (.int (nI l)), some (.int 1), some (.long (oI (q l))), none, some (.int (dI (l + t))), l7, none, l9] [] S I J' R (fun v I' J' R' => I' = I ∧ R' = R ∧ RdP J (a + 1) (rm q l t p) v J') := by
  intro t
  induction t with
  | zero =>
    intro p J' l7 l9 ht hF hJ hB
    have hlt : dI (l + 0) < nI l := by
      rw [Int32.lt_iff_toInt_lt, dI_toInt (by omega), nI_toInt (by omega)]; omega
    refine LI6 e18_28 ?_
    refine LI2 e18_30 ?_
    refine C_lt e18_31 t18_31 (fun _ => ?_) (fun q => absurd (hlt) q)
    refine LI3 e18_164 ?_
    exact Rz e18_165 rt18 (by decide) (⟨rfl, rfl, hF, Or.inl ⟨p, rfl, rfl, hJ⟩⟩)
  | succ t ih =>
    intro p J' l7 l9 ht hF hJ hB
    show Ex 18 28 [some (.ref a), some (.ref b), some (.int (nI l)), some (.int 1), some (.long (oI (q l))), none, some (.int (nI (l + t))), l7, none, l9] [] S I J' R _
    have hpB : PB 4000000000000000000 p := hB.mono (by decide)
    have hb0 := hpB.iB (k := l + t) (by decide) (by omega)
    have hq0 := (hqB.mono (C := 4000000000000000000) (by decide)).iB (k := l) (by decide) (by omega)
    have K : ∀ h : Int, h = (if q l < 0 then -p (l + t) else p (l + t)) → iB h → Ex 18 63 [some (.ref a), some (.ref b), some (.int (nI l)), some (.int 1), some (.long (oI (q l))), none, some (.int (nI (l + t))), l7, none, l9] [.long (oI h)] S I J' R (fun v I' J' R' => I' = I ∧ R' = R ∧ RdP J (a + 1) (rm q l (t + 1) p) v J') := by
      intro h hh hhB
      refine SJ7 e18_63 rfl ?_
      refine LJ7 e18_65 ?_
      refine K0 e18_67 ?_
      refine D_eq e18_68 e18_69 t18_69 (fun h68 => ?_) (fun h68 => ?_)
      · refine Inc6 (d := (-1)) e18_158 rfl rfl ?_
        refine Go e18_161 t18_161 ?_
        rw [show (nI (l + t) + (-1) : Int32) = dI (l + t) from dI_dec _]
        rw [rm, if_pos (by
          have := h68
          rw [oI_0, oI_eq hhB ⟨by decide, by decide⟩, hh] at this
          split at this <;> omega)]
        exact ih _ _ _ _ (by omega) hF hJ hB
      · refine Ki e18_72 kiconst_0 ?_
        refine SI9 e18_73 rfl ?_
        have h0 : ¬ p (l + t) = 0 := fun z => h68 (by rw [oI_0, oI_eq hhB ⟨by decide, by decide⟩, hh, z]; split <;> rfl)
        refine p_red_mul ha hJ hq0 (fun J2 hJ2 => ?_) 10 0 J' (by omega) (by omega) JU.st
        refine Ki e18_113 kiconst_0 ?_
        refine SI9 e18_114 rfl ?_
        refine p_red_sub (p := p) (q := q) ha hb hab (hq.fr (hF.tr hJ2.1) (by omega)) (by omega) (fun J3 hF3 hJ3' => ?_) 10 0 J2 (by omega) (by omega) Fr.rf (fun k hk => by rw [hJ2.2 k, if_pos hk]; unfold stpN; rw [if_neg (by omega), Int.sub_zero])
        have hJ3 : JP J3 (a + 1) (stp q l t p) := hJ3'.cg (fun k _ => by unfold stpN stp; rw [hh])
        refine LA0 e18_153 ?_
        refine Cv0p e18_154 c18_17 ha.1 (Nat.le_of_ble_eq_true rfl) (Nat.le_of_ble_eq_true rfl) (p_clean ha hJ3 (stp_PB hB hqB (by omega))) ?_
        rintro _ _ J4 _ ⟨rfl, rfl, rfl, hF4, hJ4⟩
        refine SI3 e18_157 rfl ?_
        refine Inc6 (d := (-1)) e18_158 rfl rfl ?_
        refine Go e18_161 t18_161 ?_
        rw [show (nI (l + t) + (-1) : Int32) = dI (l + t) from dI_dec _]
        rw [rm, if_neg h0]
        by_cases e : fit (stp q l t p) = true
        · rw [e, if_pos rfl]
          exact ih _ _ _ _ (by omega) ((hF.tr (hJ2.1.tr hF3)).tr hF4) hJ4 (fit_PB e)
        · rw [if_neg e, show bI (fit (stp q l t p)) = 0 from by rw [Bool.not_eq_true] at e; rw [e]; rfl]
          by_cases hlt : dI (l + t) < nI l
          · refine LI6 e18_28 ?_
            refine LI2 e18_30 ?_
            refine C_lt e18_31 t18_31 (fun _ => ?_) (fun q => absurd (hlt) q)
            refine LI3 e18_164 ?_
            exact Rz e18_165 rt18 (by decide) (⟨rfl, rfl, ((hF.tr (hJ2.1.tr hF3)).tr hF4), Or.inr ⟨rfl, rfl, _, cln_PB (stp_PB hB hqB (by omega)), hJ4⟩⟩)
          · refine LI6 e18_28 ?_
            refine LI2 e18_30 ?_
            refine C_lt e18_31 t18_31 (fun q => absurd q (hlt)) (fun _ => ?_)
            refine LI3 e18_34 ?_
            refine B_eq e18_35 t18_35 (fun _ => ?_) (fun q => absurd (rfl) q)
            refine LI3 e18_164 ?_
            exact Rz e18_165 rt18 (by decide) (⟨rfl, rfl, ((hF.tr (hJ2.1.tr hF3)).tr hF4), Or.inr ⟨rfl, rfl, _, cln_PB (stp_PB hB hqB (by omega)), hJ4⟩⟩)
    refine LI6 e18_28 ?_
    refine LI2 e18_30 ?_
    refine CN_lt (a := (l + t)) (b := l) e18_31 t18_31 rfl rfl (by omega) (by omega) (fun q => absurd q (by omega)) (fun _ => ?_)
    refine LI3 e18_34 ?_
    refine B_eq e18_35 t18_35 (fun q => absurd q (by decide)) (fun _ => ?_)
    refine LJ4 e18_38 ?_
    refine K0 e18_40 ?_
    refine D_ge e18_41 e18_42 t18_42 (fun h41 => ?_) (fun h41 => ?_)
    · refine LA0 e18_56 ?_
      refine Gr e18_57 ha.1 ha.2.1 f448 ?_
      refine LI6 e18_60 ?_
      refine AjN (k := (l + t)) e18_62 ha.2.2 rfl (by omega) (by decide) ?_
      rw [hJ (l + t) (by omega)]
      refine K _ ?_ hb0
      rw [oI_0, oI_le ⟨by decide, by decide⟩ hq0] at h41
      rw [if_neg (by omega)]
    · refine LA0 e18_45 ?_
      refine Gr e18_46 ha.1 ha.2.1 f448 ?_
      refine LI6 e18_49 ?_
      refine AjN (k := (l + t)) e18_51 ha.2.2 rfl (by omega) (by decide) ?_
      refine Lneg e18_52 ?_
      refine Go e18_53 t18_53 ?_
      rw [hJ (l + t) (by omega), oI_neg]
      refine K _ ?_ ⟨by have := hb0.1; have := hb0.2; omega, by have := hb0.1; have := hb0.2; omega⟩
      rw [oI_0, oI_le ⟨by decide, by decide⟩ hq0] at h41
      rw [if_pos (by omega)]
set_option maxHeartbeats 2000000 in
theorem p_reduce (ha : amPO S R a) (hb : amPO S R b) (hab : b ≠ a) (hp : JP J (a + 1) p) (hB : PB 4000000000000000000 p) (hq : JP J (b + 1) q) (hqB : PB 1000000 q) (h0 : 0 < sz q) : Rd 18 [.ref a, .ref b] S I J R (a + 1) (rem p q) := by
  have h9 := sz_le q
  obtain ⟨l, hl⟩ : ∃ l, sz q = l + 1 := ⟨sz q - 1, by omega⟩
  show Ex 18 0 [some (.ref a), some (.ref b), none, none, none, none, none, none, none, none] [] S I J R _
  refine LA1 e18_0 ?_
  refine Cv0 e18_1 c18_5 hb.1 (Nat.le_of_ble_eq_true rfl) (Nat.le_of_ble_eq_true rfl) (p_degree hb hq (hqB.mono (by decide))) ?_
  rw [hl]
  show Ex 18 4 [some (.ref a), some (.ref b), none, none, none, none, none, none, none, none] [.int (nI l)] S I J R _
  refine SI2 e18_4 rfl ?_
  refine LA0 e18_5 ?_
  refine Cv0p e18_6 c18_17 ha.1 (Nat.le_of_ble_eq_true rfl) (Nat.le_of_ble_eq_true rfl) (p_clean ha hp hB) ?_
  rintro _ I2 J2 R2 ⟨rfl, rfl, rfl, hF, hJ⟩
  refine SI3 e18_9 rfl ?_
  refine LI2 e18_10 ?_
  refine B_ge e18_11 t18_11 (fun _ => ?_) (fun q => absurd (Int32.not_lt.mp (nI_pos (by omega))) q)
  refine LA1 e18_16 ?_
  refine Gr e18_17 hb.1 hb.2.1 f448 ?_
  refine LI2 e18_20 ?_
  refine AjN (k := l) e18_21 hb.2.2 rfl (by omega) (by decide) ?_
  rw [hF (b + 1) (by omega), hq l (by omega)]
  refine SJ4 e18_22 rfl ?_
  refine Ki e18_24 kbipush_8 ?_
  refine SI6 e18_26 rfl ?_
  unfold rem
  rw [hl]
  by_cases e : fit p = true
  · rw [e, if_pos rfl]
    have := p_red_lp (S := S) (I := I2) (R := R2) (l := l) ha hb hab hq hqB (by omega) (9 - l) (cln p) J2 none none (by omega) hF hJ (fit_PB e)
    rw [show l + (9 - l) = 9 from by omega] at this
    exact this
  · rw [if_neg e, show bI (fit p) = 0 from by rw [Bool.not_eq_true] at e; rw [e]; rfl]
    refine LI6 e18_28 ?_
    refine LI2 e18_30 ?_
    refine CN_lt (a := 8) (b := l) e18_31 t18_31 (by decide) rfl (by omega) (by omega) (fun q => absurd q (by omega)) (fun _ => ?_)
    refine LI3 e18_34 ?_
    refine B_eq e18_35 t18_35 (fun _ => ?_) (fun q => absurd (rfl) q)
    refine LI3 e18_164 ?_
    exact Rz e18_165 rt18 (by decide) (⟨rfl, rfl, hF, Or.inr ⟨rfl, rfl, _, cln_PB hB, hJ⟩⟩)
/-- of what d times s has at k: what the first n of s bring -/
def dvN (d s : Po) (l k : Nat) : Nat → Int
  | 0 => 0
  | j + 1 => dvN d s l k j + (if j ≤ k ∧ k ≤ j + l then s j * d (k - j) else 0)
theorem dvN_high {d s : Po} {l k : Nat} : ∀ {t : Nat}, l + t ≤ k → dvN d s l k t = 0
  | 0, _ => rfl
  | t + 1, h => by
    rw [dvN, dvN_high (t := t) (by omega), if_neg (by omega)]; rfl
def dvR (d s : Po) (l t : Nat) : Po := fun k => if l + t ≤ k then s (k - l) else dvN d s l k t
def dvI (d s : Po) (l t i : Nat) : Po := fun k => if l + t ≤ k then s (k - l) else if l + t < k + i then dvN d s l k t else dvN d s l k (t + 1)
variable {s : Po} {l t : Nat}
set_option maxHeartbeats 2000000 in
theorem p_dv_in (ha : amPO S R a) (hb : amPO S R b) (hab : b ≠ a) (hq : JP J (b + 1) q) (hl : l + t < 9) (hQ : ∀ J', Fr J J' (a + 1) → JP J' (a + 1) (dvI q s l t (l + 1)) → Ex 19 84 [some (.ref a), some (.ref b), some (.int (nI l)), some (.long (oI (q l))), none, some (.int (nI (l + t))), some (.int (nI (l + 1)))] [] S I J' R Q) : ∀ (n i : Nat) (J' : amJ), 10 - i < n → 1 ≤ i → i ≤ l + 1 → Fr J J' (a + 1) → JP J' (a + 1) (dvI q s l t i) → Ex 19 42 [some (.ref a), some (.ref b), some (.int (nI l)), some (.long (oI (q l))), none, some (.int (nI (l + t))), some (.int (nI i))] [] S I J' R Q := by
  intro n
  induction n with
  | zero => intro i J' h; omega
  | succ n ih =>
    intro i J' h' h1 h9 hF hJ
    refine LI6 e19_42 ?_
    refine LI2 e19_44 ?_
    refine CN_gt (a := i) (b := l) e19_45 t19_45 rfl rfl (by omega) (by omega) (fun h45 => ?_) (fun h45 => ?_)
    · have e9 : i = l + 1 := by omega
      subst e9
      exact hQ _ hF hJ
    · refine LA0 e19_48 ?_
      refine Gr e19_49 ha.1 ha.2.1 f448 ?_
      refine LI5 e19_52 ?_
      refine LI6 e19_54 ?_
      refine IsubN (a := (l + t)) (b := i) e19_56 rfl rfl (by omega) ?_
      refine Dup2 e19_57 ⟨rfl, rfl⟩ ?_
      refine AjN (k := ((l + t) - i)) e19_58 ha.2.2 rfl (by omega) (by decide) ?_
      refine LA0 e19_59 ?_
      refine Gr e19_60 ha.1 ha.2.1 f448 ?_
      refine LI5 e19_63 ?_
      refine AjN (k := (l + t)) e19_65 ha.2.2 rfl (by omega) (by decide) ?_
      refine LA1 e19_66 ?_
      refine Gr e19_67 hb.1 hb.2.1 f448 ?_
      refine LI2 e19_70 ?_
      refine LI6 e19_71 ?_
      refine IsubN (a := l) (b := i) e19_73 rfl rfl (by omega) ?_
      refine AjN (k := (l - i)) e19_74 hb.2.2 rfl (by omega) (by decide) ?_
      refine Lmul e19_75 ?_
      refine Lsub e19_76 ?_
      refine WjN (k := ((l + t) - i)) e19_77 ha.2.2 rfl (by omega) (by decide) ?_
      refine IncN6 (m := i) e19_78 rfl ?_
      refine Go e19_81 t19_81 ?_
      refine ih (i + 1) _ (by omega) (by omega) (by omega) hF.up (fun k hk => ?_)
      rw [hF (b + 1) (by omega), hq (l - i) (by omega), hJ (l + t - i) (by omega), hJ (l + t) (by omega)]
      by_cases e : k = l + t - i
      · subst e
        rw [amU_same]
        rw [show dvI q s l t i (l + t) = s t from by unfold dvI; rw [if_pos (Nat.le_refl _), Nat.add_sub_cancel_left]]
        rw [show dvI q s l t i (l + t - i) = dvN q s l (l + t - i) t + s t * q (l - i) from by
          unfold dvI
          rw [if_neg (by omega), if_neg (by omega), dvN, if_pos ⟨by omega, by omega⟩, show l + t - i - t = l - i from by omega]]
        rw [oI_mul, oI_sub, Int.add_sub_cancel]
        unfold dvI
        rw [if_neg (by omega), if_pos (by omega)]
      · rw [amU_ni e, hJ k hk]
        unfold dvI
        by_cases g : l + t ≤ k
        · rw [if_pos g, if_pos g]
        · rw [if_neg g, if_neg g]
          by_cases g2 : l + t < k + i
          · rw [if_pos g2, if_pos (by omega)]
          · rw [if_neg g2, if_neg (by omega)]
set_option maxHeartbeats 2000000 in
theorem p_dv_lp (ha : amPO S R a) (hb : amPO S R b) (hab : b ≠ a) (hq : JP J (b + 1) q) (hq0 : ¬ q l = 0) (hqB : iB (q l)) (hsB : ∀ k, k + l < 9 → iB (s k * q l)) (hQ : ∀ J' l6, Fr J J' (a + 1) → JP J' (a + 1) (dvR q s l 0) → Ex 19 90 [some (.ref a), some (.ref b), some (.int (nI l)), some (.long (oI (q l))), none, some (.int (dI (l + 0))), l6] [] S I J' R Q) : ∀ (t : Nat) (J' : amJ) (l6 : Option Value), l + t ≤ 9 → Fr J J' (a + 1) → JP J' (a + 1) (dvR q s l t) → Ex 19 22 [some (.ref a), some (.ref b), some (.int (nI l)), some (.long (oI (q l))), none, some (.int (dI (l + t))), l6] [] S I J' R Q := by
  intro t
  induction t with
  | zero =>
    intro J' l6 ht hF hJ
    have hlt : dI (l + 0) < nI l := by
      rw [Int32.lt_iff_toInt_lt, dI_toInt (by omega), nI_toInt (by omega)]; omega
    refine LI5 e19_22 ?_
    refine LI2 e19_24 ?_
    refine C_lt e19_25 t19_25 (fun _ => ?_) (fun q => absurd (hlt) q)
    exact hQ _ _ hF hJ
  | succ t ih =>
    intro J' l6 ht hF hJ
    show Ex 19 22 [some (.ref a), some (.ref b), some (.int (nI l)), some (.long (oI (q l))), none, some (.int (nI (l + t))), l6] [] S I J' R _
    have hnz : ¬ oI (q l) = 0 := fun z => hq0 (by rw [oI_0, oI_eq hqB ⟨by decide, by decide⟩] at z; exact z)
    have hv : J' (a + 1) (l + t) / oI (q l) = oI (s t) := by
      rw [hJ (l + t) (by omega), show dvR q s l (t + 1) (l + t) = s t * q l from by
        unfold dvR
        rw [if_neg (by omega), dvN, dvN_high (by omega), if_pos ⟨by omega, by omega⟩, Nat.add_sub_cancel, Int.zero_add], oI_div (hsB t (by omega)) hqB, Int.mul_tdiv_cancel _ hq0]
    refine LI5 e19_22 ?_
    refine LI2 e19_24 ?_
    refine CN_lt (a := (l + t)) (b := l) e19_25 t19_25 rfl rfl (by omega) (by omega) (fun q => absurd q (by omega)) (fun _ => ?_)
    refine LA0 e19_28 ?_
    refine Gr e19_29 ha.1 ha.2.1 f448 ?_
    refine LI5 e19_32 ?_
    refine Dup2 e19_34 ⟨rfl, rfl⟩ ?_
    refine AjN (k := (l + t)) e19_35 ha.2.2 rfl (by omega) (by decide) ?_
    refine LJ3 e19_36 ?_
    refine Ldiv e19_37 hnz ?_
    refine WjN (k := (l + t)) e19_38 ha.2.2 rfl (by omega) (by decide) ?_
    refine Ki e19_39 kiconst_1 ?_
    refine SI6 e19_40 rfl ?_
    rw [hv]
    refine p_dv_in (s := s) ha hb hab hq (by omega) (fun J2 hF2 hJ2 => ?_) 10 1 _ (by omega) (by omega) (by omega) hF.up (fun k hk => ?_)
    · refine Inc5 (d := (-1)) e19_84 rfl rfl ?_
      refine Go e19_87 t19_87 ?_
      rw [dI_dec]
      refine ih _ _ (by omega) hF2 (hJ2.cg (fun k hk => ?_))
      unfold dvI dvR
      by_cases g : l + t ≤ k
      · rw [if_pos g, if_pos g]
      · rw [if_neg g, if_neg g]
        by_cases g2 : l + t < k + (l + 1)
        · rw [if_pos g2]
        · rw [if_neg g2, dvN, if_neg (by omega), Int.add_zero]
    · by_cases e : k = l + t
      · subst e
        rw [amU_same]
        unfold dvI
        rw [if_pos (Nat.le_refl _), Nat.add_sub_cancel_left]
      · rw [amU_ni e, hJ k hk]
        unfold dvR dvI
        by_cases g : l + t ≤ k
        · rw [if_pos (by omega), if_pos g]
        · rw [if_neg (by omega), if_neg g, if_neg (by omega)]
set_option maxHeartbeats 2000000 in
theorem p_dv_end {J1 : amJ} {l6 : Option Value} (ha : amPO S R a) (hl : l < 9) (hJ1 : JP J1 (a + 1) (dvR q s l 0)) (hz : ∀ k, k < 9 → 9 ≤ k + l → s k = 0) (hQ : ∀ J', JU J1 J' (a + 1) 9 (fun k => oI (s k)) → Q none I J' R) : ∀ (n i : Nat) (J' : amJ), 9 - i < n → i ≤ 9 → JU J1 J' (a + 1) i (fun k => oI (s k)) → Ex 19 93 [some (.ref a), some (.ref b), some (.int (nI l)), some (.long (oI (q l))), none, some (.int (nI i)), l6] [] S I J' R Q := by
  intro n
  induction n with
  | zero => intro i J' h; omega
  | succ n ih =>
    intro i J' h' h9 hJ
    have hv : i < 9 → atv J' a (nI (i + l)) = oI (s i) := by
      intro hi
      by_cases g : i + l < 9
      · rw [atv_n g, hJ.at (by omega), hJ1 _ g]
        unfold dvR
        rw [if_pos (by omega), Nat.add_sub_cancel]
      · rw [atv_no (Or.inr (by rw [nI_toInt (by omega)]; omega)), hz i hi (by omega)]; rfl
    refine LI5 e19_93 ?_
    refine Ki e19_95 kbipush_9 ?_
    refine CN_ge (a := i) (b := 9) e19_97 t19_97 rfl (by decide) (by omega) (by omega) (fun h97 => ?_) (fun h97 => ?_)
    · exact Rvd e19_121 rt19 (by
      have e9 : i = 9 := by omega
      subst e9
      exact hQ _ hJ)
    · refine LA0 e19_100 ?_
      refine Gr e19_101 ha.1 ha.2.1 f448 ?_
      refine LI5 e19_104 ?_
      refine LA0 e19_106 ?_
      refine LI5 e19_107 ?_
      refine LI2 e19_109 ?_
      refine IaddN (a := i) (b := l) e19_110 rfl rfl ?_
      refine Cv1 e19_111 c19_3 ha.1 (Nat.le_of_ble_eq_true rfl) (Nat.le_of_ble_eq_true rfl) ((hv (by omega) ▸ p_at ha _ : Rv 3 [.ref a, .int (nI (i + l))] S I J' R (.long (oI (s i))))) ?_
      refine WjN (k := i) e19_114 ha.2.2 rfl (by omega) (by decide) ?_
      refine IncN5 (m := i) e19_115 rfl ?_
      refine Go e19_118 t19_118 ?_
      exact ih (i + 1) _ (by omega) (by omega) (hJ.step rfl)
set_option maxHeartbeats 2000000 in
theorem p_divide (ha : amPO S R a) (hb : amPO S R b) (hab : b ≠ a) (hp : JP J (a + 1) p) (hq : JP J (b + 1) q) (hqB : PB 4000000000000000000 q) (hl : sz q = l + 1) (hs : ∀ k, k < 9 → p k = dvN q s l k (9 - l)) (hz : ∀ k, k < 9 → 9 ≤ k + l → s k = 0) (hsB : ∀ k, k + l < 9 → iB (s k * q l)) : Rw 19 [.ref a, .ref b] S I J R (a + 1) s := by
  have h9 := sz_le q
  have hq0 : ¬ q l = 0 := by
    have := sz_head (p := q) (by omega)
    rw [hl] at this
    exact this
  have hi : iB (q l) := hqB.iB (by decide) (by omega)
  have hd : Rv 5 [.ref b] S I J R (.int (nI l)) := by
    have := p_degree (S := S) (I := I) hb hq hqB
    rw [hl] at this
    exact this
  have ht : Rv 3 [.ref b, .int (nI l)] S I J R (.long (oI (q l))) := by
    have := p_at (S := S) (I := I) (J := J) hb (nI l)
    rw [atv_n (by omega), hq l (by omega)] at this
    exact this
  show Ex 19 0 [some (.ref a), some (.ref b), none, none, none, none, none] [] S I J R _
  refine LA1 e19_0 ?_
  refine Cv0 e19_1 c19_5 hb.1 (Nat.le_of_ble_eq_true rfl) (Nat.le_of_ble_eq_true rfl) (hd) ?_
  refine SI2 e19_4 rfl ?_
  refine LA1 e19_5 ?_
  refine LI2 e19_6 ?_
  refine Cv1 e19_7 c19_3 hb.1 (Nat.le_of_ble_eq_true rfl) (Nat.le_of_ble_eq_true rfl) (ht) ?_
  refine SJ3 e19_10 rfl ?_
  refine LJ3 e19_11 ?_
  refine K0 e19_12 ?_
  refine D_ne e19_13 e19_14 t19_14 (fun _ => ?_) (fun q => absurd (fun z => hq0 (by rw [oI_0, oI_eq hi ⟨by decide, by decide⟩] at z; exact z)) q)
  refine Ki e19_18 kbipush_8 ?_
  refine SI5 e19_20 rfl ?_
  have := p_dv_lp (S := S) (I := I) (R := R) (s := s) ha hb hab hq hq0 hi hsB (Q := fun v I' J' R' => v = none ∧ I' = I ∧ R' = R ∧ Fr J J' (a + 1) ∧ JP J' (a + 1) s) (fun J1 l6 hF hJ1 => ?_) (9 - l) J none (by omega) Fr.rf (hp.cg (fun k hk => by
    unfold dvR
    rw [if_neg (by omega)]
    exact hs k hk))
  · rw [show l + (9 - l) = 9 from by omega] at this
    exact this
  · refine Ki e19_90 kiconst_0 ?_
    refine SI5 e19_91 rfl ?_
    exact p_dv_end ha (by omega) hJ1 hz (fun J' hJ => ⟨rfl, rfl, rfl, hF.tr hJ.1, hJ.jp (fun _ _ => rfl)⟩) 10 0 J1 (by omega) (by omega) JU.st
end POLY4
