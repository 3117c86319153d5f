/-! the reference: remainder (printed by wip/whole/t66.py) -/
theorem rm_skip {q : Po} {l : Nat} {r : Po} : ∀ {t m : Nat}, (∀ k, l + t ≤ k → k < l + (t + m) → r k = 0) → rm q l (t + m) r = rm q l t r
  | t, 0, _ => rfl
  | t, m + 1, h => by
    show rm q l (t + m + 1) r = rm q l t r
    rw [rm, if_pos (h (l + (t + m)) (by omega) (by omega))]
    exact rm_skip (fun k g1 g2 => h k g1 (by omega))
/-- what remainder() leaves -/
def RmP (I : amI) (J : amJ) (c : Nat) (o : Option Po) (I' : amI) (J' : amJ) : Prop := FlI I I' ∧ Fr J J' c ∧ ((∃ r, o = some r ∧ I' 152 9 = 0 ∧ JP J' c r) ∨ (o = none ∧ I' 152 9 = 1 ∧ ∃ r, PB 4000000000000000000 r ∧ JP J' c r))
theorem RmP.tr {I I1 I' : amI} {J J1 J' : amJ} {c : Nat} {o : Option Po} (h : RmP I1 J1 c o I' J') (h1 : FlI I I1) (h2 : Fr J J1 c) : RmP I J c o I' J' := ⟨h1.tr h.1, h2.tr h.2.1, h.2.2⟩
theorem sgn_mul {x : Int64} {y : Int} (hy : iB y) : x * (sgl (oI y)).toInt64 = if y < 0 then -x else if 0 < y then x else 0 := by
  have h1 : oI y < 0 ↔ y < 0 := by rw [oI_0]; exact oI_lt hy ⟨by decide, by decide⟩
  have h2 : 0 < oI y ↔ 0 < y := by rw [oI_0]; exact oI_lt ⟨by decide, by decide⟩ hy
  unfold sgl
  by_cases g : y < 0
  · rw [if_pos (h1.mpr g), if_pos g, show (-1 : Int32).toInt64 = -1 from by decide, Int64.mul_neg, Int64.mul_one]
  · rw [if_neg (fun z => g (h1.mp z)), if_neg g]
    by_cases g2 : 0 < y
    · rw [if_pos (h2.mpr g2), if_pos g2, show (1 : Int32).toInt64 = 1 from by decide, Int64.mul_one]
    · rw [if_neg (fun z => g2 (h2.mp z)), if_neg g2, show (0 : Int32).toInt64 = 0 from by decide, Int64.mul_zero]
theorem stp_top {q r : Po} {l t : Nat} (hl : sz q = l + 1) (hq0 : ¬ q l = 0) (hlt : l + t < 9) (hz : ∀ k, l + t + 1 ≤ k → k < 9 → r k = 0) : ∀ k, l + t ≤ k → k < 9 → stp q l t r k = 0 := fun k g1 g2 => by
  unfold stp
  by_cases e : k = l + t
  · subst e
    rw [if_pos ⟨by omega, by omega⟩, show l + t - t = l by omega]
    by_cases g : q l < 0
    · rw [if_pos g]
      have e2 : (((q l).natAbs : Nat) : Int) = -q l := by omega
      rw [e2, Int.mul_neg, Int.mul_neg, Int.mul_comm]
      omega
    · rw [if_neg g]
      have e2 : (((q l).natAbs : Nat) : Int) = q l := by omega
      rw [e2, Int.mul_comm]
      omega
  · rw [if_neg (by omega), hz k (by omega) g2, Int.zero_mul]
    rfl
section REF3
variable {L : Nat} {I : amI} {J : amJ} {R : amR} {Q : amQ} {a b c : Nat} {p q r : Po} {l t : Nat} {h : Int}
set_option maxHeartbeats 2000000 in
theorem m_rm_mul (hc : amA (amSH L) c 1 9) (hr : JP J c r) (hi : iB (q l)) (hQ : ∀ J', JU J J' c 9 (fun k => oI (r k * ((q l).natAbs : Nat))) → Ex 179 85 [some (.ref 152), some (.ref a), some (.ref b), some (.ref c), some (.int (nI l)), some (.long (oI (q l))), none, some (.int (nI (l + t))), some (.long (oI h)), none, some (.int (nI 9))] [] (amSH L) I J' R Q) : ∀ (n i : Nat) (J' : amJ), 9 - i < n → i ≤ 9 → JU J J' c i (fun k => oI (r k * ((q l).natAbs : Nat))) → Ex 179 60 [some (.ref 152), some (.ref a), some (.ref b), some (.ref c), some (.int (nI l)), some (.long (oI (q l))), none, some (.int (nI (l + t))), some (.long (oI h)), none, some (.int (nI i))] [] (amSH L) I J' R Q := by
  intro n
  induction n with
  | zero => intro i J' h; omega
  | succ n ih =>
    intro i J' h h9 hJ
    refine LI10 e179_60 ?_
    refine Ki e179_62 kbipush_9 ?_
    refine CN_ge (a := i) (b := 9) e179_64 t179_64 rfl (by decide) (by omega) (by omega) (fun h64 => ?_) (fun h64 => ?_)
    · have e9 : i = 9 := by omega
      subst e9
      exact hQ _ hJ
    · refine LA3 e179_67 ?_
      refine LI10 e179_68 ?_
      refine Dup2 e179_70 ⟨rfl, rfl⟩ ?_
      refine AjN (k := i) e179_71 hc rfl (by omega) (by decide) ?_
      rw [hJ.at (Nat.le_refl _), hr i (by omega)]
      refine LJ5 e179_72 ?_
      refine Cs1 e179_74 c179_153 (Nat.le_of_ble_eq_true rfl) (Nat.le_of_ble_eq_true rfl) ((m_size hi)) ?_
      refine Lmul e179_77 ?_
      rw [oI_mul]
      refine WjN (k := i) e179_78 hc rfl (by omega) (by decide) ?_
      refine IncN10 (m := i) e179_79 rfl ?_
      refine Go e179_82 t179_82 ?_
      exact ih (i + 1) _ (by omega) (by omega) (hJ.step rfl)
set_option maxHeartbeats 2000000 in
theorem m_rm_sub (hb : amA (amSH L) b 1 9) (hc : amA (amSH L) c 1 9) (hbc : b ≠ c) (hq : JP J b q) (hl : l + t < 9) (hQ : ∀ J', Fr J J' c → JP J' c (stpN r q l t h (l + 1)) → Ex 179 121 [some (.ref 152), some (.ref a), some (.ref b), some (.ref c), some (.int (nI l)), some (.long (oI (q l))), none, some (.int (nI (l + t))), some (.long (oI h)), none, some (.int (nI (l + 1)))] [] (amSH L) I J' R Q) : ∀ (n i : Nat) (J' : amJ), 10 - i < n → i ≤ l + 1 → Fr J J' c → JP J' c (stpN r q l t h i) → Ex 179 88 [some (.ref 152), some (.ref a), some (.ref b), some (.ref c), some (.int (nI l)), some (.long (oI (q l))), none, some (.int (nI (l + t))), some (.long (oI h)), none, some (.int (nI i))] [] (amSH L) I J' R Q := by
  intro n
  induction n with
  | zero => intro i J' h; omega
  | succ n ih =>
    intro i J' h' h9 hF hJ
    refine LI10 e179_88 ?_
    refine LI4 e179_90 ?_
    refine CN_gt (a := i) (b := l) e179_92 t179_92 rfl rfl (by omega) (by omega) (fun h92 => ?_) (fun h92 => ?_)
    · have e9 : i = l + 1 := by omega
      subst e9
      exact hQ _ hF hJ
    · refine LA3 e179_95 ?_
      refine LI10 e179_96 ?_
      refine LI7 e179_98 ?_
      refine IaddN (a := i) (b := (l + t)) e179_100 rfl rfl ?_
      refine LI4 e179_101 ?_
      refine IsubN (a := (i + (l + t))) (b := l) e179_103 rfl rfl (by omega) ?_
      rw [show i + (l + t) - l = t + i by omega]
      refine Dup2 e179_104 ⟨rfl, rfl⟩ ?_
      refine AjN (k := (t + i)) e179_105 hc rfl (by omega) (by decide) ?_
      rw [hJ (t + i) (by omega)]
      refine LA2 e179_106 ?_
      refine LI10 e179_107 ?_
      refine AjN (k := i) e179_109 hb rfl (by omega) (by decide) ?_
      rw [hF b hbc, hq i (by omega)]
      refine LJ8 e179_110 ?_
      refine Lmul e179_112 ?_
      refine Lsub e179_113 ?_
      rw [oI_mul, oI_sub]
      refine WjN (k := (t + i)) e179_114 hc rfl (by omega) (by decide) ?_
      refine IncN10 (m := i) e179_115 rfl ?_
      refine Go e179_118 t179_118 ?_
      refine ih (i + 1) _ (by omega) (by omega) (Fr.up hF) ((JP.st hJ).cg (fun k hk => ?_))
      unfold pU stpN
      by_cases e : k = t + i
      · subst e
        rw [if_pos rfl, if_neg (by omega), if_pos (by omega), Nat.add_sub_cancel_left]
        omega
      · rw [if_neg e]
        by_cases g : t ≤ k ∧ k < t + i
        · rw [if_pos g, if_pos (by omega)]
        · rw [if_neg g, if_neg (by omega)]
set_option maxHeartbeats 2000000 in
theorem m_rm_lp (hb : amA (amSH L) b 1 9) (hc : amA (amSH L) c 1 9) (hbc : b ≠ c) (hqB : PB 1000000 q) (hl : sz q = l + 1) : ∀ (m T : Nat) (r : Po) (I : amI) (J : amJ) (l7 l8 l9 l10 : Option Value), sz r < m → JP J b q → JP J c r → PB 1000000 r → I 152 9 = 0 → l + T = 9 → Ex 179 22 [some (.ref 152), some (.ref a), some (.ref b), some (.ref c), some (.int (nI l)), some (.long (oI (q l))), none, l7, l8, l9, l10] [] (amSH L) I J R (fun v I' J' R' => v = none ∧ R' = R ∧ RmP I J c (rm q l T r) I' J') := by
  have hl9 := sz_le q
  have hq0 : ¬ q l = 0 := by
    have := sz_head (p := q) (by omega)
    rw [hl, Nat.add_sub_cancel] at this
    exact this
  have hqi : iB (q l) := hqB.iB (by decide) (by omega)
  intro m
  induction m with
  | zero => intro T r I J l7 l8 l9 l10 h; omega
  | succ m ih =>
    intro T r I J l7 l8 l9 l10 hm hq hr hrB hf hT
    have hr4 : PB 4000000000000000000 r := hrB.mono (by decide)
    have hr9 := sz_le r
    by_cases hs : sz r ≤ l
    · have e : rm q l T r = some r := by
        have e2 := rm_skip (q := q) (l := l) (r := r) (t := 0) (m := T) (fun k g1 g2 => sz_zero (by omega) (by omega))
        rw [Nat.zero_add] at e2
        rw [e2, rm]
      rw [e]
      refine LA0 e179_22 ?_
      refine Gi e179_23 (o152 L) (amGi_of f777 (by decide)) ?_
      rw [hf]
      refine B_ne e179_26 t179_26 (fun q => absurd q (fun z => z rfl)) (fun _ => ?_)
      refine LA3 e179_29 ?_
      refine Cs1 e179_30 c179_173 (Nat.le_of_ble_eq_true rfl) (Nat.le_of_ble_eq_true rfl) ((m_degree hc hr hr4)) ?_
      refine LI4 e179_33 ?_
      refine C_lt e179_35 t179_35 (fun _ => ?_) (fun q => absurd (by rw [i32lt, dI_toInt (show sz r < 2 ^ 31 by omega), nI_toInt (show l < 2 ^ 31 by omega)]; omega) q)
      exact Rvd e179_129 rt179 (⟨rfl, rfl, FlI.rf, Fr.rf, Or.inl ⟨r, rfl, hf, hr⟩⟩)
    · obtain ⟨t, ht⟩ : ∃ t, sz r = l + t + 1 := ⟨sz r - l - 1, by omega⟩
      have e : rm q l T r = rm q l (t + 1) r := by
        obtain ⟨d, hd⟩ : ∃ d, T = t + 1 + d := ⟨T - (t + 1), by omega⟩
        rw [hd]
        exact rm_skip (fun k g1 g2 => sz_zero (by omega) (by omega))
      have hh : ¬ r (l + t) = 0 := by
        have := sz_head (p := r) (by omega)
        rw [ht, Nat.add_sub_cancel] at this
        exact this
      rw [e, rm, if_neg hh]
      have hss : ∀ k, stpN r q l t (if q l < 0 then -r (l + t) else r (l + t)) (l + 1) k = stp q l t r k := fun _ => rfl
      have hsB : PB 4000000000000000000 (stp q l t r) := stp_PB hrB hqB (by omega)
      refine LA0 e179_22 ?_
      refine Gi e179_23 (o152 L) (amGi_of f777 (by decide)) ?_
      rw [hf]
      refine B_ne e179_26 t179_26 (fun q => absurd q (fun z => z rfl)) (fun _ => ?_)
      refine LA3 e179_29 ?_
      refine Cs1 e179_30 c179_173 (Nat.le_of_ble_eq_true rfl) (Nat.le_of_ble_eq_true rfl) ((m_deg_n hc hr hr4 ht)) ?_
      refine LI4 e179_33 ?_
      refine CN_lt (a := (l + t)) (b := l) e179_35 t179_35 rfl rfl (by omega) (by omega) (fun q => absurd q (by omega)) (fun _ => ?_)
      refine LA3 e179_38 ?_
      refine Cs1 e179_39 c179_173 (Nat.le_of_ble_eq_true rfl) (Nat.le_of_ble_eq_true rfl) ((m_deg_n hc hr hr4 ht)) ?_
      refine SI7 e179_42 rfl ?_
      refine LA3 e179_44 ?_
      refine LI7 e179_45 ?_
      refine AjN (k := (l + t)) e179_47 hc rfl (by omega) (by decide) ?_
      rw [hr (l + t) (by omega)]
      refine LJ5 e179_48 ?_
      refine Cs1 e179_50 c179_154 (Nat.le_of_ble_eq_true rfl) (Nat.le_of_ble_eq_true rfl) (m_sign) ?_
      refine I2l e179_53 ?_
      refine Lmul e179_54 ?_
      rw [sgn_mul hqi, show (if q l < 0 then -oI (r (l + t)) else if 0 < q l then oI (r (l + t)) else 0) = oI (if q l < 0 then -r (l + t) else r (l + t)) from by
        by_cases g : q l < 0
        · rw [if_pos g, if_pos g, oI_neg]
        · rw [if_neg g, if_neg g, if_pos (by omega)]]
      refine SJ8 e179_55 rfl ?_
      refine Ki e179_57 kiconst_0 ?_
      refine SI10 e179_58 rfl ?_
      refine m_rm_mul (h := (if q l < 0 then -r (l + t) else r (l + t))) hc hr hqi (fun J1 hJ1 => ?_) 10 0 J (by omega) (by omega) JU.st
      have hP1 : JP J1 c (stpN r q l t (if q l < 0 then -r (l + t) else r (l + t)) 0) := fun k hk => by
        rw [hJ1.2 k, if_pos hk]
        unfold stpN
        rw [if_neg (by omega), Int.sub_zero]
      have hq1 : JP J1 b q := hq.fr hJ1.1 hbc
      refine Ki e179_85 kiconst_0 ?_
      refine SI10 e179_86 rfl ?_
      refine m_rm_sub (r := r) (h := (if q l < 0 then -r (l + t) else r (l + t))) hb hc hbc hq1 (by omega) (fun J2 hF2 hP2 => ?_) 11 0 J1 (by omega) (by omega) Fr.rf hP1
      refine LA0 e179_121 ?_
      refine LA3 e179_122 ?_
      refine Cv1p e179_123 c179_175 (o152 L) (Nat.le_of_ble_eq_true rfl) (Nat.le_of_ble_eq_true rfl) (m_cleans (f := false) hc (hP2.cg (fun k _ => hss k)) hsB hf) ?_
      rintro _ I3 J3 R3 ⟨rfl, hR3, hF3, hf3, hFc, hP3⟩
      subst hR3
      have hFF := (hJ1.1.tr hF2).tr hFc
      rw [Bool.false_or] at hf3
      by_cases g : fit (stp q l t r) = true
      · rw [if_pos g]
        rw [g] at hf3
        refine Go e179_126 t179_126 ?_
        have hz : ∀ k, l + t ≤ k → k < 9 → stp q l t r k = 0 := stp_top hl hq0 (by omega) (fun k g1 g2 => sz_zero (by omega) g2)
        have hsz : sz (cln (stp q l t r)) ≤ l + t := cln_sz hz
        have e2 : rm q l t (cln (stp q l t r)) = rm q l T (cln (stp q l t r)) := by
          obtain ⟨d, hd⟩ : ∃ d, T = t + d := ⟨T - t, by omega⟩
          rw [hd]
          exact (rm_skip (fun k g1 g2 => sz_zero (by omega) (by omega))).symm
        rw [e2]
        exact (ih T _ I3 J3 _ _ _ _ (by omega) (hq.fr hFF hbc) hP3 (fit_PB g) hf3 hT).mono (fun v I' J' R' ⟨q1, q2, q3⟩ => ⟨q1, q2, q3.tr hF3 hFF⟩)
      · rw [if_neg g]
        rw [Bool.not_eq_true] at g
        rw [g] at hf3
        refine Go e179_126 t179_126 ?_
        refine LA0 e179_22 ?_
        refine Gi e179_23 (o152 L) (amGi_of f777 (by decide)) ?_
        rw [hf3]
        show Ex 179 26 [some (.ref 152), some (.ref a), some (.ref b), some (.ref c), some (.int (nI l)), some (.long (oI (q l))), none, some (.int (nI (l + t))), some (.long (oI (if q l < 0 then -r (l + t) else r (l + t)))), none, some (.int (nI (l + 1)))] [.int 1] (amSH L) _ J3 _ _
        refine B_ne e179_26 t179_26 (fun _ => ?_) (fun q => absurd (by decide) q)
        exact Rvd e179_129 rt179 (⟨rfl, rfl, hF3, hFF, Or.inr ⟨rfl, hf3, _, cln_PB hsB, hP3⟩⟩)
set_option maxHeartbeats 2000000 in
theorem m_remainder (ha : amA (amSH L) a 1 9) (hb : amA (amSH L) b 1 9) (hc : amA (amSH L) c 1 9) (hac : a ≠ c) (hbc : b ≠ c) (hp : JP J a p) (hq : JP J b q) (hpB : PB 4000000000000000000 p) (hqB : PB 1000000 q) (h0 : 0 < sz q) (hf : I 152 9 = 0) : Cl 179 [.ref 152, .ref a, .ref b, .ref c] (amSH L) I J R (fun v I' J' R' => v = none ∧ R' = R ∧ RmP I J c (rem p q) I' J') := by
  have hq9 := sz_le q
  obtain ⟨l, hl⟩ : ∃ l, sz q = l + 1 := ⟨sz q - 1, by omega⟩
  have hq4 : PB 4000000000000000000 q := hqB.mono (by decide)
  have eh : hd q = q l := by unfold hd; rw [if_neg (by omega), hl, Nat.add_sub_cancel]
  unfold rem
  rw [hl, Nat.add_sub_cancel]
  show Ex 179 0 [some (.ref 152), some (.ref a), some (.ref b), some (.ref c), none, none, none, none, none, none, none] [] (amSH L) I J R _
  refine LA1 e179_0 ?_
  refine LA3 e179_1 ?_
  refine Cs2p e179_2 c179_172 (Nat.le_of_ble_eq_true rfl) (Nat.le_of_ble_eq_true rfl) (m_copies hc ha hac hp) ?_
  rintro _ I1 J1 R1 ⟨rfl, hI1, hR1, hF1, hP1⟩
  subst hI1
  subst hR1
  refine LA0 e179_5 ?_
  refine LA3 e179_6 ?_
  refine Cv1p e179_7 c179_175 (o152 L) (Nat.le_of_ble_eq_true rfl) (Nat.le_of_ble_eq_true rfl) (m_cleans (f := false) hc hP1 hpB hf) ?_
  rintro _ I3 J3 R3 ⟨rfl, hR3, hF3, hf3, hFc, hP3⟩
  subst hR3
  have hFF := hF1.tr hFc
  have hq3 := hq.fr hFF hbc
  rw [Bool.false_or] at hf3
  by_cases g : fit p = true
  · rw [if_pos g]
    rw [g] at hf3
    refine LA2 e179_10 ?_
    refine Cs1 e179_11 c179_173 (Nat.le_of_ble_eq_true rfl) (Nat.le_of_ble_eq_true rfl) ((m_deg_n hb hq3 hq4 hl)) ?_
    refine SI4 e179_14 rfl ?_
    refine LA2 e179_16 ?_
    refine Cs1 e179_17 c179_174 (Nat.le_of_ble_eq_true rfl) (Nat.le_of_ble_eq_true rfl) ((m_head hb hq3 hq4 h0)) ?_
    rw [eh]
    refine SJ5 e179_20 rfl ?_
    exact (m_rm_lp hb hc hbc hqB hl 10 (9 - l) _ I3 J3 _ _ _ _ (by have := sz_le (cln p); omega) hq3 hP3 (fit_PB g) hf3 (by omega)).mono (fun v I' J' R' ⟨q1, q2, q3⟩ => ⟨q1, q2, q3.tr hF3 hFF⟩)
  · rw [if_neg g]
    rw [Bool.not_eq_true] at g
    rw [g] at hf3
    refine LA2 e179_10 ?_
    refine Cs1 e179_11 c179_173 (Nat.le_of_ble_eq_true rfl) (Nat.le_of_ble_eq_true rfl) ((m_deg_n hb hq3 hq4 hl)) ?_
    refine SI4 e179_14 rfl ?_
    refine LA2 e179_16 ?_
    refine Cs1 e179_17 c179_174 (Nat.le_of_ble_eq_true rfl) (Nat.le_of_ble_eq_true rfl) ((m_head hb hq3 hq4 h0)) ?_
    rw [eh]
    refine SJ5 e179_20 rfl ?_
    refine LA0 e179_22 ?_
    refine Gi e179_23 (o152 L) (amGi_of f777 (by decide)) ?_
    rw [hf3]
    show Ex 179 26 [some (.ref 152), some (.ref a), some (.ref b), some (.ref c), some (.int (nI l)), some (.long (oI (q l))), none, none, none, none, none] [.int 1] (amSH L) _ J3 _ _
    refine B_ne e179_26 t179_26 (fun _ => ?_) (fun q => absurd (by decide) q)
    exact Rvd e179_129 rt179 (⟨rfl, rfl, hF3, hFF, Or.inr ⟨rfl, hf3, _, cln_PB hpB, hP3⟩⟩)
end REF3
