/-! the reference: gcd, cleans, divides of any numbers (printed by wip/whole/t98.py) -/
theorem rem_lt {x y : Int64} (hy : ¬ y = 0) : (x - x / y * y).toInt.natAbs < y.toInt.natAbs := by
  have hy0 : y.toInt ≠ 0 := fun z => hy (Int64.toInt_inj.mp z)
  by_cases hx : x = Int64.minValue
  · by_cases h1 : y = -1
    · rw [hx, h1]
      decide
    · have e : (x / y).toInt = x.toInt.tdiv y.toInt := Int64.toInt_div_of_ne_right _ _ h1
      have e2 : x - x / y * y = oI (x.toInt.tmod y.toInt) := by
        rw [oI_of (x / y), e]
        conv => lhs; rw [oI_of x]
        conv => lhs; arg 2; arg 2; rw [oI_of y]
        rw [oI_mul, oI_sub, oI_t (Int64.le_toInt x) (Int64.toInt_lt x)]
        congr 1
        rw [Int.tmod_def, Int.mul_comm]
      have hl : (x.toInt.tmod y.toInt).natAbs < y.toInt.natAbs := by
        rw [Int.natAbs_tmod]
        exact Nat.mod_lt _ (by omega)
      have b1 := Int64.le_toInt y
      have b2 := Int64.toInt_lt y
      rw [e2, oI_t (by omega) (by omega)]
      exact hl
  · have e : (x / y).toInt = x.toInt.tdiv y.toInt := Int64.toInt_div_of_ne_left _ _ hx
    have e2 : x - x / y * y = oI (x.toInt.tmod y.toInt) := by
      rw [oI_of (x / y), e]
      conv => lhs; rw [oI_of x]
      conv => lhs; arg 2; arg 2; rw [oI_of y]
      rw [oI_mul, oI_sub, oI_t (Int64.le_toInt x) (Int64.toInt_lt x)]
      congr 1
      rw [Int.tmod_def, Int.mul_comm]
    have hl : (x.toInt.tmod y.toInt).natAbs < y.toInt.natAbs := by
      rw [Int.natAbs_tmod]
      exact Nat.mod_lt _ (by omega)
    have b1 := Int64.le_toInt y
    have b2 := Int64.toInt_lt y
    rw [e2, oI_t (by omega) (by omega)]
    exact hl
theorem dI_sub : ∀ n, n ≤ 9 → ∀ l, l ≤ 9 → dI n - nI l = if n ≤ l then dI n - nI l else dI (n - l) := by decide
theorem dI_subn : ∀ n, n ≤ 9 → ∀ l, l ≤ 9 → n ≤ l → dI n - nI l < 0 := by decide
section REF32
variable {L : Nat} {I : amI} {J : amJ} {R : amR} {Q : amQ} {a b c : Nat} {p q : Po}
set_option maxHeartbeats 2000000 in
theorem m_size_any {x : Int64} : Rv 153 [.long x] (amSH L) I J R (.long (if 0 ≤ x then x else -x)) := by
  intro Q hQ
  show Ex 153 0 [some (.long x), none] [] (amSH L) I J R _
  refine LJ0 e153_0 ?_
  refine K0 e153_1 ?_
  refine D_ge e153_2 e153_3 t153_3 (fun h2 => ?_) (fun h2 => ?_)
  · refine LJ0 e153_11 ?_
    exact Rj e153_12 rt153 (by
    rw [if_pos h2] at hQ
    exact hQ)
  · refine LJ0 e153_6 ?_
    refine Lneg e153_7 ?_
    refine Go e153_8 t153_8 ?_
    exact Rj e153_12 rt153 (by
    rw [if_neg h2] at hQ
    exact hQ)
set_option maxHeartbeats 2000000 in
theorem m_gcdA_lp {u t : Int64} : ∀ (n : Nat) (x y : Int64), y.toInt.natAbs < n → ∃ g : Int64, ∀ (l8 l9 : Option Value) (Q : amQ), Q (some (.long g)) I J R → Ex 155 12 [some (.long u), none, some (.long t), none, some (.long x), none, some (.long y), none, l8, l9] [] (amSH L) I J R Q := by
  intro n
  induction n with
  | zero => intro x y h; omega
  | succ n ih =>
    intro x y h
    by_cases hy : y = 0
    · refine ⟨x, fun l8 l9 Q hQ => ?_⟩
      refine LJ6 e155_12 ?_
      refine K0 e155_14 ?_
      refine D_eq e155_15 e155_16 t155_16 (fun _ => ?_) (fun q => absurd (hy) q)
      refine LJ4 e155_37 ?_
      exact Rj e155_39 rt155 (hQ)
    · have hlt := rem_lt (x := x) hy
      obtain ⟨g, hg⟩ := ih y (x - x / y * y) (by omega)
      refine ⟨g, fun l8 l9 Q hQ => ?_⟩
      refine LJ6 e155_12 ?_
      refine K0 e155_14 ?_
      refine D_eq e155_15 e155_16 t155_16 (fun q => absurd q (hy)) (fun _ => ?_)
      refine LJ4 e155_19 ?_
      refine LJ6 e155_21 ?_
      refine Lrem e155_23 hy ?_
      refine SJ8 e155_24 rfl ?_
      refine LJ6 e155_26 ?_
      refine SJ4 e155_28 rfl ?_
      refine LJ8 e155_30 ?_
      refine SJ6 e155_32 rfl ?_
      refine Go e155_34 t155_34 ?_
      exact hg _ _ Q hQ
set_option maxHeartbeats 2000000 in
theorem m_gcd_any {u t : Int64} : ∃ g : Int64, Rv 155 [.long u, .long t] (amSH L) I J R (.long g) := by
  obtain ⟨g, hg⟩ := m_gcdA_lp (L := L) (I := I) (J := J) (R := R) (u := u) (t := t) _ (if 0 ≤ u then u else -u) (if 0 ≤ t then t else -t) (Nat.lt_succ_self _)
  refine ⟨g, fun Q hQ => ?_⟩
  show Ex 155 0 [some (.long u), none, some (.long t), none, none, none, none, none, none, none] [] (amSH L) I J R _
  refine LJ0 e155_0 ?_
  refine Cs1 e155_1 c155_153 (Nat.le_of_ble_eq_true rfl) (Nat.le_of_ble_eq_true rfl) (m_size_any) ?_
  refine SJ4 e155_4 rfl ?_
  refine LJ2 e155_6 ?_
  refine Cs1 e155_7 c155_153 (Nat.le_of_ble_eq_true rfl) (Nat.le_of_ble_eq_true rfl) (m_size_any) ?_
  refine SJ6 e155_10 rfl ?_
  exact hg _ _ Q hQ
set_option maxHeartbeats 2000000 in
theorem m_clA1 (ha : amA (amSH L) a 1 9) (hQ : ∀ g, Ex 175 27 [some (.ref 152), some (.ref a), some (.long g), none, some (.int (nI 9))] [] (amSH L) I J R Q) : ∀ (n i : Nat) (g : Int64), 9 - i < n → i ≤ 9 → Ex 175 5 [some (.ref 152), some (.ref a), some (.long g), none, some (.int (nI i))] [] (amSH L) I J R Q := by
  intro n
  induction n with
  | zero => intro i g h; omega
  | succ n ih =>
    intro i g h h9
    by_cases e9 : i = 9
    · subst e9
      refine LI4 e175_5 ?_
      refine Ki e175_7 kbipush_9 ?_
      refine CN_ge (a := 9) (b := 9) e175_9 t175_9 rfl (by decide) (by omega) (by omega) (fun _ => ?_) (fun q => by omega)
      exact hQ _
    · obtain ⟨g', hg⟩ := m_gcd_any (L := L) (I := I) (J := J) (R := R) (u := g) (t := J a i)
      refine LI4 e175_5 ?_
      refine Ki e175_7 kbipush_9 ?_
      refine CN_ge (a := i) (b := 9) e175_9 t175_9 rfl (by decide) (by omega) (by omega) (fun q => absurd q (by omega)) (fun _ => ?_)
      refine LJ2 e175_12 ?_
      refine LA1 e175_13 ?_
      refine LI4 e175_14 ?_
      refine AjN (k := i) e175_16 ha rfl (by omega) (by decide) ?_
      refine Cs2 e175_17 c175_155 (Nat.le_of_ble_eq_true rfl) (Nat.le_of_ble_eq_true rfl) (hg) ?_
      refine SJ2 e175_20 rfl ?_
      refine IncN4 (m := i) e175_21 rfl ?_
      refine Go e175_24 t175_24 ?_
      exact ih (i + 1) _ (by omega) (by omega)
set_option maxHeartbeats 2000000 in
theorem m_clA2 {g : Int64} (ha : amA (amSH L) a 1 9) (h0 : ¬ g = 0) (hQ : ∀ I' J', FlI I I' → I' 152 9 = 1 → Fr J J' a → Q none I' J' R) : ∀ (n i : Nat) (I' : amI) (J' : amJ), 9 - i < n → i ≤ 9 → FlI I I' → I' 152 9 = 1 → Fr J J' a → Ex 175 37 [some (.ref 152), some (.ref a), some (.long g), none, some (.int (nI i))] [] (amSH L) I' J' R Q := by
  intro n
  induction n with
  | zero => intro i I' J' h; omega
  | succ n ih =>
    intro i I' J' h h9 hF hf hJ
    by_cases e9 : i = 9
    · subst e9
      refine LI4 e175_37 ?_
      refine Ki e175_39 kbipush_9 ?_
      refine CN_ge (a := 9) (b := 9) e175_41 t175_41 rfl (by decide) (by omega) (by omega) (fun _ => ?_) (fun q => by omega)
      exact Rvd e175_88 rt175 (hQ _ _ hF hf hJ)
    · have h1 : ¬ (1 : Int32) = 0 := by decide
      refine LI4 e175_37 ?_
      refine Ki e175_39 kbipush_9 ?_
      refine CN_ge (a := i) (b := 9) e175_41 t175_41 rfl (by decide) (by omega) (by omega) (fun q => absurd q (by omega)) (fun _ => ?_)
      refine LA1 e175_44 ?_
      refine LI4 e175_45 ?_
      refine Dup2 e175_47 ⟨rfl, rfl⟩ ?_
      refine AjN (k := i) e175_48 ha rfl (by omega) (by decide) ?_
      refine LJ2 e175_49 ?_
      refine Ldiv e175_50 h0 ?_
      refine WjN (k := i) e175_51 ha rfl (by omega) (by decide) ?_
      refine LA0 e175_52 ?_
      refine LA0 e175_53 ?_
      refine Gi e175_54 (o152 L) (amGi_of f777 (by decide)) ?_
      rw [hf]
      refine B_ne e175_57 t175_57 (fun _ => ?_) (fun q => absurd (h1) q)
      refine Ki e175_74 kiconst_1 ?_
      refine Go e175_75 t175_75 ?_
      refine Pz e175_79 (o152 L) f777 (by decide) ?_
      refine IncN4 (m := i) e175_82 rfl ?_
      refine Go e175_85 t175_85 ?_
      exact ih (i + 1) _ _ (by omega) (by omega) (FlI.up hF) amU_same (Fr.up hJ)
set_option maxHeartbeats 2000000 in
theorem m_cleans_any (ha : amA (amSH L) a 1 9) (hf : I 152 9 = 1) : Cl 175 [.ref 152, .ref a] (amSH L) I J R (fun v I' J' R' => v = none ∧ R' = R ∧ FlI I I' ∧ I' 152 9 = 1 ∧ Fr J J' a) := by
  show Ex 175 0 [some (.ref 152), some (.ref a), none, none, none] [] (amSH L) I J R _
  refine K0 e175_0 ?_
  refine SJ2 e175_1 rfl ?_
  refine Ki e175_2 kiconst_0 ?_
  refine SI4 e175_3 rfl ?_
  refine m_clA1 ha (fun g => ?_) 10 0 0 (by omega) (by omega)
  refine LJ2 e175_27 ?_
  refine K0 e175_28 ?_
  refine D_ne e175_29 e175_30 t175_30 (fun h29 => ?_) (fun h29 => ?_)
  · refine Ki e175_34 kiconst_0 ?_
    refine SI4 e175_35 rfl ?_
    refine m_clA2 ha h29 (fun I1 J1 g1 g2 g3 => ⟨rfl, rfl, g1, g2, g3⟩) 10 0 I J (by omega) (by omega) FlI.rf hf Fr.rf
  · exact Rvd e175_33 rt175 (⟨rfl, rfl, FlI.rf, hf, Fr.rf⟩)
set_option maxHeartbeats 2000000 in
theorem m_dvA_sub {l t : Nat} {x : Int64} {y5 : Int32} (hR : amRok R) (hb : amA (amSH L) b 1 9) (hl : l + t < 9) (hQ : ∀ J', Fr J J' 162 → Ex 181 98 [some (.ref 152), some (.ref a), some (.ref b), some (.ref c), some (.int (nI l)), some (.int y5), some (.int (nI t)), some (.long x), none, some (.int (nI (l + 1)))] [] (amSH L) I J' R Q) : ∀ (n i : Nat) (J' : amJ), 10 - i < n → i ≤ l + 1 → Fr J J' 162 → Ex 181 65 [some (.ref 152), some (.ref a), some (.ref b), some (.ref c), some (.int (nI l)), some (.int y5), some (.int (nI t)), some (.long x), none, some (.int (nI i))] [] (amSH L) I J' R Q := by
  intro n
  induction n with
  | zero => intro i J' h; omega
  | succ n ih =>
    intro i J' h h9 hF
    refine LI9 e181_65 ?_
    refine LI4 e181_67 ?_
    refine CN_gt (a := i) (b := l) e181_69 t181_69 rfl rfl (by omega) (by omega) (fun h69 => ?_) (fun h69 => ?_)
    · have e9 : i = l + 1 := by omega
      subst e9
      exact hQ _ hF
    · refine LA0 e181_72 ?_
      refine Gr e181_73 (o152 L) (hR 152 13 162 rfl) f781 ?_
      refine LI9 e181_76 ?_
      refine LI6 e181_78 ?_
      refine IaddN (a := i) (b := t) e181_80 rfl rfl ?_
      refine Dup2 e181_81 ⟨rfl, rfl⟩ ?_
      refine AjN (k := (i + t)) e181_82 (o162 L) rfl (by omega) (by decide) ?_
      refine LJ7 e181_83 ?_
      refine LA2 e181_85 ?_
      refine LI9 e181_86 ?_
      refine AjN (k := i) e181_88 hb rfl (by omega) (by decide) ?_
      refine Lmul e181_89 ?_
      refine Lsub e181_90 ?_
      refine WjN (k := (i + t)) e181_91 (o162 L) rfl (by omega) (by decide) ?_
      refine IncN9 (m := i) e181_92 rfl ?_
      refine Go e181_95 t181_95 ?_
      exact ih (i + 1) _ (by omega) (by omega) (Fr.up hF)
set_option maxHeartbeats 2000000 in
theorem m_dvA_lp {l : Nat} {y5 : Int32} (hR : amRok R) (hb : amA (amSH L) b 1 9) (hc : amA (amSH L) c 1 9) (hb0 : b ≠ 162) (hbc : b ≠ c) (hq0 : ¬ q l = 0) (hqi : iB (q l)) (hQ : ∀ J', FrL [162, c] J J' → Q none I J' R) : ∀ (t : Nat) (J' : amJ) (l7 l8 l9 : Option Value), l + t ≤ 9 → JP J' b q → FrL [162, c] J J' → Ex 181 34 [some (.ref 152), some (.ref a), some (.ref b), some (.ref c), some (.int (nI l)), some (.int y5), some (.int (dI t)), l7, l8, l9] [] (amSH L) I J' R Q := by
  intro t
  induction t with
  | zero =>
    intro J' l7 l8 l9 ht hq hF
    refine LI6 e181_34 ?_
    refine B_lt e181_36 t181_36 (fun _ => ?_) (fun q => absurd (by decide) q)
    exact Rvd e181_104 rt181 (hQ _ hF)
  | succ t ih =>
    intro J' l7 l8 l9 ht hq hF
    show Ex 181 34 [some (.ref 152), some (.ref a), some (.ref b), some (.ref c), some (.int (nI l)), some (.int y5), some (.int (nI t)), l7, l8, l9] [] (amSH L) I J' R Q
    refine LI6 e181_34 ?_
    refine B_lt e181_36 t181_36 (fun q => absurd q (nI_pos (by omega))) (fun _ => ?_)
    refine LA0 e181_39 ?_
    refine Gr e181_40 (o152 L) (hR 152 13 162 rfl) f781 ?_
    refine LI6 e181_43 ?_
    refine LI4 e181_45 ?_
    refine IaddN (a := t) (b := l) e181_47 rfl rfl ?_
    refine AjN (k := (t + l)) e181_48 (o162 L) rfl (by omega) (by decide) ?_
    refine LA2 e181_49 ?_
    refine LI4 e181_50 ?_
    refine AjN (k := l) e181_52 hb rfl (by omega) (by decide) ?_
    rw [hq l (by omega)]
    refine Ldiv e181_53 (fun z => hq0 ((oI_eq hqi ⟨by decide, by decide⟩).mp (z.trans oI_0))) ?_
    refine SJ7 e181_54 rfl ?_
    refine LA3 e181_56 ?_
    refine LI6 e181_57 ?_
    refine LJ7 e181_59 ?_
    refine WjN (k := t) e181_61 hc rfl (by omega) (by decide) ?_
    refine Ki e181_62 kiconst_0 ?_
    refine SI9 e181_63 rfl ?_
    refine m_dvA_sub hR hb (by omega) (fun J2 hF2 => ?_) 11 0 _ (by omega) (by omega) Fr.rf
    refine Inc6 (d := (-1)) e181_98 rfl rfl ?_
    refine Go e181_101 t181_101 ?_
    rw [show nI t + (-1) = dI t from dI_dec t]
    exact ih J2 _ _ _ (by omega) ((hq.fr (Fr.up Fr.rf) hbc).fr hF2 hb0) ((hF.tr (Fr.l (Fr.up Fr.rf) (by simp))).tr (hF2.l (by simp)))
set_option maxHeartbeats 2000000 in
theorem m_divides_any {l : Nat} (hR : amRok R) (ha : amA (amSH L) a 1 9) (hb : amA (amSH L) b 1 9) (hc : amA (amSH L) c 1 9) (ha0 : a ≠ 162) (hb0 : b ≠ 162) (hbc : b ≠ c) (hc0 : c ≠ 162) (hp : JP J a p) (hq : JP J b q) (hpB : PB 4000000000000000000 p) (hqB : PB 4000000000000000000 q) (hl : sz q = l + 1) : Cl 181 [.ref 152, .ref a, .ref b, .ref c] (amSH L) I J R (fun v I' J' R' => v = none ∧ R' = R ∧ I' = I ∧ FrL [162, c] J J') := by
  have hq9 := sz_le q
  have hp9 := sz_le p
  have hq0 : ¬ q l = 0 := by
    have := sz_head (p := q) (by omega)
    rw [hl, Nat.add_sub_cancel] at this
    exact this
  have hqi : iB (q l) := hqB.iB (by decide) (by omega)
  show Ex 181 0 [some (.ref 152), some (.ref a), some (.ref b), some (.ref c), none, none, none, none, none, none] [] (amSH L) I J R _
  refine LA1 e181_0 ?_
  refine LA0 e181_1 ?_
  refine Gr e181_2 (o152 L) (hR 152 13 162 rfl) f781 ?_
  refine Cs2p e181_5 c181_172 (Nat.le_of_ble_eq_true rfl) (Nat.le_of_ble_eq_true rfl) (m_copies (o162 L) ha (by exact ha0) hp) ?_
  rintro _ I1 J1 R1 ⟨rfl, hI1, hR1, hF1, hP1⟩
  have hI1 := hI1.symm
  subst hI1
  have hR1 := hR1.symm
  subst hR1
  refine LA2 e181_8 ?_
  refine Cs1 e181_9 c181_173 (Nat.le_of_ble_eq_true rfl) (Nat.le_of_ble_eq_true rfl) ((m_deg_n hb (hq.fr hF1 hb0) hqB hl)) ?_
  refine SI4 e181_12 rfl ?_
  refine LA0 e181_14 ?_
  refine Gr e181_15 (o152 L) (hR 152 13 162 rfl) f781 ?_
  refine Cs1 e181_18 c181_173 (Nat.le_of_ble_eq_true rfl) (Nat.le_of_ble_eq_true rfl) ((m_degree (o162 L) hP1 hpB)) ?_
  refine SI5 e181_21 rfl ?_
  refine LA3 e181_23 ?_
  refine Cs1p e181_24 c181_171 (Nat.le_of_ble_eq_true rfl) (Nat.le_of_ble_eq_true rfl) (m_empties hc) ?_
  rintro _ I2 J2 R2 ⟨rfl, hI2, hR2, hF2, hP2⟩
  have hI2 := hI2.symm
  subst hI2
  have hR2 := hR2.symm
  subst hR2
  have hFL : FrL [162, c] J J2 := (hF1.l (by simp)).tr (hF2.l (by simp))
  have hq2 := (hq.fr hF1 hb0).fr hF2 hbc
  refine LI5 e181_27 ?_
  refine LI4 e181_29 ?_
  refine Isub e181_31 ?_
  refine SI6 e181_32 rfl ?_
  by_cases g : sz p ≤ l
  · refine LI6 e181_34 ?_
    refine B_lt e181_36 t181_36 (fun _ => ?_) (fun q => absurd (dI_subn _ hp9 l (by omega) g) q)
    exact Rvd e181_104 rt181 (⟨rfl, rfl, rfl, hFL⟩)
  · rw [dI_sub _ hp9 l (by omega), if_neg g]
    exact m_dvA_lp hR hb hc hb0 hbc hq0 hqi (fun J' g1 => ⟨rfl, rfl, rfl, hFL.tr g1⟩) (sz p - l) J2 _ _ _ (by omega) hq2 FrL.rf
end REF32
