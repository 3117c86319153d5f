/-! the reference: divides, frees (printed by wip/whole/t68.py) -/
theorem minus_lt {l : Nat} (h : l ≤ 9) : (-1 : Int32) - nI l < 0 := by
  have e : ∀ l, l ≤ 9 → (-1 : Int32) - nI l < 0 := by decide
  exact e l h
section REF5
variable {L : Nat} {I : amI} {J : amJ} {R : amR} {Q : amQ} {a b c : Nat} {p q r s : Po} {l t : Nat}
set_option maxHeartbeats 2000000 in
theorem m_dv_sub {y5 : Int32} (hR : amRok R) (hb : amA (amSH L) b 1 9) (hb0 : b ≠ 162) (hl : l + t < 9) (hQ : ∀ J', Fr J J' 162 → JP J' 162 (lfN q s l t (l + 1)) → Ex 181 98 [some (.ref 152), some (.ref a), some (.ref b), some (.ref c), some (.int (nI l)), some (.int y5), some (.int (nI t)), some (.long (oI (s t))), none, some (.int (nI (l + 1)))] [] (amSH L) I J' R Q) : ∀ (n i : Nat) (J' : amJ), 10 - i < n → i ≤ l + 1 → JP J' b q → Fr J J' 162 → JP J' 162 (lfN q s l t i) → Ex 181 65 [some (.ref 152), some (.ref a), some (.ref b), some (.ref c), some (.int (nI l)), some (.int y5), some (.int (nI t)), some (.long (oI (s t))), none, some (.int (nI i))] [] (amSH L) I J' R Q := by
  intro n
  induction n with
  | zero => intro i J' h; omega
  | succ n ih =>
    intro i J' h h9 hq hF hJ
    refine LI9 e181_65 ?_
    refine LI4 e181_67 ?_
    refine CN_gt (a := i) (b := l) e181_69 t181_69 rfl rfl (by omega) (by omega) (fun h69 => ?_) (fun h69 => ?_)
    · have e9 : i = l + 1 := by omega
      subst e9
      exact hQ _ hF hJ
    · refine LA0 e181_72 ?_
      refine Gr e181_73 (o152 L) (hR 152 13 162 rfl) f781 ?_
      refine LI9 e181_76 ?_
      refine LI6 e181_78 ?_
      refine IaddN (a := i) (b := t) e181_80 rfl rfl ?_
      refine Dup2 e181_81 ⟨rfl, rfl⟩ ?_
      refine AjN (k := (i + t)) e181_82 (o162 L) rfl (by omega) (by decide) ?_
      rw [hJ (i + t) (by omega)]
      refine LJ7 e181_83 ?_
      refine LA2 e181_85 ?_
      refine LI9 e181_86 ?_
      refine AjN (k := i) e181_88 hb rfl (by omega) (by decide) ?_
      rw [hq i (by omega)]
      refine Lmul e181_89 ?_
      refine Lsub e181_90 ?_
      rw [oI_mul, oI_sub]
      refine WjN (k := (i + t)) e181_91 (o162 L) rfl (by omega) (by decide) ?_
      refine IncN9 (m := i) e181_92 rfl ?_
      refine Go e181_95 t181_95 ?_
      refine ih (i + 1) _ (by omega) (by omega) (hq.fr (Fr.up Fr.rf) hb0) (Fr.up hF) ((JP.st hJ).cg (fun k hk => ?_))
      unfold pU lfN
      by_cases e : k = i + t
      · subst e
        rw [if_pos rfl, if_pos (by omega), if_neg (by omega), Nat.add_sub_cancel]
        omega
      · rw [if_neg e]
        by_cases g : t + i ≤ k ∧ k ≤ t + l
        · rw [if_pos g, if_pos (by omega)]
        · rw [if_neg g, if_neg (by omega)]
set_option maxHeartbeats 2000000 in
theorem m_dv_lp {y5 : Int32} (hR : amRok R) (hb : amA (amSH L) b 1 9) (hc : amA (amSH L) c 1 9) (hb0 : b ≠ 162) (hbc : b ≠ c) (hc0 : c ≠ 162) (hq0 : ¬ q l = 0) (hqi : iB (q l)) (hsi : ∀ k, k + l < 9 → iB (s k * q l)) (hQ : ∀ J', FrL [162, c] J J' → JP J' c s → Q none I J' R) : ∀ (t : Nat) (J' : amJ) (l7 l8 l9 : Option Value), l + t ≤ 9 → JP J' b q → FrL [162, c] J J' → JP J' 162 (fun k => dvN q s l k t) → JP J' c (toN s t) → Ex 181 34 [some (.ref 152), some (.ref a), some (.ref b), some (.ref c), some (.int (nI l)), some (.int y5), some (.int (dI t)), l7, l8, l9] [] (amSH L) I J' R Q := by
  intro t
  induction t with
  | zero =>
    intro J' l7 l8 l9 ht hq hF h1 h2
    refine LI6 e181_34 ?_
    refine B_lt e181_36 t181_36 (fun _ => ?_) (fun q => absurd (by decide) q)
    exact Rvd e181_104 rt181 (hQ _ hF (h2.cg (fun k _ => if_pos (Nat.zero_le k))))
  | succ t ih =>
    intro J' l7 l8 l9 ht hq hF h1 h2
    have hd : dvN q s l (t + l) (t + 1) = s t * q l := by
      rw [dvN, dvN_high (by omega), if_pos ⟨by omega, by omega⟩, Int.zero_add, Nat.add_sub_cancel_left]
    show Ex 181 34 [some (.ref 152), some (.ref a), some (.ref b), some (.ref c), some (.int (nI l)), some (.int y5), some (.int (nI t)), l7, l8, l9] [] (amSH L) I J' R Q
    refine LI6 e181_34 ?_
    refine B_lt e181_36 t181_36 (fun q => absurd q (nI_pos (by omega))) (fun _ => ?_)
    refine LA0 e181_39 ?_
    refine Gr e181_40 (o152 L) (hR 152 13 162 rfl) f781 ?_
    refine LI6 e181_43 ?_
    refine LI4 e181_45 ?_
    refine IaddN (a := t) (b := l) e181_47 rfl rfl ?_
    refine AjN (k := (t + l)) e181_48 (o162 L) rfl (by omega) (by decide) ?_
    rw [show J' 162 (t + l) = oI (dvN q s l (t + l) (t + 1)) from h1 (t + l) (by omega), hd]
    refine LA2 e181_49 ?_
    refine LI4 e181_50 ?_
    refine AjN (k := l) e181_52 hb rfl (by omega) (by decide) ?_
    rw [hq l (by omega)]
    refine Ldiv e181_53 (fun z => hq0 ((oI_eq hqi ⟨by decide, by decide⟩).mp (z.trans oI_0))) ?_
    rw [oI_div (hsi t (by omega)) hqi, Int.mul_tdiv_cancel _ hq0]
    refine SJ7 e181_54 rfl ?_
    refine LA3 e181_56 ?_
    refine LI6 e181_57 ?_
    refine LJ7 e181_59 ?_
    refine WjN (k := t) e181_61 hc rfl (by omega) (by decide) ?_
    refine Ki e181_62 kiconst_0 ?_
    refine SI9 e181_63 rfl ?_
    have h3 : JP (amU J' c t (oI (s t))) c (toN s t) := (JP.st h2).cg (fun k hk => by
      unfold pU toN
      by_cases e : k = t
      · rw [if_pos e, if_pos (by omega), e]
      · rw [if_neg e]
        by_cases g : t + 1 ≤ k
        · rw [if_pos g, if_pos (by omega)]
        · rw [if_neg g, if_neg (by omega)])
    refine m_dv_sub (q := q) (s := s) hR hb hb0 (by omega) (fun J2 hF2 hP2 => ?_) 11 0 _ (by omega) (by omega) (hq.fr (Fr.up Fr.rf) hbc) Fr.rf ((h1.fr (Fr.up Fr.rf) hc0.symm).cg (fun k _ => lfN_0.symm))
    refine Inc6 (d := (-1)) e181_98 rfl rfl ?_
    refine Go e181_101 t181_101 ?_
    rw [show nI t + (-1) = dI t from dI_dec t]
    exact ih J2 _ _ _ (by omega) ((hq.fr (Fr.up Fr.rf) hbc).fr hF2 hb0) ((hF.tr (Fr.l (Fr.up Fr.rf) (by simp))).tr (hF2.l (by simp))) (hP2.cg (fun k _ => lfN_l)) (h3.fr hF2 hc0)
set_option maxHeartbeats 2000000 in
theorem m_divides (hR : amRok R) (ha : amA (amSH L) a 1 9) (hb : amA (amSH L) b 1 9) (hc : amA (amSH L) c 1 9) (ha0 : a ≠ 162) (hb0 : b ≠ 162) (hbc : b ≠ c) (hc0 : c ≠ 162) (hp : JP J a p) (hq : JP J b q) (hpB : PB 4000000000000000000 p) (hqB : PB 4000000000000000000 q) (hl : sz q = l + 1) (hv : Dv p q s) : Cl 181 [.ref 152, .ref a, .ref b, .ref c] (amSH L) I J R (fun v I' J' R' => v = none ∧ R' = R ∧ I' = I ∧ FrL [162, c] J J' ∧ JP J' c s) := by
  have hq9 := sz_le q
  have hs9 := sz_le s
  have hq0 : ¬ q l = 0 := by
    have := sz_head (p := q) (by omega)
    rw [hl, Nat.add_sub_cancel] at this
    exact this
  have hqi : iB (q l) := hqB.iB (by decide) (by omega)
  have hz := dv_sz hv hl
  obtain ⟨h1, h2, h3, h4⟩ := id hv
  rw [hl, Nat.add_sub_cancel] at h1 h2 h4
  have hsz : sz s ≤ 9 - l := by
    rcases Nat.lt_or_ge (9 - l) (sz s) with g | g
    · exact absurd (h2 (sz s - 1) (by omega) (by omega)) (sz_head (by omega))
    · exact g
  have hcut : ∀ k, k < 9 → p k = dvN q s l k (sz s) := fun k hk => by
    rw [h1 k hk, show 9 - l = sz s + (9 - l - sz s) by omega]
    exact dvN_cut (fun j g1 g2 => sz_zero g1 (by omega))
  show Ex 181 0 [some (.ref 152), some (.ref a), some (.ref b), some (.ref c), none, none, none, none, none, none] [] (amSH L) I J R _
  refine LA1 e181_0 ?_
  refine LA0 e181_1 ?_
  refine Gr e181_2 (o152 L) (hR 152 13 162 rfl) f781 ?_
  refine Cs2p e181_5 c181_172 (Nat.le_of_ble_eq_true rfl) (Nat.le_of_ble_eq_true rfl) (m_copies (o162 L) ha (by exact ha0) hp) ?_
  rintro _ I1 J1 R1 ⟨rfl, hI1, hR1, hF1, hP1⟩
  subst hI1
  subst hR1
  refine LA2 e181_8 ?_
  refine Cs1 e181_9 c181_173 (Nat.le_of_ble_eq_true rfl) (Nat.le_of_ble_eq_true rfl) ((m_deg_n hb (hq.fr hF1 hb0) hqB hl)) ?_
  refine SI4 e181_12 rfl ?_
  refine LA0 e181_14 ?_
  refine Gr e181_15 (o152 L) (hR 152 13 162 rfl) f781 ?_
  refine Cs1 e181_18 c181_173 (Nat.le_of_ble_eq_true rfl) (Nat.le_of_ble_eq_true rfl) ((m_degree (o162 L) hP1 hpB)) ?_
  refine SI5 e181_21 rfl ?_
  refine LA3 e181_23 ?_
  refine Cs1p e181_24 c181_171 (Nat.le_of_ble_eq_true rfl) (Nat.le_of_ble_eq_true rfl) (m_empties hc) ?_
  rintro _ I2 J2 R2 ⟨rfl, hI2, hR2, hF2, hP2⟩
  subst hI2
  subst hR2
  have hFL : FrL [162, c] J J2 := (hF1.l (by simp)).tr (hF2.l (by simp))
  have hq2 := (hq.fr hF1 hb0).fr hF2 hbc
  have hP3 := hP1.fr hF2 hc0.symm
  by_cases g : sz s = 0
  · have ep := hz.1 g
    rw [ep]
    show Ex 181 27 [some (.ref 152), some (.ref a), some (.ref b), some (.ref c), some (.int (nI l)), some (.int (-1)), none, none, none, none] [] (amSH L) _ J2 _ _
    refine LI5 e181_27 ?_
    refine LI4 e181_29 ?_
    refine Isub e181_31 ?_
    refine SI6 e181_32 rfl ?_
    refine LI6 e181_34 ?_
    refine B_lt e181_36 t181_36 (fun _ => ?_) (fun q => absurd (minus_lt (by omega)) q)
    exact Rvd e181_104 rt181 (⟨rfl, rfl, rfl, hFL, hP2.cg (fun k hk => (sz_zero (by omega) hk).symm)⟩)
  · obtain ⟨t, ht⟩ : ∃ t, sz s = t + 1 := ⟨sz s - 1, by omega⟩
    have ep := hz.2 (by omega)
    have ep2 : sz p = l + t + 1 := by omega
    rw [ep2]
    show Ex 181 27 [some (.ref 152), some (.ref a), some (.ref b), some (.ref c), some (.int (nI l)), some (.int (nI (l + t))), none, none, none, none] [] (amSH L) _ J2 _ _
    refine LI5 e181_27 ?_
    refine LI4 e181_29 ?_
    refine IsubN (a := (l + t)) (b := l) e181_31 rfl rfl (by omega) ?_
    refine SI6 e181_32 rfl ?_
    rw [show l + t - l = t by omega]
    exact m_dv_lp hR hb hc hb0 hbc hc0 hq0 hqi h4 (fun J' g1 g2 => ⟨rfl, rfl, rfl, hFL.tr g1, g2⟩) (t + 1) J2 _ _ _ (by omega) hq2 FrL.rf (hP3.cg (fun k hk => by rw [hcut k hk, ht])) (hP2.cg (fun k hk => (toN_0 ht hk).symm))
def FsP (I : amI) (J : amJ) (b : Nat) (o : Option Po) (I' : amI) (J' : amJ) : Prop := FlI I I' ∧ FrL [159, 160, 161, 162, 163, 164, b] J J' ∧ ((∃ g, o = some g ∧ I' 152 9 = 0 ∧ JP J' b g) ∨ (o = none ∧ I' 152 9 = 1))
set_option maxHeartbeats 2000000 in
theorem m_fr_end {l1 : Option Value} {J0 : amJ} {I0 : amI} (hb : amA (amSH L) b 1 9) (hr : JP J b r) (hrB : PB 4000000000000000000 r) (hf : I 152 9 = 0) (hI0 : FlI I0 I) (hJ0 : FrL [159, 160, 161, 162, 163, 164, b] J0 J) : Ex 182 85 [some (.ref 152), l1, some (.ref b)] [] (amSH L) I J R (fun v I' J' R' => v = none ∧ R' = R ∧ FsP I0 J0 b (cu r) I' J') := by
  refine LA0 e182_85 ?_
  refine LA2 e182_86 ?_
  refine Cv1p e182_87 c182_175 (o152 L) (Nat.le_of_ble_eq_true rfl) (Nat.le_of_ble_eq_true rfl) (m_cleans (f := false) hb hr hrB hf) ?_
  rintro _ I3 J3 R3 ⟨rfl, hR3, hG3, hf3, hF3, hP3⟩
  subst hR3
  rw [Bool.false_or] at hf3
  refine LA2 e182_90 ?_
  refine Cs1p e182_91 c182_177 (Nat.le_of_ble_eq_true rfl) (Nat.le_of_ble_eq_true rfl) (m_raises hb hP3 (cln_PB hrB)) ?_
  rintro _ I4 J4 R4 ⟨rfl, hI4, hR4, hF4, hP4⟩
  subst hI4
  subst hR4
  exact Rvd e182_94 rt182 (by
  refine ⟨rfl, rfl, hI0.tr hG3, (hJ0.tr (hF3.l (by simp))).tr (hF4.l (by simp)), ?_⟩
  unfold cu
  rw [fit_up]
  by_cases g : fit r = true
  · rw [if_pos g]
    rw [g] at hf3
    exact Or.inl ⟨_, rfl, hf3, hP4.cg (fun k _ => cln_up.symm)⟩
  · rw [if_neg g]
    rw [Bool.not_eq_true] at g
    rw [g] at hf3
    exact Or.inr ⟨rfl, hf3⟩)
set_option maxHeartbeats 2000000 in
theorem m_frees (hR : amRok R) (ha : amA (amSH L) a 1 9) (hb : amA (amSH L) b 1 9) (ha7 : a ≠ 163) (hb7 : b ≠ 159 ∧ b ≠ 160 ∧ b ≠ 161 ∧ b ≠ 162 ∧ b ≠ 163 ∧ b ≠ 164) (hp : JP J a p) (hpB : PB 1000000 p) (hok : FrOk p) (hf : I 152 9 = 0) : Cl 182 [.ref 152, .ref a, .ref b] (amSH L) I J R (fun v I' J' R' => v = none ∧ R' = R ∧ FsP I J b (fre p) I' J') := by
  have hfit : fit p = true := fitN_iff.mpr (fun k hk => cln_PB hpB k hk)
  have hcB : PB 1000000 (cln p) := cln_PB hpB
  have hdB : PB 4000000000000000000 (der (cln p)) := (der_PB hcB).mono (by decide)
  have hd9 := sz_le (der (cln p))
  unfold fre
  rw [if_pos hfit]
  show Ex 182 0 [some (.ref 152), some (.ref a), some (.ref b)] [] (amSH L) I J R _
  refine LA1 e182_0 ?_
  refine LA0 e182_1 ?_
  refine Gr e182_2 (o152 L) (hR 152 14 163 rfl) f782 ?_
  refine Cs2p e182_5 c182_172 (Nat.le_of_ble_eq_true rfl) (Nat.le_of_ble_eq_true rfl) (m_copies (o163 L) ha (by exact ha7) hp) ?_
  rintro _ I1 J1 R1 ⟨rfl, hI1, hR1, hF1, hP1⟩
  subst hI1
  subst hR1
  refine LA0 e182_8 ?_
  refine LA0 e182_9 ?_
  refine Gr e182_10 (o152 L) (hR 152 14 163 rfl) f782 ?_
  refine Cv1p e182_13 c182_175 (o152 L) (Nat.le_of_ble_eq_true rfl) (Nat.le_of_ble_eq_true rfl) (m_cleans (f := false) (o163 L) hP1 (hpB.mono (by decide)) hf) ?_
  rintro _ I2 J2 R2 ⟨rfl, hR2, hG2, hf2, hF2, hP2⟩
  subst hR2
  rw [Bool.false_or, hfit] at hf2
  refine LA0 e182_16 ?_
  refine Gr e182_17 (o152 L) (hR 152 14 163 rfl) f782 ?_
  refine LA0 e182_20 ?_
  refine Gr e182_21 (o152 L) (hR 152 15 164 rfl) f783 ?_
  refine Cs2p e182_24 c182_178 (Nat.le_of_ble_eq_true rfl) (Nat.le_of_ble_eq_true rfl) (m_derives (o164 L) (o163 L) (by decide) hP2) ?_
  rintro _ I3 J3 R3 ⟨rfl, hI3, hR3, hF3, hP3⟩
  subst hI3
  subst hR3
  have hP4 := hP2.fr hF3 (by decide)
  have hFL : FrL [159, 160, 161, 162, 163, 164, b] J J3 := ((hF1.l (by simp)).tr (hF2.l (by simp))).tr (hF3.l (by simp))
  refine LA0 e182_27 ?_
  refine Gr e182_28 (o152 L) (hR 152 15 164 rfl) f783 ?_
  refine Cs1 e182_31 c182_173 (Nat.le_of_ble_eq_true rfl) (Nat.le_of_ble_eq_true rfl) ((m_degree (o164 L) hP3 hdB)) ?_
  refine B_ge e182_34 t182_34 (fun h34 => ?_) (fun h34 => ?_)
  · refine LA0 e182_48 ?_
    refine LA0 e182_49 ?_
    refine Gr e182_50 (o152 L) (hR 152 14 163 rfl) f782 ?_
    refine LA0 e182_53 ?_
    refine Gr e182_54 (o152 L) (hR 152 15 164 rfl) f783 ?_
    refine LA0 e182_57 ?_
    refine Gr e182_58 (o152 L) (hR 152 15 164 rfl) f783 ?_
    have h0 : ¬ sz (der (cln p)) = 0 := fun z => by
      have := (dI_neg hd9).mpr z
      rw [i32lt] at this
      rw [i32le] at h34
      omega
    rw [if_neg h0]
    refine Cv3p e182_61 c182_180 (o152 L) (Nat.le_of_ble_eq_true rfl) (Nat.le_of_ble_eq_true rfl) (m_common hR (o163 L) (o164 L) (o164 L) ⟨by decide, by decide⟩ ⟨by decide, by decide⟩ ⟨by decide, by decide, by decide⟩ hP4 hP3 (hcB.mono (by decide)) hdB hf2) ?_
    rintro _ I6 J6 R6 ⟨rfl, hR6, hG6, hL6, hD⟩
    subst hR6
    have hP7 := hP4.fl hL6 (by decide)
    have hFL6 := hFL.tr (hL6.mono (m := [159, 160, 161, 162, 163, 164, b]) (fun z hz => by simp at hz ⊢; omega))
    rcases hD with ⟨g, hg, hf6, hP6⟩ | ⟨hg, hf6⟩
    · rw [hg]
      obtain ⟨hg0, hgs⟩ := hok g hfit h0 hg
      have hdv := quo_dv hgs
      have hgB := com_PB hg
      refine LA0 e182_64 ?_
      refine Gi e182_65 (o152 L) (amGi_of f777 (by decide)) ?_
      rw [hf6]
      refine B_eq e182_68 t182_68 (fun _ => ?_) (fun q => absurd (rfl) q)
      refine LA0 e182_72 ?_
      refine LA0 e182_73 ?_
      refine Gr e182_74 (o152 L) (hR 152 14 163 rfl) f782 ?_
      refine LA0 e182_77 ?_
      refine Gr e182_78 (o152 L) (hR 152 15 164 rfl) f783 ?_
      refine LA2 e182_81 ?_
      refine Cv3p e182_82 c182_181 (o152 L) (Nat.le_of_ble_eq_true rfl) (Nat.le_of_ble_eq_true rfl) (m_divides (l := sz g - 1) hR (o163 L) (o164 L) hb (by decide) (by decide) (by exact hb7.2.2.2.2.2.symm) hb7.2.2.2.1 hP7 hP6 (hcB.mono (by decide)) (hgB.mono (by decide)) (by omega) hdv) ?_
      rintro _ I8 J8 R8 ⟨rfl, hR8, hI8, hL8, hP8⟩
      subst hR8
      subst hI8
      exact m_fr_end hb hP8 hdv.2.2.1 hf6 (hG2.tr hG6) (hFL6.tr (hL8.mono (fun z hz => by simp at hz ⊢; omega)))
    · rw [hg]
      refine LA0 e182_64 ?_
      refine Gi e182_65 (o152 L) (amGi_of f777 (by decide)) ?_
      rw [hf6]
      refine B_eq e182_68 t182_68 (fun q => absurd q (by decide)) (fun _ => ?_)
      exact Rvd e182_71 rt182 (⟨rfl, rfl, hG2.tr hG6, hFL6, Or.inr ⟨rfl, hf6⟩⟩)
  · refine LA0 e182_37 ?_
    refine Gr e182_38 (o152 L) (hR 152 14 163 rfl) f782 ?_
    refine LA2 e182_41 ?_
    refine Cs2p e182_42 c182_172 (Nat.le_of_ble_eq_true rfl) (Nat.le_of_ble_eq_true rfl) (m_copies hb (o163 L) (by exact hb7.2.2.2.2.1.symm) hP4) ?_
    rintro _ I5 J5 R5 ⟨rfl, hI5, hR5, hF5, hP5⟩
    subst hI5
    subst hR5
    refine Go e182_45 t182_45 ?_
    have h0 : sz (der (cln p)) = 0 := by
      rcases Nat.eq_zero_or_pos (sz (der (cln p))) with z | z
      · exact z
      · exact absurd (by rw [i32le, dI_toInt (by omega), show (0 : Int32).toInt = 0 from rfl]; omega) h34
    rw [if_pos h0]
    exact m_fr_end hb hP5 (hcB.mono (by decide)) hf2 hG2 (hFL.tr (hF5.l (by simp)))
end REF5
