/-! the reference: common (printed by wip/whole/t67.py) -/
/-- what common() leaves -/
def CoP (I : amI) (J : amJ) (c : Nat) (o : Option Po) (I' : amI) (J' : amJ) : Prop := FlI I I' ∧ FrL [159, 160, 161, c] J J' ∧ ((∃ g, o = some g ∧ I' 152 9 = 0 ∧ JP J' c g) ∨ (o = none ∧ I' 152 9 = 1))
theorem CoP.tr {I I1 I' : amI} {J J1 J' : amJ} {c : Nat} {o : Option Po} (h : CoP I1 J1 c o I' J') (h1 : FlI I I1) (h2 : FrL [159, 160, 161, c] J J1) : CoP I J c o I' J' := ⟨h1.tr h.1, h2.tr h.2.1, h.2.2⟩
section REF4
variable {L : Nat} {I : amI} {J : amJ} {R : amR} {Q : amQ} {a b c : Nat} {p q r s : Po} {l t : Nat} {f : Bool}
set_option maxHeartbeats 2000000 in
theorem m_co_end {l1 l2 : Option Value} (hR : amRok R) (hc : amA (amSH L) c 1 9) (hc7 : c ≠ 159) (hr : JP J 159 r) (hrB : PB 4000000000000000000 r) (hQ : ∀ J', Fr J J' c → JP J' c (up r) → Q none I J' R) : Ex 180 90 [some (.ref 152), l1, l2, some (.ref c)] [] (amSH L) I J R Q := by
  refine LA0 e180_90 ?_
  refine Gr e180_91 (o152 L) (hR 152 10 159 rfl) f778 ?_
  refine LA3 e180_94 ?_
  refine Cs2p e180_95 c180_172 (Nat.le_of_ble_eq_true rfl) (Nat.le_of_ble_eq_true rfl) (m_copies hc (o159 L) (by exact hc7.symm) hr) ?_
  rintro _ I1 J1 R1 ⟨rfl, hI1, hR1, hF1, hP1⟩
  subst hI1
  subst hR1
  refine LA3 e180_98 ?_
  refine Cs1p e180_99 c180_177 (Nat.le_of_ble_eq_true rfl) (Nat.le_of_ble_eq_true rfl) (m_raises hc hP1 hrB) ?_
  rintro _ I2 J2 R2 ⟨rfl, hI2, hR2, hF2, hP2⟩
  subst hI2
  subst hR2
  exact Rvd e180_102 rt180 (hQ _ (hF1.tr hF2) hP2)
set_option maxHeartbeats 2000000 in
theorem m_co_full {l1 l2 : Option Value} (hR : amRok R) (hc : amA (amSH L) c 1 9) (hc7 : c ≠ 159) (hr : JP J 159 r) (hrB : PB 4000000000000000000 r) (hf : I 152 9 = 1) (hQ : ∀ J', Fr J J' c → Q none I J' R) : Ex 180 32 [some (.ref 152), l1, l2, some (.ref c)] [] (amSH L) I J R Q := by
  refine LA0 e180_32 ?_
  refine Gi e180_33 (o152 L) (amGi_of f777 (by decide)) ?_
  rw [hf]
  refine B_ne e180_36 t180_36 (fun _ => ?_) (fun q => absurd (by decide) q)
  exact m_co_end hR hc hc7 hr hrB (fun J' g1 _ => hQ J' g1)
set_option maxHeartbeats 2000000 in
theorem m_co_lp {l1 l2 : Option Value} (hR : amRok R) (hc : amA (amSH L) c 1 9) (hc7 : c ≠ 159 ∧ c ≠ 160 ∧ c ≠ 161) : ∀ (n : Nat) (r s : Po) (I : amI) (J : amJ), sz s < n → JP J 159 r → JP J 160 s → PB 1000000 r → PB 1000000 s → I 152 9 = 0 → Ex 180 32 [some (.ref 152), l1, l2, some (.ref c)] [] (amSH L) I J R (fun v I' J' R' => v = none ∧ R' = R ∧ CoP I J c ((cmN n r s).map up) I' J') := by
  intro n
  induction n with
  | zero => intro r s I J h; omega
  | succ n ih =>
    intro r s I J hn hr hs hrB hsB hf
    have hs9 := sz_le s
    have hs4 : PB 4000000000000000000 s := hsB.mono (by decide)
    have hr4 : PB 4000000000000000000 r := hrB.mono (by decide)
    rw [cmN]
    by_cases h0 : sz s = 0
    · rw [if_pos h0]
      refine LA0 e180_32 ?_
      refine Gi e180_33 (o152 L) (amGi_of f777 (by decide)) ?_
      rw [hf]
      refine B_ne e180_36 t180_36 (fun q => absurd q (fun z => z rfl)) (fun _ => ?_)
      refine LA0 e180_39 ?_
      refine Gr e180_40 (o152 L) (hR 152 11 160 rfl) f779 ?_
      refine Cs1 e180_43 c180_173 (Nat.le_of_ble_eq_true rfl) (Nat.le_of_ble_eq_true rfl) ((m_degree (o160 L) hs hs4)) ?_
      refine B_lt e180_46 t180_46 (fun _ => ?_) (fun q => absurd ((dI_neg hs9).mpr h0) q)
      exact m_co_end hR hc hc7.1 hr hr4 (fun J' g1 g2 => ⟨rfl, rfl, FlI.rf, g1.l (by simp), Or.inl ⟨_, rfl, hf, g2⟩⟩)
    · rw [if_neg h0]
      refine LA0 e180_32 ?_
      refine Gi e180_33 (o152 L) (amGi_of f777 (by decide)) ?_
      rw [hf]
      refine B_ne e180_36 t180_36 (fun q => absurd q (fun z => z rfl)) (fun _ => ?_)
      refine LA0 e180_39 ?_
      refine Gr e180_40 (o152 L) (hR 152 11 160 rfl) f779 ?_
      refine Cs1 e180_43 c180_173 (Nat.le_of_ble_eq_true rfl) (Nat.le_of_ble_eq_true rfl) ((m_degree (o160 L) hs hs4)) ?_
      refine B_lt e180_46 t180_46 (fun q => absurd q (fun z => h0 ((dI_neg hs9).mp z))) (fun _ => ?_)
      refine LA0 e180_49 ?_
      refine LA0 e180_50 ?_
      refine Gr e180_51 (o152 L) (hR 152 10 159 rfl) f778 ?_
      refine LA0 e180_54 ?_
      refine Gr e180_55 (o152 L) (hR 152 11 160 rfl) f779 ?_
      refine LA0 e180_58 ?_
      refine Gr e180_59 (o152 L) (hR 152 12 161 rfl) f780 ?_
      refine Cv3p e180_62 c180_179 (o152 L) (Nat.le_of_ble_eq_true rfl) (Nat.le_of_ble_eq_true rfl) (m_remainder (o159 L) (o160 L) (o161 L) (by decide) (by decide) hr hs hr4 hsB (by omega) hf) ?_
      rintro _ I1 J1 R1 ⟨rfl, hR1, hFl, hFr, hD⟩
      subst hR1
      have hs1 := hs.fr hFr (by decide)
      have hFL : FrL [159, 160, 161, c] J J1 := hFr.l (by simp)
      rcases hD with ⟨r', hrm, hf1, hP⟩ | ⟨hrm, hf1, r', hB', hP⟩
      · rw [hrm]
        refine LA0 e180_65 ?_
        refine Gr e180_66 (o152 L) (hR 152 11 160 rfl) f779 ?_
        refine LA0 e180_69 ?_
        refine Gr e180_70 (o152 L) (hR 152 10 159 rfl) f778 ?_
        refine Cs2p e180_73 c180_172 (Nat.le_of_ble_eq_true rfl) (Nat.le_of_ble_eq_true rfl) (m_copies (o159 L) (o160 L) (by decide) hs1) ?_
        rintro _ I2 J2 R2 ⟨rfl, hI2, hR2, hF2, hP2⟩
        subst hI2
        subst hR2
        refine LA0 e180_76 ?_
        refine Gr e180_77 (o152 L) (hR 152 12 161 rfl) f780 ?_
        refine LA0 e180_80 ?_
        refine Gr e180_81 (o152 L) (hR 152 11 160 rfl) f779 ?_
        refine Cs2p e180_84 c180_172 (Nat.le_of_ble_eq_true rfl) (Nat.le_of_ble_eq_true rfl) (m_copies (o160 L) (o161 L) (by decide) (hP.fr hF2 (by decide))) ?_
        rintro _ I3 J3 R3 ⟨rfl, hI3, hR3, hF3, hP3⟩
        subst hI3
        subst hR3
        refine Go e180_87 t180_87 ?_
        exact (ih s r' _ _ (by have := rem_sz hrm (by omega); omega) (hP2.fr hF3 (by decide)) hP3 hsB (rem_PB hrm) hf1).mono (fun v I' J' R' ⟨q1, q2, q3⟩ => ⟨q1, q2, q3.tr hFl ((hFL.tr (hF2.l (by simp))).tr (hF3.l (by simp)))⟩)
      · rw [hrm]
        refine LA0 e180_65 ?_
        refine Gr e180_66 (o152 L) (hR 152 11 160 rfl) f779 ?_
        refine LA0 e180_69 ?_
        refine Gr e180_70 (o152 L) (hR 152 10 159 rfl) f778 ?_
        refine Cs2p e180_73 c180_172 (Nat.le_of_ble_eq_true rfl) (Nat.le_of_ble_eq_true rfl) (m_copies (o159 L) (o160 L) (by decide) hs1) ?_
        rintro _ I2 J2 R2 ⟨rfl, hI2, hR2, hF2, hP2⟩
        subst hI2
        subst hR2
        refine LA0 e180_76 ?_
        refine Gr e180_77 (o152 L) (hR 152 12 161 rfl) f780 ?_
        refine LA0 e180_80 ?_
        refine Gr e180_81 (o152 L) (hR 152 11 160 rfl) f779 ?_
        refine Cs2p e180_84 c180_172 (Nat.le_of_ble_eq_true rfl) (Nat.le_of_ble_eq_true rfl) (m_copies (o160 L) (o161 L) (by decide) (hP.fr hF2 (by decide))) ?_
        rintro _ I3 J3 R3 ⟨rfl, hI3, hR3, hF3, hP3⟩
        subst hI3
        subst hR3
        refine Go e180_87 t180_87 ?_
        exact m_co_full hR hc hc7.1 (hP2.fr hF3 (by decide)) hs4 hf1 (fun J' g1 => ⟨rfl, rfl, hFl, ((hFL.tr (hF2.l (by simp))).tr (hF3.l (by simp))).tr (g1.l (by simp)), Or.inr ⟨rfl, hf1⟩⟩)
set_option maxHeartbeats 2000000 in
theorem m_common (hR : amRok R) (ha : amA (amSH L) a 1 9) (hb : amA (amSH L) b 1 9) (hc : amA (amSH L) c 1 9) (ha7 : a ≠ 159 ∧ a ≠ 160) (hb7 : b ≠ 159 ∧ b ≠ 160) (hc7 : c ≠ 159 ∧ c ≠ 160 ∧ c ≠ 161) (hp : JP J a p) (hq : JP J b q) (hpB : PB 4000000000000000000 p) (hqB : PB 4000000000000000000 q) (hf : I 152 9 = 0) : Cl 180 [.ref 152, .ref a, .ref b, .ref c] (amSH L) I J R (fun v I' J' R' => v = none ∧ R' = R ∧ CoP I J c (com p q) I' J') := by
  unfold com
  show Ex 180 0 [some (.ref 152), some (.ref a), some (.ref b), some (.ref c)] [] (amSH L) I J R _
  refine LA1 e180_0 ?_
  refine LA0 e180_1 ?_
  refine Gr e180_2 (o152 L) (hR 152 10 159 rfl) f778 ?_
  refine Cs2p e180_5 c180_172 (Nat.le_of_ble_eq_true rfl) (Nat.le_of_ble_eq_true rfl) (m_copies (o159 L) ha (by exact ha7.1) hp) ?_
  rintro _ I1 J1 R1 ⟨rfl, hI1, hR1, hF1, hP1⟩
  subst hI1
  subst hR1
  refine LA2 e180_8 ?_
  refine LA0 e180_9 ?_
  refine Gr e180_10 (o152 L) (hR 152 11 160 rfl) f779 ?_
  refine Cs2p e180_13 c180_172 (Nat.le_of_ble_eq_true rfl) (Nat.le_of_ble_eq_true rfl) (m_copies (o160 L) hb (by exact hb7.2) (hq.fr hF1 hb7.1)) ?_
  rintro _ I2 J2 R2 ⟨rfl, hI2, hR2, hF2, hP2⟩
  subst hI2
  subst hR2
  refine LA0 e180_16 ?_
  refine LA0 e180_17 ?_
  refine Gr e180_18 (o152 L) (hR 152 10 159 rfl) f778 ?_
  refine Cv1p e180_21 c180_175 (o152 L) (Nat.le_of_ble_eq_true rfl) (Nat.le_of_ble_eq_true rfl) (m_cleans (f := false) (o159 L) (hP1.fr hF2 (by decide)) hpB hf) ?_
  rintro _ I3 J3 R3 ⟨rfl, hR3, hG3, hf3, hF3, hP3⟩
  subst hR3
  rw [Bool.false_or] at hf3
  refine LA0 e180_24 ?_
  refine LA0 e180_25 ?_
  refine Gr e180_26 (o152 L) (hR 152 11 160 rfl) f779 ?_
  refine Cv1p e180_29 c180_175 (o152 L) (Nat.le_of_ble_eq_true rfl) (Nat.le_of_ble_eq_true rfl) (m_cleans (f := !fit p) (o160 L) (hP2.fr hF3 (by decide)) hqB hf3) ?_
  rintro _ I4 J4 R4 ⟨rfl, hR4, hG4, hf4, hF4, hP4⟩
  subst hR4
  have hFL : FrL [159, 160, 161, c] J J4 := (((hF1.l (by simp)).tr (hF2.l (by simp))).tr (hF3.l (by simp))).tr (hF4.l (by simp))
  have hP5 := hP3.fr hF4 (by decide)
  by_cases g : fit p = true ∧ fit q = true
  · rw [if_pos g]
    rw [g.1, g.2] at hf4
    rw [cmN_more (n := 10) (m := 10) (by have := sz_le (cln q); omega) (by have := sz_le (cln q); omega)]
    refine (m_co_lp hR hc hc7 10 _ _ I4 J4 (by have := sz_le (cln q); omega) hP5 hP4 (fit_PB g.1) (fit_PB g.2) hf4).mono (fun v I' J' R' ⟨q1, q2, q3⟩ => ⟨q1, q2, q3.tr (hG3.tr hG4) hFL⟩)
  · rw [if_neg g]
    have hf5 : I4 152 9 = 1 := by
      rw [hf4]
      cases h1 : fit p <;> cases h2 : fit q <;> simp_all [bI]
    refine m_co_full hR hc hc7.1 hP5 (cln_PB hpB) hf5 (fun J' g1 => ⟨rfl, rfl, hG3.tr hG4, hFL.tr (g1.l (by simp)), Or.inr ⟨rfl, hf5⟩⟩)
  
end REF4
