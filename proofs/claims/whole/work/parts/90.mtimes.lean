/-! the reference: stages, times (printed by wip/whole/t90.py) -/
theorem Ex.ie {j pc : Nat} {ls : amL} {st : List Value} {S : amS} {I I0 : amI} {J J0 : amJ} {R R0 : amR} {σ : PS} {X Y : Int32} (e : X = Y) (h : Ex j pc ls st S I J R (MP I0 J0 R0 σ (.int Y))) : Ex j pc ls st S I J R (MP I0 J0 R0 σ (.int X)) := e ▸ h
section REF23
variable {L : Nat} {I : amI} {J : amJ} {R : amR} {Q : amQ} {a b c B : Nat} {p q d : Po} {σ : PS} {l : List Po}
set_option maxHeartbeats 2000000 in
theorem m_commonF (hR : amRok R) (ha : amA (amSH L) a 1 9) (hb : amA (amSH L) b 1 9) (hc : amA (amSH L) c 1 9) (ha7 : a ≠ 159 ∧ a ≠ 160) (hb7 : b ≠ 159 ∧ b ≠ 160) (hc7 : c ≠ 159 ∧ c ≠ 160 ∧ c ≠ 161) (hp : JP J a p) (hq : JP J b q) (hpB : PB 4000000000000000000 p) (hqB : PB 4000000000000000000 q) (hf : I 152 9 = 1) : Cl 180 [.ref 152, .ref a, .ref b, .ref c] (amSH L) I J R (fun v I' J' R' => v = none ∧ R' = R ∧ FlI I I' ∧ FrL [159, 160, 161, c] J J' ∧ I' 152 9 = 1) := by
  show Ex 180 0 [some (.ref 152), some (.ref a), some (.ref b), some (.ref c)] [] (amSH L) I J R _
  refine LA1 e180_0 ?_
  refine LA0 e180_1 ?_
  refine Gr e180_2 (o152 L) (hR 152 10 159 rfl) f778 ?_
  refine Cs2p e180_5 c180_172 (Nat.le_of_ble_eq_true rfl) (Nat.le_of_ble_eq_true rfl) (m_copies (o159 L) ha (by exact ha7.1) hp) ?_
  rintro _ I1 J1 R1 ⟨rfl, hI1, hR1, hF1, hP1⟩
  have hI1 := hI1.symm
  subst hI1
  have hR1 := hR1.symm
  subst hR1
  refine LA2 e180_8 ?_
  refine LA0 e180_9 ?_
  refine Gr e180_10 (o152 L) (hR 152 11 160 rfl) f779 ?_
  refine Cs2p e180_13 c180_172 (Nat.le_of_ble_eq_true rfl) (Nat.le_of_ble_eq_true rfl) (m_copies (o160 L) hb (by exact hb7.2) (hq.fr hF1 hb7.1)) ?_
  rintro _ I2 J2 R2 ⟨rfl, hI2, hR2, hF2, hP2⟩
  have hI2 := hI2.symm
  subst hI2
  have hR2 := hR2.symm
  subst hR2
  refine LA0 e180_16 ?_
  refine LA0 e180_17 ?_
  refine Gr e180_18 (o152 L) (hR 152 10 159 rfl) f778 ?_
  refine Cv1p e180_21 c180_175 (o152 L) (Nat.le_of_ble_eq_true rfl) (Nat.le_of_ble_eq_true rfl) (m_cleans (f := true) (o159 L) (hP1.fr hF2 (by decide)) hpB hf) ?_
  rintro _ I3 J3 R3 ⟨rfl, hR3, hG3, hf3, hF3, hP3⟩
  have hR3 := hR3.symm
  subst hR3
  rw [Bool.true_or] at hf3
  refine LA0 e180_24 ?_
  refine LA0 e180_25 ?_
  refine Gr e180_26 (o152 L) (hR 152 11 160 rfl) f779 ?_
  refine Cv1p e180_29 c180_175 (o152 L) (Nat.le_of_ble_eq_true rfl) (Nat.le_of_ble_eq_true rfl) (m_cleans (f := true) (o160 L) (hP2.fr hF3 (by decide)) hqB hf3) ?_
  rintro _ I4 J4 R4 ⟨rfl, hR4, hG4, hf4, hF4, hP4⟩
  have hR4 := hR4.symm
  subst hR4
  rw [Bool.true_or] at hf4
  have hf4 : I4 152 9 = 1 := hf4
  have hFL : FrL [159, 160, 161, c] J J4 := (((hF1.l (by simp)).tr (hF2.l (by simp))).tr (hF3.l (by simp))).tr (hF4.l (by simp))
  exact m_co_full hR hc hc7.1 (hP3.fr hF4 (by decide)) (cln_PB hpB) hf4 (fun J' g1 => ⟨rfl, rfl, hG3.tr hG4, hFL.tr (g1.l (by simp)), hf4⟩)
def StgP (I : amI) (J : amJ) (o : Option Po) (I' : amI) (J' : amJ) : Prop := FlI I I' ∧ FrL [159, 160, 161, 185, 186] J J' ∧ ((∃ g, o = some g ∧ I' 152 9 = 0 ∧ JP J' 185 g) ∨ (o = none ∧ I' 152 9 = 1))
set_option maxHeartbeats 2000000 in
theorem m_stages (hR : amRok R) (hd : JP J 185 d) (hB : PB 1000000 d) (hf : I 152 9 = 0) : Cl 200 [.ref 152] (amSH L) I J R (fun v I' J' R' => v = none ∧ R' = R ∧ StgP I J (com d (der d)) I' J') := by
  have hdB : PB 4000000000000000000 (der d) := (der_PB hB).mono (by decide)
  show Ex 200 0 [some (.ref 152)] [] (amSH L) I J R _
  refine LA0 e200_0 ?_
  refine Gr e200_1 (o152 L) (hR 152 22 185 rfl) f790 ?_
  refine LA0 e200_4 ?_
  refine Gr e200_5 (o152 L) (hR 152 23 186 rfl) f791 ?_
  refine Cs2p e200_8 c200_178 (Nat.le_of_ble_eq_true rfl) (Nat.le_of_ble_eq_true rfl) (m_derives (o186 L) (o185 L) (by decide) hd) ?_
  rintro _ I1 J1 R1 ⟨rfl, hI1, hR1, hF1, hP1⟩
  have hI1 := hI1.symm
  subst hI1
  have hR1 := hR1.symm
  subst hR1
  refine LA0 e200_11 ?_
  refine LA0 e200_12 ?_
  refine Gr e200_13 (o152 L) (hR 152 22 185 rfl) f790 ?_
  refine LA0 e200_16 ?_
  refine Gr e200_17 (o152 L) (hR 152 23 186 rfl) f791 ?_
  refine LA0 e200_20 ?_
  refine Gr e200_21 (o152 L) (hR 152 22 185 rfl) f790 ?_
  refine Cv3p e200_24 c200_180 (o152 L) (Nat.le_of_ble_eq_true rfl) (Nat.le_of_ble_eq_true rfl) (m_common hR (o185 L) (o186 L) (o185 L) ⟨by decide, by decide⟩ ⟨by decide, by decide⟩ ⟨by decide, by decide, by decide⟩ (hd.fr hF1 (by decide)) hP1 (hB.mono (by decide)) hdB hf) ?_
  rintro _ I2 J2 R2 ⟨rfl, hR2, hG2, hL2, hD⟩
  have hR2 := hR2.symm
  subst hR2
  exact Rvd e200_27 rt200 (⟨rfl, rfl, hG2, (hF1.l (by simp)).tr (hL2.mono (fun z hz => by simp at hz ⊢; omega)), hD⟩)
set_option maxHeartbeats 2000000 in
theorem m_stagesF (hR : amRok R) (hd : JP J 185 d) (hB : PB 1000000 d) (hf : I 152 9 = 1) : Cl 200 [.ref 152] (amSH L) I J R (fun v I' J' R' => v = none ∧ R' = R ∧ FlI I I' ∧ FrL [159, 160, 161, 185, 186] J J' ∧ I' 152 9 = 1) := by
  have hdB : PB 4000000000000000000 (der d) := (der_PB hB).mono (by decide)
  show Ex 200 0 [some (.ref 152)] [] (amSH L) I J R _
  refine LA0 e200_0 ?_
  refine Gr e200_1 (o152 L) (hR 152 22 185 rfl) f790 ?_
  refine LA0 e200_4 ?_
  refine Gr e200_5 (o152 L) (hR 152 23 186 rfl) f791 ?_
  refine Cs2p e200_8 c200_178 (Nat.le_of_ble_eq_true rfl) (Nat.le_of_ble_eq_true rfl) (m_derives (o186 L) (o185 L) (by decide) hd) ?_
  rintro _ I1 J1 R1 ⟨rfl, hI1, hR1, hF1, hP1⟩
  have hI1 := hI1.symm
  subst hI1
  have hR1 := hR1.symm
  subst hR1
  refine LA0 e200_11 ?_
  refine LA0 e200_12 ?_
  refine Gr e200_13 (o152 L) (hR 152 22 185 rfl) f790 ?_
  refine LA0 e200_16 ?_
  refine Gr e200_17 (o152 L) (hR 152 23 186 rfl) f791 ?_
  refine LA0 e200_20 ?_
  refine Gr e200_21 (o152 L) (hR 152 22 185 rfl) f790 ?_
  refine Cv3p e200_24 c200_180 (o152 L) (Nat.le_of_ble_eq_true rfl) (Nat.le_of_ble_eq_true rfl) (m_commonF hR (o185 L) (o186 L) (o185 L) ⟨by decide, by decide⟩ ⟨by decide, by decide⟩ ⟨by decide, by decide, by decide⟩ (hd.fr hF1 (by decide)) hP1 (hB.mono (by decide)) hdB hf) ?_
  rintro _ I2 J2 R2 ⟨rfl, hR2, hG2, hL2, hD⟩
  have hR2 := hR2.symm
  subst hR2
  exact Rvd e200_27 rt200 (⟨rfl, rfl, hG2, (hF1.l (by simp)).tr (hL2.mono (fun z hz => by simp at hz ⊢; omega)), hD⟩)
/-- what a part of times leaves -/
def TimP (I : amI) (J : amJ) (R : amR) (val : Int32) (v : Option Value) (I' : amI) (J' : amJ) (R' : amR) : Prop := v = some (.int val) ∧ R' = R ∧ GoF 1 I I' ∧ ∀ y, y < 152 → J' y = J y
theorem TimP.tr {I I1 I' : amI} {J J1 J' : amJ} {R R' : amR} {val : Int32} {v : Option Value} (h : TimP I1 J1 R val v I' J' R') (h1 : GoF 1 I I1) (h2 : ∀ y, y < 152 → J1 y = J y) : TimP I J R val v I' J' R' := ⟨h.1, h.2.1, h1.tr h.2.2.1, fun y hy => (h.2.2.2 y hy).trans (h2 y hy)⟩
set_option maxHeartbeats 2000000 in
theorem m_tm_full {k : Nat} {y : Int32} {c : Nat} (hf : I 152 9 = 1) : Ex 201 70 [some (.ref 152), some (.int (nI k)), some (.int y), some (.int (nI c))] [] (amSH L) I J R (TimP I J R (-3)) := by
  refine LA0 e201_70 ?_
  refine Gi e201_71 (o152 L) (amGi_of f777 (by decide)) ?_
  rw [hf]
  refine B_ne e201_74 t201_74 (fun _ => ?_) (fun q => absurd (by decide) q)
  refine LA0 e201_126 ?_
  refine Gi e201_127 (o152 L) (amGi_of f777 (by decide)) ?_
  rw [hf]
  refine B_eq e201_130 t201_130 (fun q => absurd q (by decide)) (fun _ => ?_)
  refine Ki e201_133 kbipush_m3 ?_
  refine Go e201_135 t201_135 ?_
  exact Ri e201_139 rt201 (⟨rfl, rfl, GoF.rf, fun _ _ => rfl⟩)
set_option maxHeartbeats 2000000 in
theorem m_tm_lp {k : Nat} {y : Int32} {s : Fs} (hR : amRok R) : ∀ (n c : Nat) (d : Po) (I : amI) (J : amJ), sz d ≤ n → 0 < sz d → sz d ≤ 5 → PB 1000000 d → JP J 185 d → I 152 9 = 0 → FnM J s → Ex 201 70 [some (.ref 152), some (.int (nI k)), some (.int y), some (.int (nI c))] [] (amSH L) I J R (TimP I J R (tmR s n d c)) := by
  intro n
  induction n with
  | zero => intro c d I J h1 h2; omega
  | succ n ih =>
    intro c d I J hn h0 h5 hB hd hf hs
    have hdg : PB 4000000000000000000 d := hB.mono (by decide)
    rw [tmR]
    by_cases e : sz d ≤ 1
    · rw [if_pos e]
      have e1 : sz d = 1 := by omega
      refine LA0 e201_70 ?_
      refine Gi e201_71 (o152 L) (amGi_of f777 (by decide)) ?_
      rw [hf]
      refine B_ne e201_74 t201_74 (fun q => absurd q ((fun z => z rfl))) (fun _ => ?_)
      refine LA0 e201_77 ?_
      refine Gr e201_78 (o152 L) (hR 152 22 185 rfl) f790 ?_
      refine Cs1 e201_81 c201_173 (Nat.le_of_ble_eq_true rfl) (Nat.le_of_ble_eq_true rfl) ((m_degree (o185 L) hd hdg)) ?_
      rw [e1]
      rw [show dI 1 = 0 from rfl]
      refine B_le e201_84 t201_84 (fun _ => ?_) (fun q => absurd (by decide) q)
      refine LA0 e201_126 ?_
      refine Gi e201_127 (o152 L) (amGi_of f777 (by decide)) ?_
      rw [hf]
      refine B_eq e201_130 t201_130 (fun _ => ?_) (fun q => absurd (rfl) q)
      refine LI3 e201_138 ?_
      exact Ri e201_139 rt201 (⟨rfl, rfl, GoF.rf, fun _ _ => rfl⟩)
    · rw [if_neg e]
      have hgt : ¬ dI (sz d) ≤ 0 := fun z => by
        rw [i32le, dI_toInt (by omega), show (0 : Int32).toInt = 0 from rfl] at z
        omega
      have hdz := der_szz h0
      refine LA0 e201_70 ?_
      refine Gi e201_71 (o152 L) (amGi_of f777 (by decide)) ?_
      rw [hf]
      refine B_ne e201_74 t201_74 (fun q => absurd q ((fun z => z rfl))) (fun _ => ?_)
      refine LA0 e201_77 ?_
      refine Gr e201_78 (o152 L) (hR 152 22 185 rfl) f790 ?_
      refine Cs1 e201_81 c201_173 (Nat.le_of_ble_eq_true rfl) (Nat.le_of_ble_eq_true rfl) ((m_degree (o185 L) hd hdg)) ?_
      refine B_le e201_84 t201_84 (fun q => absurd q (hgt)) (fun _ => ?_)
      refine LA0 e201_87 ?_
      refine Ki e201_88 kiconst_1 ?_
      refine LA0 e201_89 ?_
      refine Gr e201_90 (o152 L) (hR 152 22 185 rfl) f790 ?_
      refine Cv2p e201_93 c201_184 (o152 L) (Nat.le_of_ble_eq_true rfl) (Nat.le_of_ble_eq_true rfl) (m_chains (B := 1) hR (by decide) (o185 L) (by decide) hd hB h0 h5 hf) ?_
      rintro _ I1 J1 R1 ⟨rfl, hR1, hG1, hF1, hD⟩
      have hR1 := hR1.symm
      subst hR1
      have hd1 : JP J1 185 d := fun i hi => by rw [hF1 185 (by simp) (by omega)]; exact hd i hi
      have hs1 : FnM J1 s := by
        unfold FnM
        rw [hF1 152 (by simp) (by omega)]
        exact hs
      rcases hD with ⟨l, hl, hf1, hM⟩ | ⟨hl, hf1⟩
      · rw [hl]
        dsimp only
        refine LI3 e201_96 ?_
        refine LA0 e201_97 ?_
        refine Gi e201_98 (o152 L) (amGi_of f777 (by decide)) ?_
        rw [hf1]
        refine B_ne e201_101 t201_101 (fun q => absurd q ((fun z => z rfl))) (fun _ => ?_)
        refine LA0 e201_104 ?_
        refine Ki e201_105 kiconst_1 ?_
        refine Cv1 e201_106 c201_199 (o152 L) (Nat.le_of_ble_eq_true rfl) (Nat.le_of_ble_eq_true rfl) ((m_within hR (by decide) hM hs1)) ?_
        refine B_le e201_109 t201_109 (fun h109 => ?_) (fun h109 => ?_)
        · refine Ki e201_116 kiconst_0 ?_
          refine IaddN (a := c) (b := 0) e201_117 rfl (by decide) ?_
          refine SI3 e201_118 rfl ?_
          refine LA0 e201_119 ?_
          have hif : (if 0 < fHo l s then c + 1 else c) = c := if_neg (fun z => absurd h109 (Int32.not_le.mpr z))
          refine Cv0p e201_120 c201_200 (o152 L) (Nat.le_of_ble_eq_true rfl) (Nat.le_of_ble_eq_true rfl) (m_stages hR hd1 hB hf1) ?_
          rintro _ I2 J2 R2 ⟨rfl, hR2, hG2, hL2, hD⟩
          have hR2 := hR2.symm
          subst hR2
          have hJ2 : ∀ y, y < 152 → J2 y = J y := fun y hy => by rw [hL2 y (by simp; omega), hF1 y (by simp; omega) (by omega)]
          have hs2 : FnM J2 s := by
            unfold FnM
            rw [hL2 152 (by simp)]
            exact hs1
          rcases hD with ⟨g, hg, hf2, hP2⟩ | ⟨hg, hf2⟩
          · rw [hg]
            dsimp only
            rw [hif]
            refine Go e201_123 t201_123 ?_
            have hgl := com_le hg (by omega)
            refine (ih c g _ _ (by omega) (by omega) (by omega) (com_PB hg) hP2 hf2 ?_).mono (fun v I' J' R' hp => TimP.tr hp (hG1.tr hG2.go) hJ2)
            exact hs2
          · rw [hg]
            refine Go e201_123 t201_123 ?_
            exact (m_tm_full hf2).mono (fun v I' J' R' hp => TimP.tr hp (hG1.tr hG2.go) hJ2)
        · refine Ki e201_112 kiconst_1 ?_
          refine Go e201_113 t201_113 ?_
          refine IaddN (a := c) (b := 1) e201_117 rfl (by decide) ?_
          refine SI3 e201_118 rfl ?_
          refine LA0 e201_119 ?_
          have hif : (if 0 < fHo l s then c + 1 else c) = (c + 1) := if_pos (Int32.not_le.mp h109)
          refine Cv0p e201_120 c201_200 (o152 L) (Nat.le_of_ble_eq_true rfl) (Nat.le_of_ble_eq_true rfl) (m_stages hR hd1 hB hf1) ?_
          rintro _ I2 J2 R2 ⟨rfl, hR2, hG2, hL2, hD⟩
          have hR2 := hR2.symm
          subst hR2
          have hJ2 : ∀ y, y < 152 → J2 y = J y := fun y hy => by rw [hL2 y (by simp; omega), hF1 y (by simp; omega) (by omega)]
          have hs2 : FnM J2 s := by
            unfold FnM
            rw [hL2 152 (by simp)]
            exact hs1
          rcases hD with ⟨g, hg, hf2, hP2⟩ | ⟨hg, hf2⟩
          · rw [hg]
            dsimp only
            rw [hif]
            refine Go e201_123 t201_123 ?_
            have hgl := com_le hg (by omega)
            refine (ih (c + 1) g _ _ (by omega) (by omega) (by omega) (com_PB hg) hP2 hf2 ?_).mono (fun v I' J' R' hp => TimP.tr hp (hG1.tr hG2.go) hJ2)
            exact hs2
          · rw [hg]
            refine Go e201_123 t201_123 ?_
            exact (m_tm_full hf2).mono (fun v I' J' R' hp => TimP.tr hp (hG1.tr hG2.go) hJ2)
      · rw [hl]
        refine LI3 e201_96 ?_
        refine LA0 e201_97 ?_
        refine Gi e201_98 (o152 L) (amGi_of f777 (by decide)) ?_
        rw [hf1]
        refine B_ne e201_101 t201_101 (fun _ => ?_) (fun q => absurd (by decide) q)
        refine Ki e201_116 kiconst_0 ?_
        refine IaddN (a := c) (b := 0) e201_117 rfl (by decide) ?_
        refine SI3 e201_118 rfl ?_
        refine LA0 e201_119 ?_
        refine Cv0p e201_120 c201_200 (o152 L) (Nat.le_of_ble_eq_true rfl) (Nat.le_of_ble_eq_true rfl) (m_stagesF hR hd1 hB hf1) ?_
        rintro _ I2 J2 R2 ⟨rfl, hR2, hG2, hL2, hf2⟩
        have hR2 := hR2.symm
        subst hR2
        have hJ2 : ∀ y, y < 152 → J2 y = J y := fun y hy => by rw [hL2 y (by simp; omega), hF1 y (by simp; omega) (by omega)]
        refine Go e201_123 t201_123 ?_
        exact (m_tm_full hf2).mono (fun v I' J' R' hp => TimP.tr hp (hG1.tr hG2.go) hJ2)
theorem tm_fin {I0 I1 I' : amI} {J0 J1 J' : amJ} {R' : amR} {val : Int32} {v : Option Value} (h : MSt I0 J0 R σ) (hk : MK I0 I1 J0 J1) (hp : TimP I1 J1 R val v I' J' R') : MP I0 J0 R σ (.int val) v I' J' R' := by
  obtain ⟨h1, h2, h3, h4⟩ := hp
  subst h1
  subst h2
  exact MP.k h (hk.tr (h3.k h4))
set_option maxHeartbeats 2000000 in
theorem n_times {p q : Int32} (h : MSt I J R σ) : Cl 201 [.ref 152, .int p, .int q] (amSH L) I J R (MP I J R σ (.int (sTimes σ.1 p q))) := by
  obtain ⟨hR, hPl, -, -, -, -, hO⟩ := id h
  have h8 := hO.1.1
  have hk0 : MK I (amU I 152 9 0) J J := ⟨fun y i a b c => by unfold amU; rw [if_neg (by omega)], fun _ _ => rfl⟩
  have h0 : MSt (amU I 152 9 0) J R σ := h.k hk0
  unfold sTimes
  show Ex 201 0 [some (.ref 152), some (.int p), some (.int q), none] [] (amSH L) I J R _
  by_cases hp : inP σ.1 p
  · rw [if_pos hp]
    obtain ⟨k, hk, rfl, ek⟩ := hp.of h8
    have hok := hO.1.2 k hk
    rw [ek]
    have h5 := hok.2.2
    have ei : bI (decide (inP σ.1 (nI k))) = 1 := by rw [decide_eq_true hp]; rfl
    refine LA0 e201_0 ?_
    refine LI1 e201_1 ?_
    refine Cv1 e201_2 c201_157 (o152 L) (Nat.le_of_ble_eq_true rfl) (Nat.le_of_ble_eq_true rfl) ((m_isPoly h8 hPl.1)) ?_
    rw [ei]
    refine B_ne e201_5 t201_5 (fun _ => ?_) (fun q => absurd (by decide) q)
    refine LA0 e201_10 ?_
    refine Cv0p e201_11 c201_189 (o152 L) (Nat.le_of_ble_eq_true rfl) (Nat.le_of_ble_eq_true rfl) (m_opens) ?_
    rintro _ I1 J1 R1 ⟨rfl, hI1, hJ1, hR1⟩
    have hI1 := hI1.symm
    subst hI1
    have hJ1 := hJ1.symm
    subst hJ1
    have hR1 := hR1.symm
    subst hR1
    refine LA0 e201_14 ?_
    refine Ki e201_15 kiconst_0 ?_
    refine LI1 e201_16 ?_
    refine LI2 e201_17 ?_
    refine Cv3p e201_18 c201_197 (o152 L) (Nat.le_of_ble_eq_true rfl) (Nat.le_of_ble_eq_true rfl) (m_isRoot (k := q) h0 (by decide) hk amU_same) ?_
    rintro v2 I2 J2 R2 ⟨hR2, hk2, hoth2, hD⟩
    have hR2 := hR2.symm
    subst hR2
    rcases hD with ⟨l, hll, hf2, hM, rfl⟩ | ⟨hll, hf2, rfl⟩
    · rw [hll]
      dsimp only
      by_cases hh : hasR l q
      · rw [if_pos hh]
        rw [decide_eq_true hh]
        rw [show bI true = 1 from rfl]
        refine B_ne e201_21 t201_21 (fun _ => ?_) (fun q => absurd (by decide) q)
        refine LA0 e201_38 ?_
        refine Ki e201_39 kiconst_0 ?_
        refine LI2 e201_40 ?_
        refine Ki e201_41 kiconst_0 ?_
        refine Cv3p e201_42 c201_196 (o152 L) (Nat.le_of_ble_eq_true rfl) (Nat.le_of_ble_eq_true rfl) (m_fences hR (by decide) hM (by decide) hf2) ?_
        rintro _ I3 J3 R3 ⟨rfl, hR3, hF3, hG3, hD⟩
        have hR3 := hR3.symm
        subst hR3
        rcases hD with ⟨s, hs, hFI, hI3, e1, e2, e3, e4⟩ | ⟨hs, hI3⟩
        · have hI3 := hI3.symm
          subst hI3
          rw [hs]
          dsimp only
          have hs3 : FnM J3 s := ⟨e1, e2, e3, e4⟩
          refine LA0 e201_45 ?_
          refine Gi e201_46 (o152 L) (amGi_of f777 (by decide)) ?_
          rw [hf2]
          refine B_eq e201_49 t201_49 (fun _ => ?_) (fun q => absurd (rfl) q)
          refine Ki e201_55 kiconst_1 ?_
          refine SI3 e201_56 rfl ?_
          refine LA0 e201_57 ?_
          refine LI1 e201_58 ?_
          refine LA0 e201_59 ?_
          refine Gr e201_60 (o152 L) (hR 152 22 185 rfl) f790 ?_
          refine Cv2p e201_63 c201_163 (o152 L) (Nat.le_of_ble_eq_true rfl) (Nat.le_of_ble_eq_true rfl) (m_loads hR (o185 L) (by omega) (fun i hi => (h0.k hk2).2.1.2 k i hk hi) hok) ?_
          rintro _ I4 J4 R4 ⟨rfl, hI4, hR4, hF4, hP4⟩
          have hI4 := hI4.symm
          subst hI4
          have hR4 := hR4.symm
          subst hR4
          refine LA0 e201_66 ?_
          refine Cv0p e201_67 c201_200 (o152 L) (Nat.le_of_ble_eq_true rfl) (Nat.le_of_ble_eq_true rfl) (m_stages hR hP4 hok.b6 hf2) ?_
          rintro _ I5 J5 R5 ⟨rfl, hR5, hG5, hL5, hD⟩
          have hR5 := hR5.symm
          subst hR5
          have hk5 : MK (amU I 152 9 0) I5 J J5 := hk2.tr ((hG5.go (B := 1)).k (fun y hy => by rw [hL5 y (by simp; omega), hF4 y (by omega), hF3 y (by omega)]))
          refine Ex.ie (tm_eq hok.b6 (hasR_sz hll hok.b6 hok.2.1 hh) hok.2.2) ?_
          rcases hD with ⟨g, hg, hf5, hP5⟩ | ⟨hg, hf5⟩
          · rw [hg]
            dsimp only
            have hgz := com_sz hg hok.2.1 hok.2.2 (by rw [der_szz hok.2.1]; have := hasR_sz hll hok.b6 hok.2.1 hh; omega) (by rw [der_szz hok.2.1]; omega)
            have hs5 : FnM J5 s := by
              unfold FnM
              rw [hL5 152 (by simp), hF4 152 (by decide)]
              exact hs3
            exact (m_tm_lp hR 5 1 g I5 J5 (by omega) hgz.1 hgz.2 (com_PB hg) hP5 hf5 hs5).mono (fun v I' J' R' hp => tm_fin h (hk0.tr hk5) hp)
          · rw [hg]
            exact (m_tm_full hf5).mono (fun v I' J' R' hp => tm_fin h (hk0.tr hk5) hp)
        · have hI3 := hI3.symm
          subst hI3
          rw [hs]
          refine LA0 e201_45 ?_
          refine Gi e201_46 (o152 L) (amGi_of f777 (by decide)) ?_
          rw [amU_same]
          refine B_eq e201_49 t201_49 (fun q => absurd q (by decide)) (fun _ => ?_)
          refine Ki e201_52 kbipush_m3 ?_
          exact Ri e201_54 rt201 (MP.k h ((hk0.tr hk2).tr ⟨fun y i a b c => by unfold amU; rw [if_neg (by omega)], fun y hy => hF3 y (by omega)⟩))
      · rw [if_neg hh]
        rw [decide_eq_false hh]
        rw [show bI false = 0 from rfl]
        refine B_ne e201_21 t201_21 (fun q => absurd q ((fun z => z rfl))) (fun _ => ?_)
        refine LA0 e201_24 ?_
        refine Gi e201_25 (o152 L) (amGi_of f777 (by decide)) ?_
        rw [hf2]
        refine B_eq e201_28 t201_28 (fun _ => ?_) (fun q => absurd (rfl) q)
        refine Ki e201_36 kiconst_m1 ?_
        exact Ri e201_37 rt201 (MP.k h (hk0.tr hk2))
    · rw [hll]
      refine B_ne e201_21 t201_21 (fun q => absurd q ((fun z => z rfl))) (fun _ => ?_)
      refine LA0 e201_24 ?_
      refine Gi e201_25 (o152 L) (amGi_of f777 (by decide)) ?_
      rw [hf2]
      refine B_eq e201_28 t201_28 (fun q => absurd q (by decide)) (fun _ => ?_)
      refine Ki e201_31 kbipush_m3 ?_
      refine Go e201_33 t201_33 ?_
      exact Ri e201_37 rt201 (MP.k h (hk0.tr hk2))
  · rw [if_neg hp]
    refine LA0 e201_0 ?_
    refine LI1 e201_1 ?_
    refine Cv1 e201_2 c201_157 (o152 L) (Nat.le_of_ble_eq_true rfl) (Nat.le_of_ble_eq_true rfl) ((m_isPoly h8 hPl.1)) ?_
    rw [show bI (decide (inP σ.1 p)) = 0 from by rw [decide_eq_false hp]; rfl]
    refine B_ne e201_5 t201_5 (fun q => absurd q ((fun z => z rfl))) (fun _ => ?_)
    refine Ki e201_8 kiconst_m1 ?_
    exact Ri e201_9 rt201 (MP.rf h)
end REF23
