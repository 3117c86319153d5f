/-! the reference: of (printed by wip/whole/t76.py) -/
theorem bI_tt {b : Bool} (h : ¬ bI b = 0) : b = true := by
  cases b
  · exact absurd rfl h
  · rfl
theorem bI_ff {b : Bool} (h : bI b = 0) : b = false := by
  cases b
  · rfl
  · revert h; decide
section REF13
variable {L : Nat} {I : amI} {J : amJ} {R : amR} {Q : amQ} {a B : Nat} {q : Po} {ps l : List Po} {σ : PS}
set_option maxHeartbeats 2000000 in
theorem m_lk_lp {k t c : Nat} (hR : amRok R) (hM : MPl I 153 2 ps) (h8 : ps.length ≤ 8) (hO : ∀ k, k < ps.length → Pok (ps.getD k zP)) (hk : k < ps.length) (ht : t < ps.length) (hQ : Ex 165 67 [some (.ref 152), some (.int (nI k)), some (.int (nI c)), some (.int (nI t)), some (.int (bI (lkP (ps.getD t zP) (ps.getD k zP) 5))), some (.int (nI 5))] [] (amSH L) I J R Q) : ∀ (m i : Nat), i + m = 5 → Ex 165 18 [some (.ref 152), some (.int (nI k)), some (.int (nI c)), some (.int (nI t)), some (.int (bI (lkP (ps.getD t zP) (ps.getD k zP) i))), some (.int (nI i))] [] (amSH L) I J R Q := by
  intro m
  induction m with
  | zero =>
    intro i hi
    have e : i = 5 := by omega
    subst e
    refine LI5 e165_18 ?_
    refine Ki e165_20 kiconst_5 ?_
    refine CN_ge (a := 5) (b := 5) e165_21 t165_21 rfl (by decide) (by omega) (by omega) (fun _ => ?_) (fun q => by omega)
    exact hQ
  | succ m ih =>
    intro i hi
    have b1 := (hO k hk).1 i (by omega)
    have b2 := (hO t ht).1 i (by omega)
    have e1 := hM.2 k i hk (by omega)
    have e2 := hM.2 t i ht (by omega)
    have b1w : -2000000000 ≤ ps.getD k zP i ∧ ps.getD k zP i ≤ 2000000000 := by omega
    have b2w : -2000000000 ≤ ps.getD t zP i ∧ ps.getD t zP i ≤ 2000000000 := by omega
    refine LI5 e165_18 ?_
    refine Ki e165_20 kiconst_5 ?_
    refine CN_ge (a := i) (b := 5) e165_21 t165_21 rfl (by decide) (by omega) (by omega) (fun q => absurd q (by omega)) (fun _ => ?_)
    refine LI4 e165_24 ?_
    refine B_eq e165_26 t165_26 (fun h26 => ?_) (fun h26 => ?_)
    · refine Ki e165_58 kiconst_0 ?_
      refine SI4 e165_59 rfl ?_
      refine IncN5 (m := i) e165_61 rfl ?_
      refine Go e165_64 t165_64 ?_
      have e5 : lkP (ps.getD t zP) (ps.getD k zP) (i + 1) = false := by
        rw [lkP]
        first
          | (rw [decide_eq_false (fun z => h51 ((iI_inj (by omega) (by omega)).mpr z.symm))]; exact Bool.and_false _)
          | (rw [bI_ff h26]; rfl)
      have e6 : (0 : Int32) = bI (lkP (ps.getD t zP) (ps.getD k zP) (i + 1)) := by rw [e5]; rfl
      rw [e6]
      exact ih (i + 1) (by omega)
    · refine LA0 e165_29 ?_
      refine Gr e165_30 (o152 L) (hR 152 1 153 rfl) f769 ?_
      refine Ki e165_33 kiconst_5 ?_
      refine LI1 e165_34 ?_
      refine ImulN (a := 5) (b := k) e165_35 (by decide) rfl ?_
      refine LI5 e165_36 ?_
      refine IaddN (a := (5 * k)) (b := i) e165_38 rfl rfl ?_
      refine AiN (k := ((5 * k) + i)) e165_39 (o153 L) rfl (by omega) (by decide) ?_
      rw [e1]
      refine LA0 e165_40 ?_
      refine Gr e165_41 (o152 L) (hR 152 1 153 rfl) f769 ?_
      refine Ki e165_44 kiconst_5 ?_
      refine LI3 e165_45 ?_
      refine ImulN (a := 5) (b := t) e165_46 (by decide) rfl ?_
      refine LI5 e165_47 ?_
      refine IaddN (a := (5 * t)) (b := i) e165_49 rfl rfl ?_
      refine AiN (k := ((5 * t) + i)) e165_50 (o153 L) rfl (by omega) (by decide) ?_
      rw [e2]
      refine C_ne e165_51 t165_51 (fun h51 => ?_) (fun h51 => ?_)
      · refine Ki e165_58 kiconst_0 ?_
        refine SI4 e165_59 rfl ?_
        refine IncN5 (m := i) e165_61 rfl ?_
        refine Go e165_64 t165_64 ?_
        have e5 : lkP (ps.getD t zP) (ps.getD k zP) (i + 1) = false := by
          rw [lkP]
          first
            | (rw [decide_eq_false (fun z => h51 ((iI_inj (by omega) (by omega)).mpr z.symm))]; exact Bool.and_false _)
            | (rw [bI_ff h26]; rfl)
        have e6 : (0 : Int32) = bI (lkP (ps.getD t zP) (ps.getD k zP) (i + 1)) := by rw [e5]; rfl
        rw [e6]
        exact ih (i + 1) (by omega)
      · refine Ki e165_54 kiconst_1 ?_
        refine Go e165_55 t165_55 ?_
        refine SI4 e165_59 rfl ?_
        refine IncN5 (m := i) e165_61 rfl ?_
        refine Go e165_64 t165_64 ?_
        have e5 : lkP (ps.getD t zP) (ps.getD k zP) (i + 1) = true := by
          rw [lkP]
          have h26 := bI_tt h26
          rw [h26, decide_eq_true ((iI_inj b1w b2w).mp (Decidable.not_not.mp h51)).symm]
          rfl
        have e6 : (1 : Int32) = bI (lkP (ps.getD t zP) (ps.getD k zP) (i + 1)) := by rw [e5]; rfl
        rw [e6]
        exact ih (i + 1) (by omega)
theorem alN_le (ps : List Po) (p : Po) : ∀ n, alN ps p n ≤ n
  | 0 => Nat.le_refl _
  | n + 1 => by
    have := alN_le ps p n
    rw [alN]
    split <;> omega
set_option maxHeartbeats 2000000 in
theorem m_al_lp {k : Nat} (hR : amRok R) (hM : MPl I 153 2 ps) (h8 : ps.length ≤ 8) (hO : ∀ k, k < ps.length → Pok (ps.getD k zP)) (hk : k < ps.length) (hQ : Q (some (.int (nI (alN ps (ps.getD k zP) ps.length)))) I J R) : ∀ (m t : Nat) (l4 l5 : Option Value), t + m = ps.length → Ex 165 4 [some (.ref 152), some (.int (nI k)), some (.int (nI (alN ps (ps.getD k zP) t))), some (.int (nI t)), l4, l5] [] (amSH L) I J R Q := by
  intro m
  induction m with
  | zero =>
    intro t l4 l5 ht
    have e : t = ps.length := by omega
    subst e
    refine LI3 e165_4 ?_
    refine LA0 e165_5 ?_
    refine Gi e165_6 (o152 L) (amGi_of f770 (by decide)) ?_
    rw [hM.1]
    refine CN_ge (a := ps.length) (b := ps.length) e165_9 t165_9 rfl rfl (by omega) (by omega) (fun _ => ?_) (fun q => by omega)
    refine LI2 e165_86 ?_
    exact Ri e165_87 rt165 (hQ)
  | succ m ih =>
    intro t l4 l5 ht
    have hal := alN_le ps (ps.getD k zP) t
    have hsz := lkP_sz (p := ps.getD t zP) (q := ps.getD k zP) (hO t (by omega)).2.2 (hO k hk).2.2
    refine LI3 e165_4 ?_
    refine LA0 e165_5 ?_
    refine Gi e165_6 (o152 L) (amGi_of f770 (by decide)) ?_
    rw [hM.1]
    refine CN_ge (a := t) (b := ps.length) e165_9 t165_9 rfl rfl (by omega) (by omega) (fun q => absurd q (by omega)) (fun _ => ?_)
    refine Ki e165_12 kiconst_1 ?_
    refine SI4 e165_13 rfl ?_
    refine Ki e165_15 kiconst_0 ?_
    refine SI5 e165_16 rfl ?_
    refine m_lk_lp hR hM h8 hO hk (by omega) ?_ 5 0 (by omega)
    refine LI2 e165_67 ?_
    refine LI4 e165_68 ?_
    refine B_eq e165_70 t165_70 (fun h70 => ?_) (fun h70 => ?_)
    · refine Ki e165_77 kiconst_0 ?_
      refine IaddN (a := (alN ps (ps.getD k zP) t)) (b := 0) e165_78 rfl (by decide) ?_
      refine SI2 e165_79 rfl ?_
      refine IncN3 (m := t) e165_80 rfl ?_
      refine Go e165_83 t165_83 ?_
      have e5 : alN ps (ps.getD k zP) (t + 1) = alN ps (ps.getD k zP) t + 0 := by
        rw [alN, hsz, if_neg (fun z => by rw [bI_ff h70] at z; cases z)]
      rw [Nat.add_zero] at e5
      rw [← e5]
      exact ih (t + 1) _ _ (by omega)
    · refine Ki e165_73 kiconst_1 ?_
      refine Go e165_74 t165_74 ?_
      refine IaddN (a := (alN ps (ps.getD k zP) t)) (b := 1) e165_78 rfl (by decide) ?_
      refine SI2 e165_79 rfl ?_
      refine IncN3 (m := t) e165_80 rfl ?_
      refine Go e165_83 t165_83 ?_
      have e5 : alN ps (ps.getD k zP) (t + 1) = alN ps (ps.getD k zP) t + 1 := by
        rw [alN, hsz, if_pos (bI_tt h70)]
      rw [← e5]
      exact ih (t + 1) _ _ (by omega)
set_option maxHeartbeats 2000000 in
theorem m_alike {k : Nat} (hR : amRok R) (hM : MPl I 153 2 ps) (h8 : ps.length ≤ 8) (hO : ∀ k, k < ps.length → Pok (ps.getD k zP)) (hk : k < ps.length) : Rv 165 [.ref 152, .int (nI k)] (amSH L) I J R (.int (nI (alN ps (ps.getD k zP) ps.length))) := by
  intro Q hQ
  show Ex 165 0 [some (.ref 152), some (.int (nI k)), none, none, none, none] [] (amSH L) I J R _
  refine Ki e165_0 kiconst_0 ?_
  refine SI2 e165_1 rfl ?_
  refine Ki e165_2 kiconst_0 ?_
  refine SI3 e165_3 rfl ?_
  exact m_al_lp hR hM h8 hO hk hQ ps.length 0 _ _ (by omega)
set_option maxHeartbeats 2000000 in
theorem n_of {p t : Int32} (h : MSt I J R σ) : Cl 166 [.ref 152, .int p, .int t] (amSH L) I J R (MP I J R σ (.int (sOf σ.1 p t))) := by
  obtain ⟨hR, hPl, h3, h4, h5, h6, h7⟩ := id h
  have h3 : M3 I σ.2.1 := h3
  have h4 : M4 I σ.2.2.1 σ.2.2.2.1 := h4
  have h5 : M5 I σ.2.2.2.2.1 := h5
  have h6 : M6 I σ.2.2.2.2.2.1 σ.2.2.2.2.2.2 := h6
  have h8 := h7.1.1
  have hn120 := h7.2.2.1
  have hw35 := h7.2.2.2.1
  unfold sOf
  show Ex 166 0 [some (.ref 152), some (.int p), some (.int t)] [] (amSH L) I J R _
  by_cases hp : inP σ.1 p
  · rw [if_pos hp]
    obtain ⟨k, hk, rfl, ek⟩ := hp.of h8
    have hok := h7.1.2 k hk
    have ei : bI (decide (inP σ.1 (nI k))) = 1 := by rw [decide_eq_true hp]; rfl
    rw [ek]
    by_cases e0 : t = 0
    · rw [if_pos e0]
      refine LA0 e166_0 ?_
      refine LI1 e166_1 ?_
      refine Cv1 e166_2 c166_157 (o152 L) (Nat.le_of_ble_eq_true rfl) (Nat.le_of_ble_eq_true rfl) ((m_isPoly h8 hPl.1)) ?_
      rw [ei]
      refine B_eq e166_5 t166_5 (fun q => absurd q (by decide)) (fun _ => ?_)
      refine LI2 e166_8 ?_
      refine I2l e166_9 ?_
      refine K0 e166_10 ?_
      refine Kd e166_11 kj3 ?_
      refine Cs3 e166_14 c166_152 (Nat.le_of_ble_eq_true rfl) (Nat.le_of_ble_eq_true rfl) (m_in) ?_
      rw [show decide ((0 : Int64) ≤ t.toInt64 ∧ t.toInt64 ≤ 2) = decide ((0 : Int32).toInt ≤ t.toInt ∧ t.toInt ≤ (2 : Int32).toInt) from min64 (a := 0) (b := 2), decide_eq_true (by subst e0; decide)]
      rw [show bI true = 1 from rfl]
      refine B_ne e166_17 t166_17 (fun _ => ?_) (fun q => absurd (by decide) q)
      refine LA0 e166_22 ?_
      refine LI1 e166_23 ?_
      refine LA0 e166_24 ?_
      refine Gr e166_25 (o152 L) (hR 152 7 157 rfl) f775 ?_
      refine Cv2p e166_28 c166_163 (o152 L) (Nat.le_of_ble_eq_true rfl) (Nat.le_of_ble_eq_true rfl) (m_loads hR (o157 L) (by omega) (fun i hi => hPl.2 k i hk hi) hok) ?_
      rintro _ I1 J1 R1 ⟨rfl, hI1, hR1, hF1, hP1⟩
      subst hI1
      subst hR1
      refine LI2 e166_31 ?_
      refine B_ne e166_32 t166_32 (fun q => absurd q (fun z => z e0)) (fun _ => ?_)
      refine LA0 e166_35 ?_
      refine Gr e166_36 (o152 L) (hR 152 7 157 rfl) f775 ?_
      refine Cs1 e166_39 c166_173 (Nat.le_of_ble_eq_true rfl) (Nat.le_of_ble_eq_true rfl) ((m_degree (o157 L) hP1 hok.b)) ?_
      refine Go e166_42 t166_42 ?_
      exact Ri e166_62 rt166 (MP.k h ⟨fun _ _ _ _ _ => rfl, fun y hy => hF1 y (by omega)⟩)
    · rw [if_neg e0]
      by_cases e1 : t = 1
      · rw [if_pos e1]
        refine LA0 e166_0 ?_
        refine LI1 e166_1 ?_
        refine Cv1 e166_2 c166_157 (o152 L) (Nat.le_of_ble_eq_true rfl) (Nat.le_of_ble_eq_true rfl) ((m_isPoly h8 hPl.1)) ?_
        rw [ei]
        refine B_eq e166_5 t166_5 (fun q => absurd q (by decide)) (fun _ => ?_)
        refine LI2 e166_8 ?_
        refine I2l e166_9 ?_
        refine K0 e166_10 ?_
        refine Kd e166_11 kj3 ?_
        refine Cs3 e166_14 c166_152 (Nat.le_of_ble_eq_true rfl) (Nat.le_of_ble_eq_true rfl) (m_in) ?_
        rw [show decide ((0 : Int64) ≤ t.toInt64 ∧ t.toInt64 ≤ 2) = decide ((0 : Int32).toInt ≤ t.toInt ∧ t.toInt ≤ (2 : Int32).toInt) from min64 (a := 0) (b := 2), decide_eq_true (by subst e1; decide)]
        rw [show bI true = 1 from rfl]
        refine B_ne e166_17 t166_17 (fun _ => ?_) (fun q => absurd (by decide) q)
        refine LA0 e166_22 ?_
        refine LI1 e166_23 ?_
        refine LA0 e166_24 ?_
        refine Gr e166_25 (o152 L) (hR 152 7 157 rfl) f775 ?_
        refine Cv2p e166_28 c166_163 (o152 L) (Nat.le_of_ble_eq_true rfl) (Nat.le_of_ble_eq_true rfl) (m_loads hR (o157 L) (by omega) (fun i hi => hPl.2 k i hk hi) hok) ?_
        rintro _ I1 J1 R1 ⟨rfl, hI1, hR1, hF1, hP1⟩
        subst hI1
        subst hR1
        refine LI2 e166_31 ?_
        refine B_ne e166_32 t166_32 (fun _ => ?_) (fun q => absurd (e0) q)
        refine LI2 e166_45 ?_
        refine Ki e166_46 kiconst_1 ?_
        refine C_ne e166_47 t166_47 (fun q => absurd q (fun z => z e1)) (fun _ => ?_)
        refine LA0 e166_50 ?_
        refine Cv0 e166_51 c166_164 (o152 L) (Nat.le_of_ble_eq_true rfl) (Nat.le_of_ble_eq_true rfl) ((m_sc hR hP1 hok.2.2)) ?_
        refine Go e166_54 t166_54 ?_
        exact Ri e166_62 rt166 (MP.k h ⟨fun _ _ _ _ _ => rfl, fun y hy => hF1 y (by omega)⟩)
      · rw [if_neg e1]
        by_cases e2 : t = 2
        · rw [if_pos e2]
          refine LA0 e166_0 ?_
          refine LI1 e166_1 ?_
          refine Cv1 e166_2 c166_157 (o152 L) (Nat.le_of_ble_eq_true rfl) (Nat.le_of_ble_eq_true rfl) ((m_isPoly h8 hPl.1)) ?_
          rw [ei]
          refine B_eq e166_5 t166_5 (fun q => absurd q (by decide)) (fun _ => ?_)
          refine LI2 e166_8 ?_
          refine I2l e166_9 ?_
          refine K0 e166_10 ?_
          refine Kd e166_11 kj3 ?_
          refine Cs3 e166_14 c166_152 (Nat.le_of_ble_eq_true rfl) (Nat.le_of_ble_eq_true rfl) (m_in) ?_
          rw [show decide ((0 : Int64) ≤ t.toInt64 ∧ t.toInt64 ≤ 2) = decide ((0 : Int32).toInt ≤ t.toInt ∧ t.toInt ≤ (2 : Int32).toInt) from min64 (a := 0) (b := 2), decide_eq_true (by subst e2; decide)]
          rw [show bI true = 1 from rfl]
          refine B_ne e166_17 t166_17 (fun _ => ?_) (fun q => absurd (by decide) q)
          refine LA0 e166_22 ?_
          refine LI1 e166_23 ?_
          refine LA0 e166_24 ?_
          refine Gr e166_25 (o152 L) (hR 152 7 157 rfl) f775 ?_
          refine Cv2p e166_28 c166_163 (o152 L) (Nat.le_of_ble_eq_true rfl) (Nat.le_of_ble_eq_true rfl) (m_loads hR (o157 L) (by omega) (fun i hi => hPl.2 k i hk hi) hok) ?_
          rintro _ I1 J1 R1 ⟨rfl, hI1, hR1, hF1, hP1⟩
          subst hI1
          subst hR1
          refine LI2 e166_31 ?_
          refine B_ne e166_32 t166_32 (fun _ => ?_) (fun q => absurd (e0) q)
          refine LI2 e166_45 ?_
          refine Ki e166_46 kiconst_1 ?_
          refine C_ne e166_47 t166_47 (fun _ => ?_) (fun q => absurd (e1) q)
          refine LA0 e166_57 ?_
          refine LI1 e166_58 ?_
          refine Cv1 e166_59 c166_165 (o152 L) (Nat.le_of_ble_eq_true rfl) (Nat.le_of_ble_eq_true rfl) ((m_alike hR hPl h8 h7.1.2 hk)) ?_
          exact Ri e166_62 rt166 (MP.k h ⟨fun _ _ _ _ _ => rfl, fun y hy => hF1 y (by omega)⟩)
        · rw [if_neg e2]
          refine LA0 e166_0 ?_
          refine LI1 e166_1 ?_
          refine Cv1 e166_2 c166_157 (o152 L) (Nat.le_of_ble_eq_true rfl) (Nat.le_of_ble_eq_true rfl) ((m_isPoly h8 hPl.1)) ?_
          rw [ei]
          refine B_eq e166_5 t166_5 (fun q => absurd q (by decide)) (fun _ => ?_)
          refine LI2 e166_8 ?_
          refine I2l e166_9 ?_
          refine K0 e166_10 ?_
          refine Kd e166_11 kj3 ?_
          refine Cs3 e166_14 c166_152 (Nat.le_of_ble_eq_true rfl) (Nat.le_of_ble_eq_true rfl) (m_in) ?_
          rw [show decide ((0 : Int64) ≤ t.toInt64 ∧ t.toInt64 ≤ 2) = decide ((0 : Int32).toInt ≤ t.toInt ∧ t.toInt ≤ (2 : Int32).toInt) from min64 (a := 0) (b := 2), decide_eq_false (fun z => by
            have z1 := z.1
            have z2 := z.2
            rw [show (0 : Int32).toInt = 0 from rfl] at z1
            rw [show (2 : Int32).toInt = 2 from rfl] at z2
            rcases (by omega : t.toInt = 0 ∨ t.toInt = 1 ∨ t.toInt = 2) with y | y | y
            · exact e0 (Int32.toInt_inj.mp y)
            · exact e1 (Int32.toInt_inj.mp y)
            · exact e2 (Int32.toInt_inj.mp y))]
          rw [show bI false = 0 from rfl]
          refine B_ne e166_17 t166_17 (fun q => absurd q (fun z => z rfl)) (fun _ => ?_)
          refine Ki e166_20 kiconst_m1 ?_
          exact Ri e166_21 rt166 (MP.rf h)
  · rw [if_neg hp]
    refine LA0 e166_0 ?_
    refine LI1 e166_1 ?_
    refine Cv1 e166_2 c166_157 (o152 L) (Nat.le_of_ble_eq_true rfl) (Nat.le_of_ble_eq_true rfl) ((m_isPoly h8 hPl.1)) ?_
    rw [show bI (decide (inP σ.1 p)) = 0 from by rw [decide_eq_false hp]; rfl]
    refine B_eq e166_5 t166_5 (fun _ => ?_) (fun q => absurd (rfl) q)
    refine Ki e166_20 kiconst_m1 ?_
    exact Ri e166_21 rt166 (MP.rf h)
end REF13
