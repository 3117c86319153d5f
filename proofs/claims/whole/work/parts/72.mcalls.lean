/-! the reference: number, value, drop, bound (printed by wip/whole/t72.py) -/
theorem min4 {m : Int32} : decide ((0 : Int64) ≤ m.toInt64 ∧ m.toInt64 ≤ 4) = decide (0 ≤ m.toInt ∧ m.toInt ≤ 4) := decide_eq_decide.mpr (by
  rw [show (0 : Int64) = (0 : Int32).toInt64 from rfl, show (4 : Int64) = (4 : Int32).toInt64 from rfl, i64_le, i64_le]
  rfl)
theorem MPl.up {I : amI} {y m z i : Nat} {v : Int32} {ps : List Po} (h : MPl I y m ps) (h1 : ¬ (152 = z ∧ m = i)) (h2 : y ≠ z) : MPl (amU I z i v) y m ps := ⟨by unfold amU; rw [if_neg h1]; exact h.1, fun p k hp hk => by rw [amU_ne h2]; exact h.2 p k hp hk⟩
section REF9
variable {L : Nat} {I : amI} {J : amJ} {R : amR} {Q : amQ} {a B : Nat} {q : Po} {ps l : List Po} {σ : PS}
set_option maxHeartbeats 2000000 in
theorem n_number {p m : Int32} (h : MSt I J R σ) : Cl 162 [.ref 152, .int p, .int m] (amSH L) I J R (MP I J R σ (.long (sNumber σ.1 p m))) := by
  obtain ⟨hR, hPl, -, -, -, -, hO⟩ := id h
  have h8 := hO.1.1
  have hk0 : MK I (amU I 152 9 0) J J := ⟨fun y i a b c => by unfold amU; rw [if_neg (by omega)], fun _ _ => rfl⟩
  have h0 : MSt (amU I 152 9 0) J R σ := h.k hk0
  unfold sNumber
  show Ex 162 0 [some (.ref 152), some (.int p), some (.int m)] [] (amSH L) I J R _
  by_cases hp : inP σ.1 p
  · rw [if_pos hp]
    obtain ⟨k, hk, rfl, ek⟩ := hp.of h8
    have hok := hO.1.2 k hk
    rw [ek]
    have h5 := hok.2.2
    have ei : bI (decide (inP σ.1 (nI k))) = 1 := by rw [decide_eq_true hp]; rfl
    by_cases gm : 0 ≤ m.toInt ∧ m.toInt ≤ 4
    · rw [if_pos gm]
      obtain ⟨t, ht, rfl⟩ : ∃ t : Nat, t < 5 ∧ m = nI t := ⟨m.toInt.toNat, by omega, by rw [← Int32.toInt_inj, nI_toInt (by omega)]; omega⟩
      have et : (nI t).toInt.toNat = t := by rw [nI_toInt (by omega)]; omega
      have hb := hok.1 t (by omega)
      rw [et]
      refine LA0 e162_0 ?_
      refine LI1 e162_1 ?_
      refine Cv1 e162_2 c162_157 (o152 L) (Nat.le_of_ble_eq_true rfl) (Nat.le_of_ble_eq_true rfl) ((m_isPoly h8 hPl.1)) ?_
      rw [ei]
      refine B_eq e162_5 t162_5 (fun q => absurd q (by decide)) (fun _ => ?_)
      refine LI2 e162_8 ?_
      refine I2l e162_9 ?_
      refine K0 e162_10 ?_
      refine Kd e162_11 kj7 ?_
      refine Cs3 e162_14 c162_152 (Nat.le_of_ble_eq_true rfl) (Nat.le_of_ble_eq_true rfl) (m_in) ?_
      rw [min4, decide_eq_true gm]
      rw [show bI true = 1 from rfl]
      refine B_eq e162_17 t162_17 (fun q => absurd q (by decide)) (fun _ => ?_)
      refine LA0 e162_20 ?_
      refine Gr e162_21 (o152 L) (hR 152 1 153 rfl) f769 ?_
      refine Ki e162_24 kiconst_5 ?_
      refine LI1 e162_25 ?_
      refine ImulN (a := 5) (b := k) e162_26 (by decide) rfl ?_
      refine LI2 e162_27 ?_
      refine IaddN (a := (5 * k)) (b := t) e162_28 rfl rfl ?_
      refine AiN (k := ((5 * k) + t)) e162_29 (o153 L) rfl (by omega) (by decide) ?_
      rw [hPl.2 k t hk ht]
      refine I2l e162_30 ?_
      rw [iI_64 (by omega)]
      refine Go e162_31 t162_31 ?_
      exact Rj e162_37 rt162 (MP.rf h)
    · rw [if_neg gm]
      refine LA0 e162_0 ?_
      refine LI1 e162_1 ?_
      refine Cv1 e162_2 c162_157 (o152 L) (Nat.le_of_ble_eq_true rfl) (Nat.le_of_ble_eq_true rfl) ((m_isPoly h8 hPl.1)) ?_
      rw [ei]
      refine B_eq e162_5 t162_5 (fun q => absurd q (by decide)) (fun _ => ?_)
      refine LI2 e162_8 ?_
      refine I2l e162_9 ?_
      refine K0 e162_10 ?_
      refine Kd e162_11 kj7 ?_
      refine Cs3 e162_14 c162_152 (Nat.le_of_ble_eq_true rfl) (Nat.le_of_ble_eq_true rfl) (m_in) ?_
      rw [min4, decide_eq_false gm]
      rw [show bI false = 0 from rfl]
      refine B_eq e162_17 t162_17 (fun _ => ?_) (fun q => absurd (rfl) q)
      refine Kd e162_34 kj4 ?_
      exact Rj e162_37 rt162 (MP.rf h)
  · rw [if_neg hp]
    refine LA0 e162_0 ?_
    refine LI1 e162_1 ?_
    refine Cv1 e162_2 c162_157 (o152 L) (Nat.le_of_ble_eq_true rfl) (Nat.le_of_ble_eq_true rfl) ((m_isPoly h8 hPl.1)) ?_
    rw [show bI (decide (inP σ.1 p)) = 0 from by rw [decide_eq_false hp]; rfl]
    refine B_eq e162_5 t162_5 (fun _ => ?_) (fun q => absurd (rfl) q)
    refine Kd e162_34 kj4 ?_
    exact Rj e162_37 rt162 (MP.rf h)
set_option maxHeartbeats 2000000 in
theorem n_value {p u v : Int32} (h : MSt I J R σ) : Cl 170 [.ref 152, .int p, .int u, .int v] (amSH L) I J R (MP I J R σ (.long (sValue σ.1 p u v))) := by
  obtain ⟨hR, hPl, -, -, -, -, hO⟩ := id h
  have h8 := hO.1.1
  have hk0 : MK I (amU I 152 9 0) J J := ⟨fun y i a b c => by unfold amU; rw [if_neg (by omega)], fun _ _ => rfl⟩
  have h0 : MSt (amU I 152 9 0) J R σ := h.k hk0
  unfold sValue
  show Ex 170 0 [some (.ref 152), some (.int p), some (.int u), some (.int v)] [] (amSH L) I J R _
  by_cases hp : inP σ.1 p
  · rw [if_pos hp]
    obtain ⟨k, hk, rfl, ek⟩ := hp.of h8
    have hok := hO.1.2 k hk
    rw [ek]
    have h5 := hok.2.2
    have ei : bI (decide (inP σ.1 (nI k))) = 1 := by rw [decide_eq_true hp]; rfl
    refine LA0 e170_0 ?_
    refine LI1 e170_1 ?_
    refine Cv1 e170_2 c170_157 (o152 L) (Nat.le_of_ble_eq_true rfl) (Nat.le_of_ble_eq_true rfl) ((m_isPoly h8 hPl.1)) ?_
    rw [ei]
    refine B_eq e170_5 t170_5 (fun q => absurd q (by decide)) (fun _ => ?_)
    refine LI2 e170_8 ?_
    refine LI3 e170_9 ?_
    refine Cs2 e170_10 c170_167 (Nat.le_of_ble_eq_true rfl) (Nat.le_of_ble_eq_true rfl) (m_isPoint) ?_
    refine B_ne e170_13 t170_13 (fun h13 => ?_) (fun h13 => ?_)
    · have g : isPt u v := bI_t h13
      rw [if_pos g]
      refine LA0 e170_20 ?_
      refine LI1 e170_21 ?_
      refine LA0 e170_22 ?_
      refine Gr e170_23 (o152 L) (hR 152 7 157 rfl) f775 ?_
      refine Cv2p e170_26 c170_163 (o152 L) (Nat.le_of_ble_eq_true rfl) (Nat.le_of_ble_eq_true rfl) (m_loads hR (o157 L) (by omega) (fun i hi => hPl.2 k i hk hi) hok) ?_
      rintro _ I1 J1 R1 ⟨rfl, hI1, hR1, hF1, hP1⟩
      subst hI1
      subst hR1
      refine LA0 e170_29 ?_
      refine Gr e170_30 (o152 L) (hR 152 7 157 rfl) f775 ?_
      refine LI2 e170_33 ?_
      refine I2l e170_34 ?_
      rw [i2l_oI u]
      refine LI3 e170_35 ?_
      refine I2l e170_36 ?_
      rw [i2l_oI v]
      refine Cs3 e170_37 c170_169 (Nat.le_of_ble_eq_true rfl) (Nat.le_of_ble_eq_true rfl) ((m_value (u := u.toInt) (v := v.toInt) (o157 L) hP1 hok.b hok.2.1)) ?_
      exact Rj e170_40 rt170 (MP.k h ⟨fun _ _ _ _ _ => rfl, fun y hy => hF1 y (by omega)⟩)
    · refine Kd e170_16 kj4 ?_
      exact Rj e170_19 rt170 (by
      rw [if_neg (bI_f h13)]
      exact MP.rf h)
  · rw [if_neg hp]
    refine LA0 e170_0 ?_
    refine LI1 e170_1 ?_
    refine Cv1 e170_2 c170_157 (o152 L) (Nat.le_of_ble_eq_true rfl) (Nat.le_of_ble_eq_true rfl) ((m_isPoly h8 hPl.1)) ?_
    rw [show bI (decide (inP σ.1 p)) = 0 from by rw [decide_eq_false hp]; rfl]
    refine B_eq e170_5 t170_5 (fun _ => ?_) (fun q => absurd (rfl) q)
    refine Kd e170_16 kj4 ?_
    exact Rj e170_19 rt170 (MP.rf h)
set_option maxHeartbeats 2000000 in
theorem n_drop (h : MSt I J R σ) : Cl 161 [.ref 152] (amSH L) I J R (MP I J R (sDrop σ).2 (.int (sDrop σ).1)) := by
  obtain ⟨hR, hPl, -, -, -, -, hO⟩ := id h
  have h8 := hO.1.1
  have hk0 : MK I (amU I 152 9 0) J J := ⟨fun y i a b c => by unfold amU; rw [if_neg (by omega)], fun _ _ => rfl⟩
  have h0 : MSt (amU I 152 9 0) J R σ := h.k hk0
  unfold sDrop
  show Ex 161 0 [some (.ref 152)] [] (amSH L) I J R _
  by_cases hp : σ.1.length = 0
  · rw [if_pos hp]
    refine LA0 e161_0 ?_
    refine Gi e161_1 (o152 L) (amGi_of f770 (by decide)) ?_
    rw [hPl.1, hp]
    rw [show nI 0 = 0 from rfl]
    refine B_ne e161_4 t161_4 (fun q => absurd q ((fun z => z rfl))) (fun _ => ?_)
    refine Ki e161_7 kbipush_m6 ?_
    exact Ri e161_9 rt161 (MP.rf h)
  · rw [if_neg hp]
    have hn0 : ¬ nI σ.1.length = 0 := fun z => by
      have z := congrArg Int32.toInt z
      rw [nI_toInt (by omega), show (0 : Int32).toInt = 0 from rfl] at z
      omega
    have hgt : ∀ p, p < σ.1.length - 1 → (σ.1.take (σ.1.length - 1)).getD p zP = σ.1.getD p zP := fun p hp2 => by rw [List.getD_eq_getElem?_getD, List.getElem?_take_of_lt hp2, ← List.getD_eq_getElem?_getD]
    refine LA0 e161_0 ?_
    refine Gi e161_1 (o152 L) (amGi_of f770 (by decide)) ?_
    rw [hPl.1]
    refine B_ne e161_4 t161_4 (fun _ => ?_) (fun q => absurd (hn0) q)
    refine LA0 e161_10 ?_
    refine Dup e161_11 rfl ?_
    refine Gi e161_12 (o152 L) (amGi_of f770 (by decide)) ?_
    rw [hPl.1]
    refine Ki e161_15 kiconst_1 ?_
    refine IsubN (a := σ.1.length) (b := 1) e161_16 rfl (by decide) (by omega) ?_
    refine Pi e161_17 (o152 L) f770 ?_
    refine LA0 e161_20 ?_
    refine Gi e161_21 (o152 L) (amGi_of f770 (by decide)) ?_
    rw [amU_same]
    exact Ri e161_24 rt161 (by
    obtain ⟨-, -, h3, h4, h5, h6, h7⟩ := id h
    refine ⟨rfl, ⟨hR, ⟨by rw [amU_same, List.length_take, Nat.min_eq_left (by omega)], fun p k hp2 hk => ?_⟩, ?_, ⟨by rw [amU_ni (by decide)]; exact h4.1, fun k hk => by rw [amU_ne (by decide)]; exact h4.2 k hk⟩, ⟨by rw [amU_ni (by decide)]; exact h5.1, fun k hk => by rw [amU_ne (by decide)]; exact h5.2 k hk⟩, fun k hk => ?_, ?_⟩, fun y hy => by funext i; rw [amU_ne (by omega)], fun _ _ => rfl, rfl⟩
    · rw [List.length_take, Nat.min_eq_left (by omega)] at hp2
      rw [amU_ne (by decide)]
      show _ = iI ((σ.1.take (σ.1.length - 1)).getD p zP k)
      rw [hgt p hp2]
      exact hPl.2 p k (by omega) hk
    · rcases h3 with h3 | ⟨l, e, h3⟩
      · exact Or.inl ⟨h3.1, by rw [amU_ni (by decide)]; exact h3.2⟩
      · exact Or.inr ⟨l, e, h3.up (by decide) (by decide)⟩
    · rw [amU_ne (by decide)]
      rcases h6 k hk with g | ⟨m, e1, e2, e3⟩
      · exact Or.inl g
      · exact Or.inr ⟨m, e1, e2, fun i hi => by rw [amU_ne (by decide)]; exact e3 i hi⟩
    · refine ⟨⟨by show (σ.1.take (σ.1.length - 1)).length ≤ 8; rw [List.length_take]; omega, fun k hk => ?_⟩, h7.2⟩
      have hk2 : k < (σ.1.take (σ.1.length - 1)).length := hk
      rw [List.length_take, Nat.min_eq_left (by omega)] at hk2
      show Pok ((σ.1.take (σ.1.length - 1)).getD k zP)
      rw [hgt k hk2]
      exact h7.1.2 k (by omega))
theorem rc0 {l : List Po} {n m : Nat} (h : tA l (-(m : Int)) 1 = tB l ∧ tA l m 1 = tU l) : rcF l (n + 1) m = m := by rw [rcF, if_pos h]
theorem rc1 {l : List Po} {n m : Nat} (h : ¬ (tA l (-(m : Int)) 1 = tB l ∧ tA l m 1 = tU l)) : rcF l (n + 1) m = rcF l n (m * 2) := by rw [rcF, if_neg h]
theorem pw10 {n m : Nat} (h : m * 2 ^ (n + 1) = 1024) : m ≤ 512 := by
  rw [Nat.pow_succ, ← Nat.mul_assoc] at h
  have h1 : 0 < 2 ^ n := Nat.pow_pos (by decide)
  have h2 : m * 1 ≤ m * 2 ^ n := Nat.mul_le_mul_left _ h1
  omega
theorem n64b : ∀ m, m ≤ 512 → (-nI m).toInt64 = oI (-(m : Int)) := fun m h => neg64 m (by omega)
theorem tA_5 {l : List Po} (u v : Int) : tA l u v ≤ l.length := by unfold tA; exact chN_le _ _
theorem tU_5 {l : List Po} (h : 1 ≤ l.length) : tU l ≤ 10 + l.length := by
  unfold tU
  have := df_le (sAb l) (l.length - 1)
  omega
theorem tB_5 {l : List Po} (h : 1 ≤ l.length) : tB l ≤ 10 + l.length := by
  unfold tB
  have := df_le (sBe l) (l.length - 1)
  omega
theorem nI_inj {a b : Nat} (ha : a < 1000) (hb : b < 1000) : nI a = nI b ↔ a = b := by
  constructor
  · intro e
    have z := congrArg Int32.toInt e
    rw [nI_toInt (by omega), nI_toInt (by omega)] at z
    omega
  · intro e
    rw [e]
set_option maxHeartbeats 2000000 in
theorem m_bo_lp (hR : amRok R) (hB3 : B < 3) (hM : MI I J B l) (hQ : rch l ≠ 0 → Q (some (.int (nI (rch l)))) I J R) (hQ0 : rch l = 0 → Q (some (.int (-3))) (amU I 152 9 1) J R) : ∀ (n m : Nat), m * 2 ^ n = 1024 → rcF l n m = rch l → 0 < m → Ex 194 2 [some (.ref 152), some (.int (nI B)), some (.int (nI m))] [] (amSH L) I J R Q := by
  have hl1 := hM.2.1
  have hl5 := hM.2.2.1
  have q1 := fun u v => tA_5 (l := l) u v
  have q2 := tU_5 hl1
  have q3 := tB_5 hl1
  intro n
  induction n with
  | zero =>
    intro m hm hr h0
    have e : m = 1024 := by rw [Nat.pow_zero] at hm; omega
    subst e
    have hz : rch l = 0 := by rw [← hr, rcF]
    refine LI2 e194_2 ?_
    refine Ki e194_3 ksipush_512 ?_
    refine CN_gt (a := 1024) (b := 512) e194_6 t194_6 rfl (by decide) (by omega) (by omega) (fun _ => ?_) (fun q => by omega)
    refine LA0 e194_53 ?_
    refine Ki e194_54 kiconst_1 ?_
    refine Pz e194_55 (o152 L) f777 (by decide) ?_
    refine Ki e194_58 kbipush_m3 ?_
    exact Ri e194_60 rt194 (hQ0 hz)
  | succ n ih =>
    intro m hm hr h0
    have hm5 := pw10 hm
    refine LI2 e194_2 ?_
    refine Ki e194_3 ksipush_512 ?_
    refine CN_gt (a := m) (b := 512) e194_6 t194_6 rfl (by decide) (by omega) (by omega) (fun q => absurd q (by omega)) (fun _ => ?_)
    refine LA0 e194_9 ?_
    refine LI1 e194_10 ?_
    refine LI2 e194_11 ?_
    refine Ineg e194_12 ?_
    refine I2l e194_13 ?_
    rw [n64b m hm5]
    refine K1 e194_14 ?_
    refine Cv3 e194_15 c194_186 (o152 L) (Nat.le_of_ble_eq_true rfl) (Nat.le_of_ble_eq_true rfl) ((m_chgAt (u := (-(m : Int))) (v := 1) hR hB3 hM)) ?_
    refine LA0 e194_18 ?_
    refine LI1 e194_19 ?_
    refine Ki e194_20 kiconst_m1 ?_
    refine Cv2 e194_21 c194_187 (o152 L) (Nat.le_of_ble_eq_true rfl) (Nat.le_of_ble_eq_true rfl) ((m_by_lo hR hB3 hM)) ?_
    refine C_ne e194_24 t194_24 (fun h24 => ?_) (fun h24 => ?_)
    · refine LI2 e194_46 ?_
      refine Ki e194_47 kiconst_2 ?_
      refine ImulN (a := m) (b := 2) e194_48 rfl (by decide) ?_
      refine SI2 e194_49 rfl ?_
      refine Go e194_50 t194_50 ?_
      refine ih (m * 2) (by rw [← hm, Nat.pow_succ]; ac_rfl) ?_ (by omega)
      rw [← hr]
      refine (rc1 (fun z => ?_)).symm
      first
        | exact absurd (congrArg nI z.2) h41
        | exact absurd (congrArg nI z.1) h24
    · refine LA0 e194_27 ?_
      refine LI1 e194_28 ?_
      refine LI2 e194_29 ?_
      refine I2l e194_30 ?_
      rw [nI_oI (n := m) (by omega)]
      refine K1 e194_31 ?_
      refine Cv3 e194_32 c194_186 (o152 L) (Nat.le_of_ble_eq_true rfl) (Nat.le_of_ble_eq_true rfl) ((m_chgAt (u := (m : Int)) (v := 1) hR hB3 hM)) ?_
      refine LA0 e194_35 ?_
      refine LI1 e194_36 ?_
      refine Ki e194_37 kiconst_1 ?_
      refine Cv2 e194_38 c194_187 (o152 L) (Nat.le_of_ble_eq_true rfl) (Nat.le_of_ble_eq_true rfl) ((m_by_hi hR hB3 hM)) ?_
      refine C_ne e194_41 t194_41 (fun h41 => ?_) (fun h41 => ?_)
      · refine LI2 e194_46 ?_
        refine Ki e194_47 kiconst_2 ?_
        refine ImulN (a := m) (b := 2) e194_48 rfl (by decide) ?_
        refine SI2 e194_49 rfl ?_
        refine Go e194_50 t194_50 ?_
        refine ih (m * 2) (by rw [← hm, Nat.pow_succ]; ac_rfl) ?_ (by omega)
        rw [← hr]
        refine (rc1 (fun z => ?_)).symm
        first
          | exact absurd (congrArg nI z.2) h41
          | exact absurd (congrArg nI z.1) h24
      · refine LI2 e194_44 ?_
        exact Ri e194_45 rt194 (by
        have q4 := q1 (-(m : Int)) 1
        have q5 := q1 (m : Int) 1
        have e : rch l = m := by
          rw [← hr]
          refine rc0 ⟨(nI_inj (by omega) (by omega)).mp ?_, (nI_inj (by omega) (by omega)).mp ?_⟩
          · first | exact h24 | exact Decidable.not_not.mp h24
          · first | exact h41 | exact Decidable.not_not.mp h41
        rw [e] at hQ
        exact hQ (by omega))
theorem m_bound (hR : amRok R) (hB3 : B < 3) (hM : MI I J B l)   : Cl 194 [.ref 152, .int (nI B)] (amSH L) I J R (fun v I' J' R' => J' = J ∧ R' = R ∧ ((rch l ≠ 0 ∧ v = some (.int (nI (rch l))) ∧ I' = I) ∨ (rch l = 0 ∧ v = some (.int (-3)) ∧ I' = amU I 152 9 1))) := by
  show Ex 194 0 [some (.ref 152), some (.int (nI B)), none] [] (amSH L) I J R _
  refine Ki e194_0 kiconst_1 ?_
  refine SI2 e194_1 rfl ?_
  exact m_bo_lp hR hB3 hM (fun hz => ⟨rfl, rfl, Or.inl ⟨hz, rfl, rfl⟩⟩) (fun hz => ⟨rfl, rfl, Or.inr ⟨hz, rfl, rfl⟩⟩) 10 1 (by decide) rfl (by decide)
set_option maxHeartbeats 2000000 in
theorem n_bound {p : Int32} (h : MSt I J R σ) : Cl 195 [.ref 152, .int p] (amSH L) I J R (MP I J R σ (.int (sBound σ.1 p))) := by
  obtain ⟨hR, hPl, -, -, -, -, hO⟩ := id h
  have h8 := hO.1.1
  have hk0 : MK I (amU I 152 9 0) J J := ⟨fun y i a b c => by unfold amU; rw [if_neg (by omega)], fun _ _ => rfl⟩
  have h0 : MSt (amU I 152 9 0) J R σ := h.k hk0
  unfold sBound
  show Ex 195 0 [some (.ref 152), some (.int p)] [] (amSH L) I J R _
  by_cases hp : inP σ.1 p
  · rw [if_pos hp]
    obtain ⟨k, hk, rfl, ek⟩ := hp.of h8
    have hok := hO.1.2 k hk
    rw [ek]
    have h5 := hok.2.2
    have ei : bI (decide (inP σ.1 (nI k))) = 1 := by rw [decide_eq_true hp]; rfl
    refine LA0 e195_0 ?_
    refine LI1 e195_1 ?_
    refine Cv1 e195_2 c195_157 (o152 L) (Nat.le_of_ble_eq_true rfl) (Nat.le_of_ble_eq_true rfl) ((m_isPoly h8 hPl.1)) ?_
    rw [ei]
    refine B_ne e195_5 t195_5 (fun _ => ?_) (fun q => absurd (by decide) q)
    refine LA0 e195_10 ?_
    refine Cv0p e195_11 c195_189 (o152 L) (Nat.le_of_ble_eq_true rfl) (Nat.le_of_ble_eq_true rfl) (m_opens) ?_
    rintro _ I1 J1 R1 ⟨rfl, hI1, hJ1, hR1⟩
    subst hI1
    subst hJ1
    subst hR1
    refine LA0 e195_14 ?_
    refine Ki e195_15 kiconst_0 ?_
    refine LI1 e195_16 ?_
    refine Cv2p e195_17 c195_185 (o152 L) (Nat.le_of_ble_eq_true rfl) (Nat.le_of_ble_eq_true rfl) (m_chainOf (p := k) h0 (by decide) hk amU_same) ?_
    rintro _ I2 J2 R2 ⟨rfl, hR2, hk2, hoth2, hD⟩
    subst hR2
    have hkk := hk0.tr hk2
    rcases hD with ⟨l, hll, hf2, hM⟩ | ⟨hll, hf2⟩
    · rw [hll]
      dsimp only
      refine LA0 e195_20 ?_
      refine Gi e195_21 (o152 L) (amGi_of f777 (by decide)) ?_
      rw [hf2]
      refine B_eq e195_24 t195_24 (fun _ => ?_) (fun q => absurd (rfl) q)
      refine LA0 e195_32 ?_
      refine Ki e195_33 kiconst_0 ?_
      refine Cv1p e195_34 c195_194 (o152 L) (Nat.le_of_ble_eq_true rfl) (Nat.le_of_ble_eq_true rfl) (m_bound hR (by decide) hM) ?_
      rintro v3 I3 J3 R3 ⟨hJ3, hR3, ⟨hz, rfl, rfl⟩ | ⟨hz, rfl, rfl⟩⟩
      · subst hJ3
        subst hR3
        rw [if_neg hz]
        exact Ri e195_37 rt195 (MP.k h hkk)
      · subst hJ3
        subst hR3
        rw [if_pos hz]
        exact Ri e195_37 rt195 (MP.k h (hkk.tr ⟨fun y i a b c => by unfold amU; rw [if_neg (by omega)], fun _ _ => rfl⟩))
    · rw [hll]
      refine LA0 e195_20 ?_
      refine Gi e195_21 (o152 L) (amGi_of f777 (by decide)) ?_
      rw [hf2]
      refine B_eq e195_24 t195_24 (fun q => absurd q (by decide)) (fun _ => ?_)
      refine Ki e195_27 kbipush_m3 ?_
      refine Go e195_29 t195_29 ?_
      exact Ri e195_37 rt195 (MP.k h hkk)
  · rw [if_neg hp]
    refine LA0 e195_0 ?_
    refine LI1 e195_1 ?_
    refine Cv1 e195_2 c195_157 (o152 L) (Nat.le_of_ble_eq_true rfl) (Nat.le_of_ble_eq_true rfl) ((m_isPoly h8 hPl.1)) ?_
    rw [show bI (decide (inP σ.1 p)) = 0 from by rw [decide_eq_false hp]; rfl]
    refine B_ne e195_5 t195_5 (fun q => absurd q ((fun z => z rfl))) (fun _ => ?_)
    refine Ki e195_8 kiconst_m1 ?_
    exact Ri e195_9 rt195 (MP.rf h)
set_option maxHeartbeats 2000000 in
theorem m_sc_lp (hR : amRok R) (hp : JP J 157 q) : ∀ (m i : Nat) (l4 : Option Value), i + m = 5 → Q (some (.int (nI (chN (fun k => sgl (oI (q k))) 5).1))) I J R → Ex 164 6 [some (.ref 152), some (.int (nI (chN (fun k => sgl (oI (q k))) i).1)), some (.int ((chN (fun k => sgl (oI (q k))) i).2)), some (.int (nI i)), l4] [] (amSH L) I J R Q := by
  have hs3 : ∀ k, (fun k => sgl (oI (q k))) k = -1 ∨ (fun k => sgl (oI (q k))) k = 0 ∨ (fun k => sgl (oI (q k))) k = 1 := fun k => sgl3 _
  intro m
  induction m with
  | zero =>
    intro i l4 hi hQ
    have e : i = 5 := by omega
    subst e
    refine LI3 e164_6 ?_
    refine Ki e164_7 kiconst_5 ?_
    refine CN_ge (a := 5) (b := 5) e164_8 t164_8 rfl (by decide) (by omega) (by omega) (fun _ => ?_) (fun q => by omega)
    refine LI1 e164_63 ?_
    exact Ri e164_64 rt164 (hQ)
  | succ m ih =>
    intro i l4 hi hQ
    have hcl := chN_le (fun k => sgl (oI (q k))) i
    have hp3 := sg_neg (hs3 i) (ch3 hs3 i)
    refine LI3 e164_6 ?_
    refine Ki e164_7 kiconst_5 ?_
    refine CN_ge (a := i) (b := 5) e164_8 t164_8 rfl (by decide) (by omega) (by omega) (fun q => absurd q (by omega)) (fun _ => ?_)
    refine LA0 e164_11 ?_
    refine Gr e164_12 (o152 L) (hR 152 7 157 rfl) f775 ?_
    refine LI3 e164_15 ?_
    refine AjN (k := i) e164_16 (o157 L) rfl (by omega) (by decide) ?_
    rw [hp i (by omega)]
    refine Cs1 e164_17 c164_154 (Nat.le_of_ble_eq_true rfl) (Nat.le_of_ble_eq_true rfl) (m_sign) ?_
    rw [show sgl (oI (q i)) = (fun k => sgl (oI (q k))) i from rfl]
    refine SI4 e164_20 rfl ?_
    refine LI1 e164_22 ?_
    refine LI4 e164_23 ?_
    refine B_eq e164_25 t164_25 (fun h25 => ?_) (fun h25 => ?_)
    · refine Ki e164_42 kiconst_0 ?_
      refine IaddN (a := (chN (fun k => sgl (oI (q k))) i).1) (b := 0) e164_43 rfl (by decide) ?_
      refine SI1 e164_44 rfl ?_
      refine LI4 e164_45 ?_
      refine B_eq e164_47 t164_47 (fun h47 => ?_) (fun h47 => ?_)
      · refine LI2 e164_55 ?_
        refine SI2 e164_56 rfl ?_
        refine IncN3 (m := i) e164_57 rfl ?_
        refine Go e164_60 t164_60 ?_
        have e1 : (chN (fun k => sgl (oI (q k))) (i + 1)).1 = (chN (fun k => sgl (oI (q k))) i).1 + 0 := by
          rw [chN]
          dsimp only
          rw [if_neg (fun z => by have z := hp3.mp z; first | exact z.1 h25 | exact z.2.1 h29 | exact z.2.2 h35), Nat.add_zero]
        rw [← e1]
        have e2 : (chN (fun k => sgl (oI (q k))) (i + 1)).2 = (chN (fun k => sgl (oI (q k))) i).2 := by
          rw [chN]
          dsimp only
          rw [if_pos h47]
        rw [← e2]
        exact ih (i + 1) _ (by omega) hQ
      · refine LI4 e164_50 ?_
        refine Go e164_52 t164_52 ?_
        refine SI2 e164_56 rfl ?_
        refine IncN3 (m := i) e164_57 rfl ?_
        refine Go e164_60 t164_60 ?_
        have e1 : (chN (fun k => sgl (oI (q k))) (i + 1)).1 = (chN (fun k => sgl (oI (q k))) i).1 + 0 := by
          rw [chN]
          dsimp only
          rw [if_neg (fun z => by have z := hp3.mp z; first | exact z.1 h25 | exact z.2.1 h29 | exact z.2.2 h35), Nat.add_zero]
        rw [← e1]
        have e2 : (chN (fun k => sgl (oI (q k))) (i + 1)).2 = (fun k => sgl (oI (q k))) i := by
          rw [chN]
          dsimp only
          rw [if_neg h47]
        rw [← e2]
        exact ih (i + 1) _ (by omega) hQ
    · refine LI2 e164_28 ?_
      refine B_eq e164_29 t164_29 (fun h29 => ?_) (fun h29 => ?_)
      · refine Ki e164_42 kiconst_0 ?_
        refine IaddN (a := (chN (fun k => sgl (oI (q k))) i).1) (b := 0) e164_43 rfl (by decide) ?_
        refine SI1 e164_44 rfl ?_
        refine LI4 e164_45 ?_
        refine B_eq e164_47 t164_47 (fun h47 => ?_) (fun h47 => ?_)
        · refine LI2 e164_55 ?_
          refine SI2 e164_56 rfl ?_
          refine IncN3 (m := i) e164_57 rfl ?_
          refine Go e164_60 t164_60 ?_
          have e1 : (chN (fun k => sgl (oI (q k))) (i + 1)).1 = (chN (fun k => sgl (oI (q k))) i).1 + 0 := by
            rw [chN]
            dsimp only
            rw [if_neg (fun z => by have z := hp3.mp z; first | exact z.1 h25 | exact z.2.1 h29 | exact z.2.2 h35), Nat.add_zero]
          rw [← e1]
          have e2 : (chN (fun k => sgl (oI (q k))) (i + 1)).2 = (chN (fun k => sgl (oI (q k))) i).2 := by
            rw [chN]
            dsimp only
            rw [if_pos h47]
          rw [← e2]
          exact ih (i + 1) _ (by omega) hQ
        · refine LI4 e164_50 ?_
          refine Go e164_52 t164_52 ?_
          refine SI2 e164_56 rfl ?_
          refine IncN3 (m := i) e164_57 rfl ?_
          refine Go e164_60 t164_60 ?_
          have e1 : (chN (fun k => sgl (oI (q k))) (i + 1)).1 = (chN (fun k => sgl (oI (q k))) i).1 + 0 := by
            rw [chN]
            dsimp only
            rw [if_neg (fun z => by have z := hp3.mp z; first | exact z.1 h25 | exact z.2.1 h29 | exact z.2.2 h35), Nat.add_zero]
          rw [← e1]
          have e2 : (chN (fun k => sgl (oI (q k))) (i + 1)).2 = (fun k => sgl (oI (q k))) i := by
            rw [chN]
            dsimp only
            rw [if_neg h47]
          rw [← e2]
          exact ih (i + 1) _ (by omega) hQ
      · refine LI4 e164_32 ?_
        refine LI2 e164_34 ?_
        refine C_eq e164_35 t164_35 (fun h35 => ?_) (fun h35 => ?_)
        · refine Ki e164_42 kiconst_0 ?_
          refine IaddN (a := (chN (fun k => sgl (oI (q k))) i).1) (b := 0) e164_43 rfl (by decide) ?_
          refine SI1 e164_44 rfl ?_
          refine LI4 e164_45 ?_
          refine B_eq e164_47 t164_47 (fun h47 => ?_) (fun h47 => ?_)
          · refine LI2 e164_55 ?_
            refine SI2 e164_56 rfl ?_
            refine IncN3 (m := i) e164_57 rfl ?_
            refine Go e164_60 t164_60 ?_
            have e1 : (chN (fun k => sgl (oI (q k))) (i + 1)).1 = (chN (fun k => sgl (oI (q k))) i).1 + 0 := by
              rw [chN]
              dsimp only
              rw [if_neg (fun z => by have z := hp3.mp z; first | exact z.1 h25 | exact z.2.1 h29 | exact z.2.2 h35), Nat.add_zero]
            rw [← e1]
            have e2 : (chN (fun k => sgl (oI (q k))) (i + 1)).2 = (chN (fun k => sgl (oI (q k))) i).2 := by
              rw [chN]
              dsimp only
              rw [if_pos h47]
            rw [← e2]
            exact ih (i + 1) _ (by omega) hQ
          · refine LI4 e164_50 ?_
            refine Go e164_52 t164_52 ?_
            refine SI2 e164_56 rfl ?_
            refine IncN3 (m := i) e164_57 rfl ?_
            refine Go e164_60 t164_60 ?_
            have e1 : (chN (fun k => sgl (oI (q k))) (i + 1)).1 = (chN (fun k => sgl (oI (q k))) i).1 + 0 := by
              rw [chN]
              dsimp only
              rw [if_neg (fun z => by have z := hp3.mp z; first | exact z.1 h25 | exact z.2.1 h29 | exact z.2.2 h35), Nat.add_zero]
            rw [← e1]
            have e2 : (chN (fun k => sgl (oI (q k))) (i + 1)).2 = (fun k => sgl (oI (q k))) i := by
              rw [chN]
              dsimp only
              rw [if_neg h47]
            rw [← e2]
            exact ih (i + 1) _ (by omega) hQ
        · refine Ki e164_38 kiconst_1 ?_
          refine Go e164_39 t164_39 ?_
          refine IaddN (a := (chN (fun k => sgl (oI (q k))) i).1) (b := 1) e164_43 rfl (by decide) ?_
          refine SI1 e164_44 rfl ?_
          refine LI4 e164_45 ?_
          refine B_eq e164_47 t164_47 (fun h47 => ?_) (fun h47 => ?_)
          · refine LI2 e164_55 ?_
            refine SI2 e164_56 rfl ?_
            refine IncN3 (m := i) e164_57 rfl ?_
            refine Go e164_60 t164_60 ?_
            have e1 : (chN (fun k => sgl (oI (q k))) (i + 1)).1 = (chN (fun k => sgl (oI (q k))) i).1 + 1 := by
              rw [chN]
              dsimp only
              rw [if_pos (hp3.mpr ⟨h25, h29, h35⟩)]
            rw [← e1]
            have e2 : (chN (fun k => sgl (oI (q k))) (i + 1)).2 = (chN (fun k => sgl (oI (q k))) i).2 := by
              rw [chN]
              dsimp only
              rw [if_pos h47]
            rw [← e2]
            exact ih (i + 1) _ (by omega) hQ
          · refine LI4 e164_50 ?_
            refine Go e164_52 t164_52 ?_
            refine SI2 e164_56 rfl ?_
            refine IncN3 (m := i) e164_57 rfl ?_
            refine Go e164_60 t164_60 ?_
            have e1 : (chN (fun k => sgl (oI (q k))) (i + 1)).1 = (chN (fun k => sgl (oI (q k))) i).1 + 1 := by
              rw [chN]
              dsimp only
              rw [if_pos (hp3.mpr ⟨h25, h29, h35⟩)]
            rw [← e1]
            have e2 : (chN (fun k => sgl (oI (q k))) (i + 1)).2 = (fun k => sgl (oI (q k))) i := by
              rw [chN]
              dsimp only
              rw [if_neg h47]
            rw [← e2]
            exact ih (i + 1) _ (by omega) hQ
set_option maxHeartbeats 2000000 in
theorem m_sc (hR : amRok R) (hp : JP J 157 q) (h5 : sz q ≤ 5) : Rv 164 [.ref 152] (amSH L) I J R (.int (nI (chN (fun k => sgl (oI (q k))) 9).1)) := by
  intro Q hQ
  have e : ∀ t, t ≤ 4 → (chN (fun k => sgl (oI (q k))) (5 + t)).1 = (chN (fun k => sgl (oI (q k))) 5).1 := by
    intro t
    induction t with
    | zero => intro _; rfl
    | succ t ih =>
      intro ht
      rw [← ih (by omega), ← Nat.add_assoc, chN]
      have hz : (fun k => sgl (oI (q k))) (5 + t) = 0 := by
        show sgl (oI (q (5 + t))) = 0
        rw [sz_zero (p := q) (by omega) (by omega)]
        decide
      dsimp only
      have hz2 : sgl (oI (q (5 + t))) = 0 := hz
      rw [hz2, Int32.zero_mul, if_neg (by decide)]
  rw [show (9 : Nat) = 5 + 4 from rfl, e 4 (by omega)] at hQ
  show Ex 164 0 [some (.ref 152), none, none, none, none] [] (amSH L) I J R _
  refine Ki e164_0 kiconst_0 ?_
  refine SI1 e164_1 rfl ?_
  refine Ki e164_2 kiconst_0 ?_
  refine SI2 e164_3 rfl ?_
  refine Ki e164_4 kiconst_0 ?_
  refine SI3 e164_5 rfl ?_
  exact m_sc_lp hR hp 5 0 _ (by omega) hQ
end REF9
