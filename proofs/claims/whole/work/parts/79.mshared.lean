/-! the reference: withinFence, commonOf, shared (printed by wip/whole/t79.py) -/
/-- the fence s stands in the reference's four numbers -/
def FnM (J : amJ) (s : Fs) : Prop := J 152 18 = oI (fbU s) ∧ J 152 19 = oI (fbV s) ∧ J 152 20 = oI (feU s) ∧ J 152 21 = oI (feV s)
/-- what both have in common, its chain -/
noncomputable def cmc (p q : Po) : Option (List Po) := match com p q with
  | none => none
  | some g => chn g
def CmO (I : amI) (J : amJ) (B : Nat) (o : Option (List Po)) (I' : amI) (J' : amJ) : Prop := MK I I' J J' ∧ J' 152 = J 152 ∧ (∀ C, C < 3 → C ≠ B → ∀ l, MI I J C l → MI I' J' C l) ∧ ((∃ l, o = some l ∧ I' 152 9 = 0 ∧ MI I' J' B l) ∨ (o = none ∧ I' 152 9 = 1))
section REF16
variable {L : Nat} {I : amI} {J : amJ} {R : amR} {Q : amQ} {a B t : Nat} {q : Po} {ps l : List Po} {σ : PS}
set_option maxHeartbeats 2000000 in
theorem m_within {s : Fs} (hR : amRok R) (hB3 : B < 3) (hM : MI I J B l) (hs : FnM J s) : Rv 199 [.ref 152, .int (nI B)] (amSH L) I J R (.int (fHo l s)) := by
  obtain ⟨s1, s2, s3, s4⟩ := hs
  intro Q hQ
  show Ex 199 0 [some (.ref 152), some (.int (nI B))] [] (amSH L) I J R _
  refine LA0 e199_0 ?_
  refine LI1 e199_1 ?_
  refine LA0 e199_2 ?_
  refine Gj e199_3 (o152 L) f786 ?_
  rw [s1]
  refine LA0 e199_6 ?_
  refine Gj e199_7 (o152 L) f787 ?_
  rw [s2]
  refine Cv3 e199_10 c199_186 (o152 L) (Nat.le_of_ble_eq_true rfl) (Nat.le_of_ble_eq_true rfl) ((m_chgAt (u := fbU s) (v := fbV s) hR hB3 hM)) ?_
  refine LA0 e199_13 ?_
  refine LI1 e199_14 ?_
  refine LA0 e199_15 ?_
  refine Gj e199_16 (o152 L) f788 ?_
  rw [s3]
  refine LA0 e199_19 ?_
  refine Gj e199_20 (o152 L) f789 ?_
  rw [s4]
  refine Cv3 e199_23 c199_186 (o152 L) (Nat.le_of_ble_eq_true rfl) (Nat.le_of_ble_eq_true rfl) ((m_chgAt (u := feU s) (v := feV s) hR hB3 hM)) ?_
  refine Isub e199_26 ?_
  exact Ri e199_27 rt199 (hQ)
set_option maxHeartbeats 2000000 in
theorem m_commonOf {p r : Nat} (h : MSt I J R σ) (hB3 : B < 3) (hp : p < σ.1.length) (hr : r < σ.1.length) (hf : I 152 9 = 0) : Cl 202 [.ref 152, .int (nI B), .int (nI p), .int (nI r)] (amSH L) I J R (fun v I' J' R' => v = none ∧ R' = R ∧ CmO I J B (cmc (σ.1.getD p zP) (σ.1.getD r zP)) I' J') := by
  obtain ⟨hR, hPl, -, -, -, -, hO⟩ := id h
  have hok := hO.1.2 p hp
  have hokr := hO.1.2 r hr
  have h8 := hO.1.1
  unfold cmc
  show Ex 202 0 [some (.ref 152), some (.int (nI B)), some (.int (nI p)), some (.int (nI r))] [] (amSH L) I J R _
  refine LA0 e202_0 ?_
  refine LI2 e202_1 ?_
  refine LA0 e202_2 ?_
  refine Gr e202_3 (o152 L) (hR 152 7 157 rfl) f775 ?_
  refine Cv2p e202_6 c202_163 (o152 L) (Nat.le_of_ble_eq_true rfl) (Nat.le_of_ble_eq_true rfl) (m_loads hR (o157 L) (by omega) (fun k hk => hPl.2 p k hp hk) hok) ?_
  rintro _ I1 J1 R1 ⟨rfl, hI1, hR1, hF1, hP1⟩
  subst hI1
  subst hR1
  refine LA0 e202_9 ?_
  refine LI3 e202_10 ?_
  refine LA0 e202_11 ?_
  refine Gr e202_12 (o152 L) (hR 152 8 158 rfl) f776 ?_
  refine Cv2p e202_15 c202_163 (o152 L) (Nat.le_of_ble_eq_true rfl) (Nat.le_of_ble_eq_true rfl) (m_loads hR (o158 L) (by omega) (fun k hk => hPl.2 r k hr hk) hokr) ?_
  rintro _ I2 J2 R2 ⟨rfl, hI2, hR2, hF2, hP2⟩
  subst hI2
  subst hR2
  refine LA0 e202_18 ?_
  refine LA0 e202_19 ?_
  refine Gr e202_20 (o152 L) (hR 152 7 157 rfl) f775 ?_
  refine LA0 e202_23 ?_
  refine Gr e202_24 (o152 L) (hR 152 8 158 rfl) f776 ?_
  refine LA0 e202_27 ?_
  refine Gr e202_28 (o152 L) (hR 152 22 185 rfl) f790 ?_
  refine Cv3p e202_31 c202_180 (o152 L) (Nat.le_of_ble_eq_true rfl) (Nat.le_of_ble_eq_true rfl) (m_common hR (o157 L) (o158 L) (o185 L) ⟨by decide, by decide⟩ ⟨by decide, by decide⟩ ⟨by decide, by decide, by decide⟩ (hP1.fr hF2 (by decide)) hP2 hok.b hokr.b hf) ?_
  rintro _ I3 J3 R3 ⟨rfl, hR3, hG3, hL3, hD⟩
  subst hR3
  have hJ3 : ∀ y, ¬ (157 ≤ y ∧ y ≤ 161) → y ≠ 185 → y ≠ 158 → J3 y = J y := fun y hy1 hy2 hy3 => by rw [hL3 y (by simp; omega), hF2 y (by omega), hF1 y (by omega)]
  rcases hD with ⟨g, hg, hf3, hP3⟩ | ⟨hg, hf3⟩
  · rw [hg]
    dsimp only
    have hgz := com_sz hg hok.2.1 hok.2.2 hokr.2.1 hokr.2.2
    refine LA0 e202_34 ?_
    refine Gi e202_35 (o152 L) (amGi_of f777 (by decide)) ?_
    rw [hf3]
    refine B_ne e202_38 t202_38 (fun q => absurd q ((fun z => z rfl))) (fun _ => ?_)
    refine LA0 e202_41 ?_
    refine LI1 e202_42 ?_
    refine LA0 e202_43 ?_
    refine Gr e202_44 (o152 L) (hR 152 22 185 rfl) f790 ?_
    refine Cv2p e202_47 c202_184 (o152 L) (Nat.le_of_ble_eq_true rfl) (Nat.le_of_ble_eq_true rfl) (m_chains hR hB3 (o185 L) (by decide) hP3 (com_PB hg) hgz.1 hgz.2 hf3) ?_
    rintro _ I4 J4 R4 ⟨rfl, hR4, hG4, hF4, hD4⟩
    subst hR4
    exact Rvd e202_50 rt202 (by
    refine ⟨rfl, rfl, (hG3.go (B := B)).tr hG4 |>.k (fun y hy => by rw [hF4 y (by simp; omega) (by omega)]; exact hJ3 y (by omega) (by omega) (by omega)), (by rw [hF4 152 (by simp) (by omega)]; exact hJ3 152 (by omega) (by omega) (by omega)), ?_, hD4⟩
    rintro C hC hne l ⟨g1, g2, g3, g4, g5, g6, g7⟩
    refine ⟨by rw [hG4 184 C (by omega) (by omega), hG3 184 C (by omega)]; exact g1, g2, g3, fun k hk i hi => ?_, g5, g6, g7⟩
    rw [hF4 _ (by simp; omega) (by omega), hJ3 _ (by omega) (by omega) (by omega)]
    exact g4 k hk i hi)
  · rw [hg]
    refine LA0 e202_34 ?_
    refine Gi e202_35 (o152 L) (amGi_of f777 (by decide)) ?_
    rw [hf3]
    refine B_ne e202_38 t202_38 (fun _ => ?_) (fun q => absurd (by decide) q)
    exact Rvd e202_50 rt202 (by
    refine ⟨rfl, rfl, (hG3.go (B := B)).k (fun y hy => hJ3 y (by omega) (by omega) (by omega)), hJ3 152 (by omega) (by omega) (by omega), ?_, Or.inr ⟨rfl, hf3⟩⟩
    rintro C hC hne l ⟨g1, g2, g3, g4, g5, g6, g7⟩
    refine ⟨by rw [hG3 184 C (by omega)]; exact g1, g2, g3, fun k hk i hi => ?_, g5, g6, g7⟩
    rw [hJ3 _ (by omega) (by omega) (by omega)]
    exact g4 k hk i hi)
set_option maxHeartbeats 2000000 in
theorem n_shared {p q : Int32} (h : MSt I J R σ) : Cl 203 [.ref 152, .int p, .int q] (amSH L) I J R (MP I J R σ (.int (sShared σ.1 p q))) := by
  obtain ⟨hR, hPl, -, -, -, -, hO⟩ := id h
  have h8 := hO.1.1
  have hk0 : MK I (amU I 152 9 0) J J := ⟨fun y i a b c => by unfold amU; rw [if_neg (by omega)], fun _ _ => rfl⟩
  have h0 : MSt (amU I 152 9 0) J R σ := h.k hk0
  unfold sShared
  show Ex 203 0 [some (.ref 152), some (.int p), some (.int q)] [] (amSH L) I J R _
  by_cases hp : inP σ.1 p
  · rw [if_pos hp]
    obtain ⟨k, hk, rfl, ek⟩ := hp.of h8
    rw [ek]
    have ei : bI (decide (inP σ.1 (nI k))) = 1 := by rw [decide_eq_true hp]; rfl
    by_cases hq : inP σ.1 q
    · rw [if_pos hq]
      obtain ⟨m, hm, rfl, em⟩ := hq.of h8
      rw [em]
      have ei2 : bI (decide (inP σ.1 (nI m))) = 1 := by rw [decide_eq_true hq]; rfl
      refine LA0 e203_0 ?_
      refine LI1 e203_1 ?_
      refine Cv1 e203_2 c203_157 (o152 L) (Nat.le_of_ble_eq_true rfl) (Nat.le_of_ble_eq_true rfl) ((m_isPoly h8 hPl.1)) ?_
      rw [ei]
      refine B_eq e203_5 t203_5 (fun q => absurd q (by decide)) (fun _ => ?_)
      refine LA0 e203_8 ?_
      refine LI2 e203_9 ?_
      refine Cv1 e203_10 c203_157 (o152 L) (Nat.le_of_ble_eq_true rfl) (Nat.le_of_ble_eq_true rfl) ((m_isPoly h8 hPl.1)) ?_
      rw [ei2]
      refine B_ne e203_13 t203_13 (fun _ => ?_) (fun q => absurd (by decide) q)
      refine LA0 e203_18 ?_
      refine Cv0p e203_19 c203_189 (o152 L) (Nat.le_of_ble_eq_true rfl) (Nat.le_of_ble_eq_true rfl) (m_opens) ?_
      rintro _ I1 J1 R1 ⟨rfl, hI1, hJ1, hR1⟩
      subst hI1
      subst hJ1
      subst hR1
      refine LA0 e203_22 ?_
      refine Ki e203_23 kiconst_0 ?_
      refine LI1 e203_24 ?_
      refine LI2 e203_25 ?_
      refine Cv3p e203_26 c203_202 (o152 L) (Nat.le_of_ble_eq_true rfl) (Nat.le_of_ble_eq_true rfl) (m_commonOf (p := k) (r := m) h0 (by decide) hk hm amU_same) ?_
      rintro _ I2 J2 R2 ⟨rfl, hR2, hk2, hJ2, hoth2, hD⟩
      subst hR2
      unfold cmc at hD
      rcases hD with ⟨l, hll, hf2, hM⟩ | ⟨hll, hf2⟩
      · skip
        refine LA0 e203_29 ?_
        refine Gi e203_30 (o152 L) (amGi_of f777 (by decide)) ?_
        rw [hf2]
        refine B_eq e203_33 t203_33 (fun _ => ?_) (fun q => absurd (rfl) q)
        refine LA0 e203_41 ?_
        refine Ki e203_42 kiconst_0 ?_
        refine Cv1 e203_43 c203_188 (o152 L) (Nat.le_of_ble_eq_true rfl) (Nat.le_of_ble_eq_true rfl) ((m_roots hR (by decide) hM)) ?_
        exact Ri e203_46 rt203 (by
        cases hc : com (σ.1.getD k zP) (σ.1.getD m zP) with
        | none => rw [hc] at hll; cases hll
        | some g =>
          rw [hc] at hll
          dsimp only at hll ⊢
          rw [hll]
          exact MP.k h (hk0.tr hk2))
      · skip
        refine LA0 e203_29 ?_
        refine Gi e203_30 (o152 L) (amGi_of f777 (by decide)) ?_
        rw [hf2]
        refine B_eq e203_33 t203_33 (fun q => absurd q (by decide)) (fun _ => ?_)
        refine Ki e203_36 kbipush_m3 ?_
        refine Go e203_38 t203_38 ?_
        exact Ri e203_46 rt203 (by
        cases hc : com (σ.1.getD k zP) (σ.1.getD m zP) with
        | none => exact MP.k h (hk0.tr hk2)
        | some g =>
          rw [hc] at hll
          dsimp only at hll ⊢
          rw [hll]
          exact MP.k h (hk0.tr hk2))
    · rw [if_neg hq]
      refine LA0 e203_0 ?_
      refine LI1 e203_1 ?_
      refine Cv1 e203_2 c203_157 (o152 L) (Nat.le_of_ble_eq_true rfl) (Nat.le_of_ble_eq_true rfl) ((m_isPoly h8 hPl.1)) ?_
      rw [ei]
      refine B_eq e203_5 t203_5 (fun q => absurd q (by decide)) (fun _ => ?_)
      refine LA0 e203_8 ?_
      refine LI2 e203_9 ?_
      refine Cv1 e203_10 c203_157 (o152 L) (Nat.le_of_ble_eq_true rfl) (Nat.le_of_ble_eq_true rfl) ((m_isPoly h8 hPl.1)) ?_
      rw [show bI (decide (inP σ.1 q)) = 0 from by rw [decide_eq_false hq]; rfl]
      refine B_ne e203_13 t203_13 (fun q => absurd q ((fun z => z rfl))) (fun _ => ?_)
      refine Ki e203_16 kiconst_m1 ?_
      exact Ri e203_17 rt203 (MP.rf h)
  · rw [if_neg hp]
    refine LA0 e203_0 ?_
    refine LI1 e203_1 ?_
    refine Cv1 e203_2 c203_157 (o152 L) (Nat.le_of_ble_eq_true rfl) (Nat.le_of_ble_eq_true rfl) ((m_isPoly h8 hPl.1)) ?_
    rw [show bI (decide (inP σ.1 p)) = 0 from by rw [decide_eq_false hp]; rfl]
    refine B_eq e203_5 t203_5 (fun _ => ?_) (fun q => absurd (rfl) q)
    refine Ki e203_16 kiconst_m1 ?_
    exact Ri e203_17 rt203 (MP.rf h)
end REF16
