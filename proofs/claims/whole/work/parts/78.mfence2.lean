/-! the reference: isRoot, fence (printed by wip/whole/t78.py) -/
theorem hr_k1 : ∀ a, a ≤ 20 → ∀ b, b ≤ 20 → (nI a - nI b - 1).toInt = (a : Int) - b - 1 := by decide +kernel
theorem hr_k0 : ∀ a, a ≤ 20 → ∀ b, b ≤ 20 → (nI a - nI b).toInt = (a : Int) - b := by decide +kernel
theorem hr_eq {a b : Nat} (ha : a ≤ 20) (hb : b ≤ 20) {k : Int32} : decide ((0 : Int64) ≤ k.toInt64 ∧ k.toInt64 ≤ (nI a - nI b - 1).toInt64) = decide (0 ≤ k ∧ k < nI a - nI b) := (min64 (a := 0) (b := nI a - nI b - 1)).trans (decide_eq_decide.mpr (by
  rw [hr_k1 a ha b hb, i32le, i32lt, hr_k0 a ha b hb]
  omega))
/-- what isRoot() answers and leaves -/
def IrP (I : amI) (J : amJ) (B : Nat) (o : Option (List Po)) (k : Int32) (v : Option Value) (I' : amI) (J' : amJ) : Prop := MK I I' J J' ∧ (∀ C, C < 3 → C ≠ B → ∀ l, MI I J C l → MI I' J' C l) ∧ ((∃ l, o = some l ∧ I' 152 9 = 0 ∧ MI I' J' B l ∧ v = some (.int (bI (decide (hasR l k))))) ∨ (o = none ∧ I' 152 9 = 1 ∧ v = some (.int 0)))
section REF15
variable {L : Nat} {I : amI} {J : amJ} {R : amR} {Q : amQ} {a B t : Nat} {q : Po} {ps l : List Po} {σ : PS}
set_option maxHeartbeats 2000000 in
theorem m_isRoot {p : Nat} {k : Int32} (h : MSt I J R σ) (hB3 : B < 3) (hp : p < σ.1.length) (hf : I 152 9 = 0) : Cl 197 [.ref 152, .int (nI B), .int (nI p), .int k] (amSH L) I J R (fun v I' J' R' => R' = R ∧ IrP I J B (chn (σ.1.getD p zP)) k v I' J') := by
  have hR := h.1
  show Ex 197 0 [some (.ref 152), some (.int (nI B)), some (.int (nI p)), some (.int k)] [] (amSH L) I J R _
  refine LA0 e197_0 ?_
  refine LI1 e197_1 ?_
  refine LI2 e197_2 ?_
  refine Cv2p e197_3 c197_185 (o152 L) (Nat.le_of_ble_eq_true rfl) (Nat.le_of_ble_eq_true rfl) (m_chainOf (p := p) h hB3 hp hf) ?_
  rintro _ I2 J2 R2 ⟨rfl, hR2, hk2, hoth2, hD⟩
  subst hR2
  rcases hD with ⟨l, hll, hf2, hM⟩ | ⟨hll, hf2⟩
  · rw [hll]
    have q1 := tB_5 hM.2.1
    have q2 := tU_5 hM.2.1
    have q3 := hM.2.2.1
    refine LA0 e197_6 ?_
    refine Gi e197_7 (o152 L) (amGi_of f777 (by decide)) ?_
    rw [hf2]
    refine B_ne e197_10 t197_10 (fun q => absurd q ((fun z => z rfl))) (fun _ => ?_)
    refine LI3 e197_13 ?_
    refine I2l e197_14 ?_
    refine K0 e197_15 ?_
    refine LA0 e197_16 ?_
    refine LI1 e197_17 ?_
    refine Cv1 e197_18 c197_188 (o152 L) (Nat.le_of_ble_eq_true rfl) (Nat.le_of_ble_eq_true rfl) ((m_roots hR hB3 hM)) ?_
    refine Ki e197_21 kiconst_1 ?_
    refine Isub e197_22 ?_
    refine I2l e197_23 ?_
    refine Cs3 e197_24 c197_152 (Nat.le_of_ble_eq_true rfl) (Nat.le_of_ble_eq_true rfl) (m_in) ?_
    rw [hr_eq (by omega) (by omega)]
    refine B_eq e197_27 t197_27 (fun h27 => ?_) (fun h27 => ?_)
    · refine Ki e197_34 kiconst_0 ?_
      exact Rz e197_35 rt197 (by decide) (by
      rw [show (0 : Int32) = bI (decide (hasR l k)) from h27.symm]
      exact ⟨rfl, hk2, hoth2, Or.inl ⟨l, rfl, hf2, hM, rfl⟩⟩)
    · refine Ki e197_30 kiconst_1 ?_
      refine Go e197_31 t197_31 ?_
      exact Rz e197_35 rt197 (by decide) (by
      rw [show (1 : Int32) = bI (decide (hasR l k)) from by rw [decide_eq_true (bI_t h27)]; rfl]
      exact ⟨rfl, hk2, hoth2, Or.inl ⟨l, rfl, hf2, hM, rfl⟩⟩)
  · rw [hll]
    refine LA0 e197_6 ?_
    refine Gi e197_7 (o152 L) (amGi_of f777 (by decide)) ?_
    rw [hf2]
    refine B_ne e197_10 t197_10 (fun _ => ?_) (fun q => absurd (by decide) q)
    refine Ki e197_34 kiconst_0 ?_
    exact Rz e197_35 rt197 (by decide) (⟨rfl, hk2, hoth2, Or.inr ⟨rfl, hf2, rfl⟩⟩)
set_option maxHeartbeats 2000000 in
theorem n_fence {p k t q : Int32} (h : MSt I J R σ) : Cl 198 [.ref 152, .int p, .int k, .int t, .int q] (amSH L) I J R (MP I J R σ (.long (sFence σ.1 p k t q))) := by
  obtain ⟨hR, hPl, -, -, -, -, hO⟩ := id h
  have h8 := hO.1.1
  have hk0 : MK I (amU I 152 9 0) J J := ⟨fun y i a b c => by unfold amU; rw [if_neg (by omega)], fun _ _ => rfl⟩
  have h0 : MSt (amU I 152 9 0) J R σ := h.k hk0
  unfold sFence
  show Ex 198 0 [some (.ref 152), some (.int p), some (.int k), some (.int t), some (.int q)] [] (amSH L) I J R _
  by_cases hp : inP σ.1 p
  · rw [if_pos hp]
    obtain ⟨pn, hk, rfl, ek⟩ := hp.of h8
    have hok := hO.1.2 pn hk
    rw [ek]
    have h5 := hok.2.2
    have ei : bI (decide (inP σ.1 (nI pn))) = 1 := by rw [decide_eq_true hp]; rfl
    by_cases gt : 0 ≤ t.toInt ∧ t.toInt ≤ 9
    · rw [if_pos gt]
      obtain ⟨m, hm, rfl⟩ : ∃ m : Nat, m ≤ 9 ∧ t = nI m := ⟨t.toInt.toNat, by omega, by rw [← Int32.toInt_inj, nI_toInt (by omega)]; omega⟩
      have em : (nI m).toInt.toNat = m := by rw [nI_toInt (by omega)]; omega
      rw [em]
      by_cases gq : 0 ≤ q.toInt ∧ q.toInt ≤ 3
      · skip
        refine LA0 e198_0 ?_
        refine LI1 e198_1 ?_
        refine Cv1 e198_2 c198_157 (o152 L) (Nat.le_of_ble_eq_true rfl) (Nat.le_of_ble_eq_true rfl) ((m_isPoly h8 hPl.1)) ?_
        rw [ei]
        refine B_eq e198_5 t198_5 (fun q => absurd q (by decide)) (fun _ => ?_)
        refine LI3 e198_8 ?_
        refine I2l e198_9 ?_
        refine K0 e198_10 ?_
        refine Kd e198_11 kj10 ?_
        refine Cs3 e198_14 c198_152 (Nat.le_of_ble_eq_true rfl) (Nat.le_of_ble_eq_true rfl) (m_in) ?_
        rw [show decide ((0 : Int64) ≤ (nI m).toInt64 ∧ (nI m).toInt64 ≤ 9) = decide (0 ≤ (nI m).toInt ∧ (nI m).toInt ≤ 9) from min64 (a := 0) (b := 9), decide_eq_true gt]
        rw [show bI true = 1 from rfl]
        refine B_eq e198_17 t198_17 (fun q => absurd q (by decide)) (fun _ => ?_)
        refine LI4 e198_20 ?_
        refine I2l e198_22 ?_
        refine K0 e198_23 ?_
        refine Kd e198_24 kj11 ?_
        refine Cs3 e198_27 c198_152 (Nat.le_of_ble_eq_true rfl) (Nat.le_of_ble_eq_true rfl) (m_in) ?_
        rw [show decide ((0 : Int64) ≤ q.toInt64 ∧ q.toInt64 ≤ 3) = decide (0 ≤ q.toInt ∧ q.toInt ≤ 3) from min64 (a := 0) (b := 3), decide_eq_true gq]
        rw [show bI true = 1 from rfl]
        refine B_ne e198_30 t198_30 (fun _ => ?_) (fun q => absurd (by decide) q)
        refine LA0 e198_37 ?_
        refine Cv0p e198_38 c198_189 (o152 L) (Nat.le_of_ble_eq_true rfl) (Nat.le_of_ble_eq_true rfl) (m_opens) ?_
        rintro _ I1 J1 R1 ⟨rfl, hI1, hJ1, hR1⟩
        subst hI1
        subst hJ1
        subst hR1
        refine LA0 e198_41 ?_
        refine Ki e198_42 kiconst_0 ?_
        refine LI1 e198_43 ?_
        refine LI2 e198_44 ?_
        refine Cv3p e198_45 c198_197 (o152 L) (Nat.le_of_ble_eq_true rfl) (Nat.le_of_ble_eq_true rfl) (m_isRoot (p := pn) h0 (by decide) hk amU_same) ?_
        rintro v2 I2 J2 R2 ⟨hR2, hk2, hoth2, ⟨l, hll, hf2, hM, hv⟩ | ⟨hll, hf2, hv⟩⟩
        · subst hR2
          rw [hll]
          dsimp only
          by_cases hr : hasR l k
          · rw [if_pos hr]
            rw [decide_eq_true hr] at hv
            subst hv
            show Ex 198 48 [some (.ref 152), some (.int (nI pn)), some (.int k), some (.int (nI m)), some (.int q)] [.int 1] (amSH L) _ J2 _ _
            refine B_ne e198_48 t198_48 (fun _ => ?_) (fun q => absurd (by decide) q)
            refine LA0 e198_55 ?_
            refine Ki e198_56 kiconst_0 ?_
            refine LI2 e198_57 ?_
            refine LI3 e198_58 ?_
            refine Cv3p e198_59 c198_196 (o152 L) (Nat.le_of_ble_eq_true rfl) (Nat.le_of_ble_eq_true rfl) (m_fences (t := m) hR (by decide) hM hm hf2) ?_
            rintro _ I4 J4 R4 ⟨rfl, hR4, hJ4, hJ5, ⟨s, hs, hF4, hI4, s1, s2, s3, s4⟩ | ⟨hs, hI4⟩⟩
            · subst hR4
              subst hI4
              rw [hs]
              dsimp only
              refine LA0 e198_62 ?_
              refine Gi e198_63 (o152 L) (amGi_of f777 (by decide)) ?_
              rw [hf2]
              refine B_eq e198_66 t198_66 (fun _ => ?_) (fun q => absurd (rfl) q)
              refine LI4 e198_73 ?_
              refine B_ne e198_75 t198_75 (fun h75 => ?_) (fun h75 => ?_)
              · refine LI4 e198_85 ?_
                refine Ki e198_87 kiconst_1 ?_
                refine C_ne e198_88 t198_88 (fun h88 => ?_) (fun h88 => ?_)
                · refine LI4 e198_98 ?_
                  refine Ki e198_100 kiconst_2 ?_
                  refine C_ne e198_101 t198_101 (fun h101 => ?_) (fun h101 => ?_)
                  · refine LA0 e198_111 ?_
                    refine Gj e198_112 (o152 L) f789 ?_
                    exact Rj e198_115 rt198 (by
                    have pb := pt_b hF4
                    have e3 : q = 3 := by
                      have z0 : ¬ q.toInt = 0 := fun z => by
                        have z := Int32.toInt_inj.mp (z.trans (show (0 : Int) = (0 : Int32).toInt from rfl))
                        first | exact h75 z | exact h75 (not_not_intro z)
                      have z1 : ¬ q.toInt = 1 := fun z => by
                        have z := Int32.toInt_inj.mp (z.trans (show (1 : Int) = (1 : Int32).toInt from rfl))
                        first | exact h88 z | exact h88 (not_not_intro z)
                      have z2 : ¬ q.toInt = 2 := fun z => by
                        have z := Int32.toInt_inj.mp (z.trans (show (2 : Int) = (2 : Int32).toInt from rfl))
                        first | exact h101 z | exact h101 (not_not_intro z)
                      exact Int32.toInt_inj.mp (show q.toInt = 3 by omega)
                    rw [if_neg (by first | exact h75 | exact not_not_intro h75), if_neg (by first | exact h88 | exact not_not_intro h88), if_neg (by first | exact h101 | exact not_not_intro h101), if_pos e3, iI_64 ⟨by omega, by omega⟩, s4]
                    exact MP.k h (hk0.tr (hk2.tr ⟨fun y i a b c => by first | rfl | (unfold amU; rw [if_neg (by omega)]), fun y hy => hJ4 y (by omega)⟩)))
                  · refine LA0 e198_104 ?_
                    refine Gj e198_105 (o152 L) f788 ?_
                    refine Go e198_108 t198_108 ?_
                    exact Rj e198_115 rt198 (by
                    have pb := pt_b hF4
                    rw [if_neg (by first | exact h75 | exact not_not_intro h75), if_neg (by first | exact h88 | exact not_not_intro h88), if_pos (by first | exact h101 | exact Decidable.not_not.mp h101), iI_64 ⟨by omega, by omega⟩, s3]
                    exact MP.k h (hk0.tr (hk2.tr ⟨fun y i a b c => by first | rfl | (unfold amU; rw [if_neg (by omega)]), fun y hy => hJ4 y (by omega)⟩)))
                · refine LA0 e198_91 ?_
                  refine Gj e198_92 (o152 L) f787 ?_
                  refine Go e198_95 t198_95 ?_
                  exact Rj e198_115 rt198 (by
                  have pb := pt_b hF4
                  rw [if_neg (by first | exact h75 | exact not_not_intro h75), if_pos (by first | exact h88 | exact Decidable.not_not.mp h88), iI_64 ⟨by omega, by omega⟩, s2]
                  exact MP.k h (hk0.tr (hk2.tr ⟨fun y i a b c => by first | rfl | (unfold amU; rw [if_neg (by omega)]), fun y hy => hJ4 y (by omega)⟩)))
              · refine LA0 e198_78 ?_
                refine Gj e198_79 (o152 L) f786 ?_
                refine Go e198_82 t198_82 ?_
                exact Rj e198_115 rt198 (by
                have pb := pt_b hF4
                rw [if_pos (by first | exact h75 | exact Decidable.not_not.mp h75), iI_64 ⟨by omega, by omega⟩, s1]
                exact MP.k h (hk0.tr (hk2.tr ⟨fun y i a b c => by first | rfl | (unfold amU; rw [if_neg (by omega)]), fun y hy => hJ4 y (by omega)⟩)))
            · subst hR4
              subst hI4
              rw [hs]
              refine LA0 e198_62 ?_
              refine Gi e198_63 (o152 L) (amGi_of f777 (by decide)) ?_
              rw [amU_same]
              refine B_eq e198_66 t198_66 (fun q => absurd q (by decide)) (fun _ => ?_)
              refine Kd e198_69 kj4 ?_
              exact Rj e198_72 rt198 (MP.k h (hk0.tr (hk2.tr ⟨fun y i a b c => by first | rfl | (unfold amU; rw [if_neg (by omega)]), fun y hy => hJ4 y (by omega)⟩)))
          · rw [if_neg hr]
            rw [decide_eq_false hr] at hv
            subst hv
            show Ex 198 48 [some (.ref 152), some (.int (nI pn)), some (.int k), some (.int (nI m)), some (.int q)] [.int 0] (amSH L) _ J2 _ _
            refine B_ne e198_48 t198_48 (fun q => absurd q ((fun z => z rfl))) (fun _ => ?_)
            refine Kd e198_51 kj4 ?_
            exact Rj e198_54 rt198 (MP.k h (hk0.tr hk2))
        · subst hR2
          rw [hll]
          subst hv
          show Ex 198 48 [some (.ref 152), some (.int (nI pn)), some (.int k), some (.int (nI m)), some (.int q)] [.int 0] (amSH L) _ J2 _ _
          refine B_ne e198_48 t198_48 (fun q => absurd q ((fun z => z rfl))) (fun _ => ?_)
          refine Kd e198_51 kj4 ?_
          exact Rj e198_54 rt198 (MP.k h (hk0.tr hk2))
      · skip
        refine LA0 e198_0 ?_
        refine LI1 e198_1 ?_
        refine Cv1 e198_2 c198_157 (o152 L) (Nat.le_of_ble_eq_true rfl) (Nat.le_of_ble_eq_true rfl) ((m_isPoly h8 hPl.1)) ?_
        rw [ei]
        refine B_eq e198_5 t198_5 (fun q => absurd q (by decide)) (fun _ => ?_)
        refine LI3 e198_8 ?_
        refine I2l e198_9 ?_
        refine K0 e198_10 ?_
        refine Kd e198_11 kj10 ?_
        refine Cs3 e198_14 c198_152 (Nat.le_of_ble_eq_true rfl) (Nat.le_of_ble_eq_true rfl) (m_in) ?_
        rw [show decide ((0 : Int64) ≤ (nI m).toInt64 ∧ (nI m).toInt64 ≤ 9) = decide (0 ≤ (nI m).toInt ∧ (nI m).toInt ≤ 9) from min64 (a := 0) (b := 9), decide_eq_true gt]
        rw [show bI true = 1 from rfl]
        refine B_eq e198_17 t198_17 (fun q => absurd q (by decide)) (fun _ => ?_)
        refine LI4 e198_20 ?_
        refine I2l e198_22 ?_
        refine K0 e198_23 ?_
        refine Kd e198_24 kj11 ?_
        refine Cs3 e198_27 c198_152 (Nat.le_of_ble_eq_true rfl) (Nat.le_of_ble_eq_true rfl) (m_in) ?_
        rw [show decide ((0 : Int64) ≤ q.toInt64 ∧ q.toInt64 ≤ 3) = decide (0 ≤ q.toInt ∧ q.toInt ≤ 3) from min64 (a := 0) (b := 3), decide_eq_false gq]
        rw [show bI false = 0 from rfl]
        refine B_ne e198_30 t198_30 (fun q => absurd q ((fun z => z rfl))) (fun _ => ?_)
        refine Kd e198_33 kj4 ?_
        exact Rj e198_36 rt198 (by
        cases chn (σ.1.getD pn zP) with
        | none => exact MP.rf h
        | some l =>
          dsimp only
          split
          · cases fnc l k m with
            | none => exact MP.rf h
            | some s =>
              dsimp only
              rw [if_neg (fun z => gq (by rw [z]; decide)), if_neg (fun z => gq (by rw [z]; decide)), if_neg (fun z => gq (by rw [z]; decide)), if_neg (fun z => gq (by rw [z]; decide))]
              exact MP.rf h
          · exact MP.rf h)
    · rw [if_neg gt]
      refine LA0 e198_0 ?_
      refine LI1 e198_1 ?_
      refine Cv1 e198_2 c198_157 (o152 L) (Nat.le_of_ble_eq_true rfl) (Nat.le_of_ble_eq_true rfl) ((m_isPoly h8 hPl.1)) ?_
      rw [ei]
      refine B_eq e198_5 t198_5 (fun q => absurd q (by decide)) (fun _ => ?_)
      refine LI3 e198_8 ?_
      refine I2l e198_9 ?_
      refine K0 e198_10 ?_
      refine Kd e198_11 kj10 ?_
      refine Cs3 e198_14 c198_152 (Nat.le_of_ble_eq_true rfl) (Nat.le_of_ble_eq_true rfl) (m_in) ?_
      rw [show decide ((0 : Int64) ≤ t.toInt64 ∧ t.toInt64 ≤ 9) = decide (0 ≤ t.toInt ∧ t.toInt ≤ 9) from min64 (a := 0) (b := 9), decide_eq_false gt]
      rw [show bI false = 0 from rfl]
      refine B_eq e198_17 t198_17 (fun _ => ?_) (fun q => absurd (rfl) q)
      refine Kd e198_33 kj4 ?_
      exact Rj e198_36 rt198 (MP.rf h)
  · rw [if_neg hp]
    refine LA0 e198_0 ?_
    refine LI1 e198_1 ?_
    refine Cv1 e198_2 c198_157 (o152 L) (Nat.le_of_ble_eq_true rfl) (Nat.le_of_ble_eq_true rfl) ((m_isPoly h8 hPl.1)) ?_
    rw [show bI (decide (inP σ.1 p)) = 0 from by rw [decide_eq_false hp]; rfl]
    refine B_eq e198_5 t198_5 (fun _ => ?_) (fun q => absurd (rfl) q)
    refine Kd e198_33 kj4 ?_
    exact Rj e198_36 rt198 (MP.rf h)
end REF15
