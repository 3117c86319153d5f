/-! the reference: signs (printed by wip/whole/t88.py) -/
theorem cln_idem {p : Po} : cln (cln p) = cln p := by
  funext k
  by_cases h0 : gN p 9 = 0
  · have e : cln p k = 0 := by
      unfold cln
      rw [h0]
      exact Int.tdiv_zero _
    show (cln p k).tdiv ((gN (cln p) 9 : Nat) : Int) = cln p k
    rw [e]
    exact Int.zero_tdiv _
  · have hk9 : ∀ i, i < 9 → p i = cln p i * ((gN p 9 : Nat) : Int) := fun i hi => by
      unfold cln
      exact (Int.tdiv_mul_cancel (Int.ofNat_dvd_left.mpr (gN_dvd hi))).symm
    have h1 := gN_sc hk9
    have h2 : gN (cln p) 9 = 1 := by
      have : gN (cln p) 9 * gN p 9 = 1 * gN p 9 := by omega
      exact Nat.eq_of_mul_eq_mul_right (by omega) this
    show (cln p k).tdiv ((gN (cln p) 9 : Nat) : Int) = cln p k
    rw [h2]
    exact Int.tdiv_one _
theorem rem_cln {p q : Po} : rem (cln p) q = rem p q := by
  have e : fit (cln p) = fit p := by unfold fit; rw [cln_idem]
  unfold rem
  rw [cln_idem, e]
section REF22
variable {L : Nat} {I : amI} {J : amJ} {R : amR} {Q : amQ} {σ : PS}
set_option maxHeartbeats 2000000 in
theorem n_signs {p q : Int32} (h : MSt I J R σ) : Cl 206 [.ref 152, .int p, .int q] (amSH L) I J R (MP I J R σ (.long (sSigns σ.1 p q))) := by
  obtain ⟨hR, hPl, -, -, -, -, hO⟩ := id h
  have h8 := hO.1.1
  have hk0 : MK I (amU I 152 9 0) J J := ⟨fun y i a b c => by unfold amU; rw [if_neg (by omega)], fun _ _ => rfl⟩
  have h0 : MSt (amU I 152 9 0) J R σ := h.k hk0
  unfold sSigns
  show Ex 206 0 [some (.ref 152), some (.int p), some (.int q)] [] (amSH L) I J R _
  by_cases hp : inP σ.1 p
  · rw [if_pos hp]
    obtain ⟨k, hk, rfl, ek⟩ := hp.of h8
    rw [ek]
    have hok := hO.1.2 k hk
    have ei : bI (decide (inP σ.1 (nI k))) = 1 := by rw [decide_eq_true hp]; rfl
    by_cases hq : inP σ.1 q
    · rw [if_pos hq]
      obtain ⟨m, hm, rfl, em⟩ := hq.of h8
      have hokm := hO.1.2 m hm
      rw [em]
      have ei2 : bI (decide (inP σ.1 (nI m))) = 1 := by rw [decide_eq_true hq]; rfl
      refine LA0 e206_0 ?_
      refine LI1 e206_1 ?_
      refine Cv1 e206_2 c206_157 (o152 L) (Nat.le_of_ble_eq_true rfl) (Nat.le_of_ble_eq_true rfl) ((m_isPoly h8 hPl.1)) ?_
      rw [ei]
      refine B_eq e206_5 t206_5 (fun q => absurd q (by decide)) (fun _ => ?_)
      refine LA0 e206_8 ?_
      refine LI2 e206_9 ?_
      refine Cv1 e206_10 c206_157 (o152 L) (Nat.le_of_ble_eq_true rfl) (Nat.le_of_ble_eq_true rfl) ((m_isPoly h8 hPl.1)) ?_
      rw [ei2]
      refine B_ne e206_13 t206_13 (fun _ => ?_) (fun q => absurd (by decide) q)
      refine LA0 e206_20 ?_
      refine Cv0p e206_21 c206_189 (o152 L) (Nat.le_of_ble_eq_true rfl) (Nat.le_of_ble_eq_true rfl) (m_opens) ?_
      rintro _ I1 J1 R1 ⟨rfl, hI1, hJ1, hR1⟩
      have hI1 := hI1.symm
      subst hI1
      have hJ1 := hJ1.symm
      subst hJ1
      have hR1 := hR1.symm
      subst hR1
      refine LA0 e206_24 ?_
      refine LI1 e206_25 ?_
      refine LA0 e206_26 ?_
      refine Gr e206_27 (o152 L) (hR 152 7 157 rfl) f775 ?_
      refine Cv2p e206_30 c206_163 (o152 L) (Nat.le_of_ble_eq_true rfl) (Nat.le_of_ble_eq_true rfl) (m_loads hR (o157 L) (by omega) (fun i hi => hPl.2 k i hk hi) hok) ?_
      rintro _ I1 J1 R1 ⟨rfl, hI1, hR1, hF1, hP1⟩
      have hI1 := hI1.symm
      subst hI1
      have hR1 := hR1.symm
      subst hR1
      refine LA0 e206_33 ?_
      refine LA0 e206_34 ?_
      refine Gr e206_35 (o152 L) (hR 152 7 157 rfl) f775 ?_
      refine LA0 e206_38 ?_
      refine Gr e206_39 (o152 L) (hR 152 16 165 rfl) f784 ?_
      refine Ki e206_42 kiconst_0 ?_
      refine ArN (k := 0) e206_43 (o165 L) (by decide) (by decide) (by omega) (by decide) (hR 165 0 166 rfl) ?_
      refine Cv2p e206_44 c206_182 (o152 L) (Nat.le_of_ble_eq_true rfl) (Nat.le_of_ble_eq_true rfl) (m_frees hR (o157 L) (o166 L) (by decide) ⟨by decide, by decide, by decide, by decide, by decide, by decide⟩ hP1 hok.b6 (fr_ok hok.2.2) amU_same) ?_
      rintro _ I2 J2 R2 ⟨rfl, hR2, hG2, hL2, hD⟩
      have hR2 := hR2.symm
      subst hR2
      have hk2 : MK (amU I 152 9 0) I2 J J2 := (hG2.go (B := 0)).k (fun y hy => by rw [hL2 y (by simp; omega), hF1 y (by omega)])
      rcases hD with ⟨f, hf, hf2, hP2⟩ | ⟨hf, hf2⟩
      · have hfz := fre_sz hf hok.2.1 hok.2.2
        refine LA0 e206_47 ?_
        refine Gi e206_48 (o152 L) (amGi_of f777 (by decide)) ?_
        rw [hf2]
        refine B_eq e206_51 t206_51 (fun _ => ?_) (fun q => absurd (rfl) q)
        refine LA0 e206_58 ?_
        refine Gr e206_59 (o152 L) (hR 152 16 165 rfl) f784 ?_
        refine Ki e206_62 kiconst_0 ?_
        refine ArN (k := 0) e206_63 (o165 L) (by decide) (by decide) (by omega) (by decide) (hR 165 0 166 rfl) ?_
        refine LA0 e206_64 ?_
        refine Gr e206_65 (o152 L) (hR 152 22 185 rfl) f790 ?_
        refine Cs2p e206_68 c206_178 (Nat.le_of_ble_eq_true rfl) (Nat.le_of_ble_eq_true rfl) (m_derives (o185 L) (o166 L) (by decide) hP2) ?_
        rintro _ I3 J3 R3 ⟨rfl, hI3, hR3, hF3, hP3⟩
        have hI3 := hI3.symm
        subst hI3
        have hR3 := hR3.symm
        subst hR3
        refine LA0 e206_71 ?_
        refine LI2 e206_72 ?_
        refine LA0 e206_73 ?_
        refine Gr e206_74 (o152 L) (hR 152 8 158 rfl) f776 ?_
        refine Cv2p e206_77 c206_163 (o152 L) (Nat.le_of_ble_eq_true rfl) (Nat.le_of_ble_eq_true rfl) (m_loads hR (o158 L) (by omega) (fun i hi => (h0.k hk2).2.1.2 m i hm hi) hokm) ?_
        rintro _ I4 J4 R4 ⟨rfl, hI4, hR4, hF4, hP4⟩
        have hI4 := hI4.symm
        subst hI4
        have hR4 := hR4.symm
        subst hR4
        refine LA0 e206_80 ?_
        refine Gr e206_81 (o152 L) (hR 152 22 185 rfl) f790 ?_
        refine LA0 e206_84 ?_
        refine Gr e206_85 (o152 L) (hR 152 8 158 rfl) f776 ?_
        refine LA0 e206_88 ?_
        refine Gr e206_89 (o152 L) (hR 152 24 187 rfl) f792 ?_
        refine Cs3p e206_92 c206_205 (Nat.le_of_ble_eq_true rfl) (Nat.le_of_ble_eq_true rfl) (m_multiplies (o185 L) (o158 L) (o187 L) (by decide) (by decide) (hP3.fr hF4 (by decide)) hP4) ?_
        rintro _ I5 J5 R5 ⟨rfl, hI5, hR5, hF5, hP5⟩
        have hI5 := hI5.symm
        subst hI5
        have hR5 := hR5.symm
        subst hR5
        have hcB : PB 4000000000000000000 (cv (der f) (σ.1.getD m zP)) := cv_PB (der_PB (fre_PB hf)) (hokm.1.mono (by decide))
        refine LA0 e206_95 ?_
        refine LA0 e206_96 ?_
        refine Gr e206_97 (o152 L) (hR 152 24 187 rfl) f792 ?_
        refine Cv1p e206_100 c206_175 (o152 L) (Nat.le_of_ble_eq_true rfl) (Nat.le_of_ble_eq_true rfl) (m_cleans (f := false) (o187 L) hP5 hcB hf2) ?_
        rintro _ I6 J6 R6 ⟨rfl, hR6, hG6, hf6, hF6, hP6⟩
        have hR6 := hR6.symm
        subst hR6
        rw [Bool.false_or] at hf6
        have hJ6 : ∀ y, y < 152 → J6 y = J y := fun y hy => by rw [hF6 y (by omega), hF5 y (by omega), hF4 y (by omega), hF3 y (by omega), hL2 y (by simp; omega), hF1 y (by omega)]
        have hk6 : MK (amU I 152 9 0) I6 J J6 := ((hG2.tr hG6).go (B := 0)).k hJ6
        by_cases g : fit (cv (der f) (σ.1.getD m zP)) = true
        rotate_left
        · rw [Bool.not_eq_true] at g
          rw [g] at hf6
          have hch : chs (σ.1.getD k zP) (σ.1.getD m zP) = none := by
            unfold chs
            rw [hf]
            dsimp only
            have e : rem (cv (der f) (σ.1.getD m zP)) f = none := by unfold rem; rw [g]; rfl
            rw [e]
          rw [hch]
          dsimp only
          have hf6 : I6 152 9 = 1 := hf6
          refine LA0 e206_103 ?_
          refine Gi e206_104 (o152 L) (amGi_of f777 (by decide)) ?_
          rw [hf6]
          refine B_eq e206_107 t206_107 (fun q => absurd q (by decide)) (fun _ => ?_)
          refine Kd e206_110 kj4 ?_
          exact Rj e206_113 rt206 (MP.k h (hk0.tr hk6))
        · rw [g] at hf6
          have hf6 : I6 152 9 = 0 := hf6
          have hP2x : JP J6 166 f := (((hP2.fr hF3 (by decide)).fr hF4 (by decide)).fr hF5 (by decide)).fr hF6 (by decide)
          refine LA0 e206_103 ?_
          refine Gi e206_104 (o152 L) (amGi_of f777 (by decide)) ?_
          rw [hf6]
          refine B_eq e206_107 t206_107 (fun _ => ?_) (fun q => absurd (rfl) q)
          refine LA0 e206_114 ?_
          refine LA0 e206_115 ?_
          refine Gr e206_116 (o152 L) (hR 152 24 187 rfl) f792 ?_
          refine LA0 e206_119 ?_
          refine Gr e206_120 (o152 L) (hR 152 16 165 rfl) f784 ?_
          refine Ki e206_123 kiconst_0 ?_
          refine ArN (k := 0) e206_124 (o165 L) (by decide) (by decide) (by omega) (by decide) (hR 165 0 166 rfl) ?_
          refine LA0 e206_125 ?_
          refine Gr e206_126 (o152 L) (hR 152 16 165 rfl) f784 ?_
          refine Ki e206_129 kiconst_1 ?_
          refine ArN (k := 1) e206_130 (o165 L) (by decide) (by decide) (by omega) (by decide) (hR 165 1 167 rfl) ?_
          refine Cv3p e206_131 c206_179 (o152 L) (Nat.le_of_ble_eq_true rfl) (Nat.le_of_ble_eq_true rfl) (m_remainder (o187 L) (o166 L) (o167 L) (by decide) (by decide) hP6 hP2x (cln_PB hcB) (fre_PB hf) hfz.1 hf6) ?_
          rintro _ I7 J7 R7 ⟨rfl, hR7, hG7, hF7, hD⟩
          have hR7 := hR7.symm
          subst hR7
          rw [rem_cln] at hD
          have hk7 : MK (amU I 152 9 0) I7 J J7 := (((hG2.tr hG6).tr hG7).go (B := 0)).k (fun y hy => by rw [hF7 y (by omega)]; exact hJ6 y hy)
          rcases hD with ⟨r, hr, hf7, hP7⟩ | ⟨hr, hf7, -⟩
          · have hch : chs (σ.1.getD k zP) (σ.1.getD m zP) = (exN 10 f r).map ([f] ++ ·) := by
              unfold chs
              rw [hf]
              dsimp only
              rw [hr]
            rw [hch]
            have hrs := rem_sz hr hfz.1
            refine LA0 e206_134 ?_
            refine Gi e206_135 (o152 L) (amGi_of f777 (by decide)) ?_
            rw [hf7]
            refine B_eq e206_138 t206_138 (fun _ => ?_) (fun q => absurd (rfl) q)
            refine LA0 e206_145 ?_
            refine Gr e206_146 (o152 L) (hR 152 16 165 rfl) f784 ?_
            refine Ki e206_149 kiconst_1 ?_
            refine ArN (k := 1) e206_150 (o165 L) (by decide) (by decide) (by omega) (by decide) (hR 165 1 167 rfl) ?_
            refine Cs1 e206_151 c206_173 (Nat.le_of_ble_eq_true rfl) (Nat.le_of_ble_eq_true rfl) ((m_degree (o167 L) hP7 ((rem_PB hr).mono (by decide)))) ?_
            refine B_ge e206_154 t206_154 (fun h154 => ?_) (fun h154 => ?_)
            · have hr1 : 0 < sz r := by
                rcases Nat.eq_zero_or_pos (sz r) with z | z
                · exfalso
                  rw [z] at h154
                  revert h154
                  decide
                · exact z
              have hMW : MW (amU I7 184 0 2) J7 0 ([f] ++ [r]) := ⟨by rw [amU_same]; rfl, Nat.le_of_ble_eq_true rfl, Nat.le_of_ble_eq_true rfl, fun k hk => by
                have hk2 : k < 2 := hk
                rcases Nat.lt_or_ge k 1 with z | z
                · have e : k = 0 := by omega
                  subst e
                  exact hP2x.fr hF7 (by decide)
                · have e : k = 1 := by omega
                  subst e
                  exact hP7, fun k hk => by
                have hk2 : k < 2 := hk
                rcases Nat.lt_or_ge k 1 with z | z
                · have e : k = 0 := by omega
                  subst e
                  exact fre_PB hf
                · have e : k = 1 := by omega
                  subst e
                  exact rem_PB hr, fun k hk => by
                have hk2 : k < 2 := hk
                rcases Nat.lt_or_ge k 1 with z | z
                · have e : k = 0 := by omega
                  subst e
                  exact hfz.1
                · have e : k = 1 := by omega
                  subst e
                  exact hr1⟩
              refine LA0 e206_159 ?_
              refine Gr e206_160 (o152 L) (hR 152 17 184 rfl) f785 ?_
              refine Ki e206_163 kiconst_0 ?_
              refine Ki e206_164 kiconst_2 ?_
              refine WiN (k := 0) e206_165 (o184 L) (by decide) (by omega) (by decide) ?_
              refine LA0 e206_166 ?_
              refine Ki e206_167 kiconst_0 ?_
              refine Cv1p e206_168 c206_183 (o152 L) (Nat.le_of_ble_eq_true rfl) (Nat.le_of_ble_eq_true rfl) (m_goesOn (n := 1) (l := [f]) (b := r) hR (by decide) rfl (Nat.le_refl 1) (by omega) hMW (by rw [amU_ne (by decide)]; exact hf7)) ?_
              rintro _ I8 J8 R8 ⟨rfl, hR8, hG8, hF8, hD⟩
              have hR8 := hR8.symm
              subst hR8
              have hk8 : MK (amU I 152 9 0) I8 J J8 := ((((hG2.tr hG6).tr hG7).go (B := 0)).tr ((GoF.rf.up).tr hG8)).k (fun y hy => by rw [hF8 y (by omega), hF7 y (by omega)]; exact hJ6 y hy)
              have hD : (∃ t, (exN 10 f r).map ([f] ++ ·) = some t ∧ I8 152 9 = 0 ∧ MW I8 J8 0 t) ∨ ((exN 10 f r).map ([f] ++ ·) = none ∧ I8 152 9 = 1) := hD
              rcases hD with ⟨t, ht, hf8, hM⟩ | ⟨ht, hf8⟩
              · rw [ht]
                dsimp only
                have hM := hM.mi (chs_LZ (hch.trans ht) hok.2.1 hok.2.2)
                refine LA0 e206_171 ?_
                refine Gi e206_172 (o152 L) (amGi_of f777 (by decide)) ?_
                rw [hf8]
                refine B_eq e206_175 t206_175 (fun _ => ?_) (fun q => absurd (rfl) q)
                refine LA0 e206_184 ?_
                refine Ki e206_185 kiconst_0 ?_
                refine Cv1 e206_186 c206_188 (o152 L) (Nat.le_of_ble_eq_true rfl) (Nat.le_of_ble_eq_true rfl) ((m_roots hR (by decide) hM)) ?_
                refine I2l e206_189 ?_
                exact Rj e206_190 rt206 (MP.k h (hk0.tr hk8))
              · rw [ht]
                dsimp only
                refine LA0 e206_171 ?_
                refine Gi e206_172 (o152 L) (amGi_of f777 (by decide)) ?_
                rw [hf8]
                refine B_eq e206_175 t206_175 (fun q => absurd q (by decide)) (fun _ => ?_)
                refine Kd e206_178 kj4 ?_
                refine Go e206_181 t206_181 ?_
                exact Rj e206_190 rt206 (MP.k h (hk0.tr hk8))
            · refine K0 e206_157 ?_
              exact Rj e206_158 rt206 (by
              have hr0 : sz r = 0 := by
                rcases Nat.eq_zero_or_pos (sz r) with z | z
                · exact z
                · exact absurd (by rw [i32le, dI_toInt (by have := sz_le r; omega), show (0 : Int32).toInt = 0 from rfl]; omega) h154
              have e2 : (exN 10 f r).map ([f] ++ ·) = some [f] := by
                rw [exN, if_pos hr0]
                rfl
              rw [e2]
              dsimp only
              have e3 : (nI (tB [f]) - nI (tU [f])).toInt64 = 0 := by
                show (nI 0 - nI 0).toInt64 = 0
                decide
              rw [e3]
              exact MP.k h (hk0.tr hk7))
          · have hch : chs (σ.1.getD k zP) (σ.1.getD m zP) = none := by
              unfold chs
              rw [hf]
              dsimp only
              rw [hr]
            rw [hch]
            dsimp only
            refine LA0 e206_134 ?_
            refine Gi e206_135 (o152 L) (amGi_of f777 (by decide)) ?_
            rw [hf7]
            refine B_eq e206_138 t206_138 (fun q => absurd q (by decide)) (fun _ => ?_)
            refine Kd e206_141 kj4 ?_
            exact Rj e206_144 rt206 (MP.k h (hk0.tr hk7))
      · have hch : chs (σ.1.getD k zP) (σ.1.getD m zP) = none := by
          unfold chs
          rw [hf]
        rw [hch]
        dsimp only
        refine LA0 e206_47 ?_
        refine Gi e206_48 (o152 L) (amGi_of f777 (by decide)) ?_
        rw [hf2]
        refine B_eq e206_51 t206_51 (fun q => absurd q (by decide)) (fun _ => ?_)
        refine Kd e206_54 kj4 ?_
        exact Rj e206_57 rt206 (MP.k h (hk0.tr hk2))
    · rw [if_neg hq]
      refine LA0 e206_0 ?_
      refine LI1 e206_1 ?_
      refine Cv1 e206_2 c206_157 (o152 L) (Nat.le_of_ble_eq_true rfl) (Nat.le_of_ble_eq_true rfl) ((m_isPoly h8 hPl.1)) ?_
      rw [ei]
      refine B_eq e206_5 t206_5 (fun q => absurd q (by decide)) (fun _ => ?_)
      refine LA0 e206_8 ?_
      refine LI2 e206_9 ?_
      refine Cv1 e206_10 c206_157 (o152 L) (Nat.le_of_ble_eq_true rfl) (Nat.le_of_ble_eq_true rfl) ((m_isPoly h8 hPl.1)) ?_
      rw [show bI (decide (inP σ.1 q)) = 0 from by rw [decide_eq_false hq]; rfl]
      refine B_ne e206_13 t206_13 (fun q => absurd q ((fun z => z rfl))) (fun _ => ?_)
      refine Kd e206_16 kj4 ?_
      exact Rj e206_19 rt206 (MP.rf h)
  · rw [if_neg hp]
    refine LA0 e206_0 ?_
    refine LI1 e206_1 ?_
    refine Cv1 e206_2 c206_157 (o152 L) (Nat.le_of_ble_eq_true rfl) (Nat.le_of_ble_eq_true rfl) ((m_isPoly h8 hPl.1)) ?_
    rw [show bI (decide (inP σ.1 p)) = 0 from by rw [decide_eq_false hp]; rfl]
    refine B_eq e206_5 t206_5 (fun _ => ?_) (fun q => absurd (rfl) q)
    refine Kd e206_16 kj4 ?_
    exact Rj e206_19 rt206 (MP.rf h)
end REF22
