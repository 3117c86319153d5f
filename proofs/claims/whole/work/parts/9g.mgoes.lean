/-! the reference: all statements, reads (printed by wip/whole/t9g.py; comes and make out of parts 96, 9a) -/
/-- the reader's cells stay -/
def FrV (Ia Ia' : amI) : Prop := (∀ i, Ia' 155 i = Ia 155 i) ∧ ∀ i, 37 ≤ i → i ≤ 43 → Ia' 152 i = Ia 152 i
def MPv (Ia : amI) (Ja : amJ) (Ra : amR) (σ : PS) (val : Value) (v : Option Value) (Ia' : amI) (Ja' : amJ) (Ra' : amR) : Prop := MP Ia Ja Ra σ val v Ia' Ja' Ra' ∧ FrV Ia Ia'
theorem FrV.rf {Ia : amI} : FrV Ia Ia := ⟨fun _ => rfl, fun _ _ _ => rfl⟩
theorem FrV.tr {Ia Ia1 Ia2 : amI} (h1 : FrV Ia Ia1) (h2 : FrV Ia1 Ia2) : FrV Ia Ia2 := ⟨fun i => (h2.1 i).trans (h1.1 i), fun i a b => (h2.2 i a b).trans (h1.2 i a b)⟩
theorem MPv.rf {Ia : amI} {Ja : amJ} {Ra : amR} {σ : PS} {val : Value} (h : MSt Ia Ja Ra σ) : MPv Ia Ja Ra σ val (some val) Ia Ja Ra := ⟨MP.rf h, FrV.rf⟩
theorem FlI.v {Ia Ia' : amI} (h : FlI Ia Ia') : FrV Ia Ia' := ⟨fun i => h _ _ (by omega), fun i a b => h _ _ (by omega)⟩
theorem MPv.tr {Ia Ia1 Ia' : amI} {Ja Ja1 Ja' : amJ} {Ra Ra' : amR} {σ : PS} {val : Value} {v : Option Value} (h : MPv Ia1 Ja1 Ra σ val v Ia' Ja' Ra') (h1 : ∀ y, y < 152 → Ia1 y = Ia y) (h2 : ∀ y, y < 152 → Ja1 y = Ja y) (h3 : FrV Ia Ia1) : MPv Ia Ja Ra σ val v Ia' Ja' Ra' := ⟨h.1.tr h1 h2, h3.tr h.2⟩
theorem FrX.k {Ia Ia' : amI} {Ja Ja' : amJ} (h : FrX Ia Ia') (h2 : ∀ y, y < 152 → Ja' y = Ja y) : MK Ia Ia' Ja Ja' := ⟨fun y i a b c => h y i (by omega), h2⟩
theorem ckN_s2 {T : Nat → Int32} {n f b t c : Nat} (h : ckN T n f b (t + 1) = .inr c) : ∃ k o, stmS T b = .inr (k, o) ∧ ((k = n ∧ c = t + 1) ∨ (k ≠ n ∧ T k = 59 ∧ ∃ f', ckN T n f' (k + 1) (t + 1 + 1) = .inr c)) := by
  cases f with
  | zero => cases h
  | succ f =>
    rw [ckN] at h
    split at h
    · cases h
    · rename_i k o e
      refine ⟨k, o, e, ?_⟩
      split at h
      · rename_i g
        cases h; exact Or.inl ⟨g, rfl⟩
      · rename_i g0
        split at h
        · rename_i g
          exact Or.inr ⟨g0, g, f, h⟩
        · cases h
section REF40
variable {L : Nat} {Ia : amI} {Ja : amJ} {Ra : amR} {Q : amQ} {T : Nat → Int32} {n k b e i s ab t : Nat} {p q g : Po} {σ τ : PS}
set_option maxHeartbeats 2000000 in
theorem m_comesFq (h : MSt Ia Ja Ra σ) (hf : Ia 152 9 = 1) : Cl 158 [.ref 152] (amSH L) Ia Ja Ra (MPv Ia Ja Ra σ (.int (-3))) := by
  obtain ⟨hR, hPl, h3, h4, h5, h6, h7⟩ := id h
  have h3 : M3 Ia σ.2.1 := h3
  have h4 : M4 Ia σ.2.2.1 σ.2.2.2.1 := h4
  have h5 : M5 Ia σ.2.2.2.2.1 := h5
  have h6 : M6 Ia σ.2.2.2.2.2.1 σ.2.2.2.2.2.2 := h6
  have h8 := h7.1.1
  have hn120 := h7.2.2.1
  have hw35 := h7.2.2.2.1
  show Ex 158 0 [some (.ref 152), none] [] (amSH L) Ia Ja Ra _
  refine LA0 e158_0 ?_
  refine Gi e158_1 (o152 L) (amGi_of f770 (by decide)) ?_
  rw [hPl.1]
  refine Ki e158_4 kbipush_8 ?_
  refine CN_eq (a := σ.1.length) (b := 8) e158_6 t158_6 rfl (by decide) (by omega) (by omega) (fun h6 => ?_) (fun h6 => ?_)
  · refine Ki e158_16 kbipush_m3 ?_
    exact Ri e158_18 rt158 (MPv.rf h)
  · refine LA0 e158_9 ?_
    refine Gi e158_10 (o152 L) (amGi_of f777 (by decide)) ?_
    rw [hf]
    refine B_eq e158_13 t158_13 (fun q => absurd q (by decide)) (fun _ => ?_)
    refine Ki e158_16 kbipush_m3 ?_
    exact Ri e158_18 rt158 (MPv.rf h)
set_option maxHeartbeats 2000000 in
theorem m_comesq (h : MSt Ia Ja Ra σ) (hf : Ia 152 9 = 0) (hg : JP Ja 156 g) (hB : PB 4000000000000000000 g) : Cl 158 [.ref 152] (amSH L) Ia Ja Ra (MPv Ia Ja Ra (sBring σ g).2 (.int (sBring σ g).1)) := by
  obtain ⟨hR, hPl, h3, h4, h5, h6, h7⟩ := id h
  have h3 : M3 Ia σ.2.1 := h3
  have h4 : M4 Ia σ.2.2.1 σ.2.2.2.1 := h4
  have h5 : M5 Ia σ.2.2.2.2.1 := h5
  have h6 : M6 Ia σ.2.2.2.2.2.1 σ.2.2.2.2.2.2 := h6
  have h8 := h7.1.1
  have hn120 := h7.2.2.1
  have hw35 := h7.2.2.2.1
  have hs9 := sz_le g
  unfold sBring
  show Ex 158 0 [some (.ref 152), none] [] (amSH L) Ia Ja Ra _
  by_cases g8 : σ.1.length = 8
  · rw [if_pos g8]
    refine LA0 e158_0 ?_
    refine Gi e158_1 (o152 L) (amGi_of f770 (by decide)) ?_
    rw [hPl.1]
    refine Ki e158_4 kbipush_8 ?_
    refine CN_eq (a := σ.1.length) (b := 8) e158_6 t158_6 rfl (by decide) (by omega) (by omega) (fun _ => ?_) (fun q => absurd (g8) q)
    refine Ki e158_16 kbipush_m3 ?_
    exact Ri e158_18 rt158 (MPv.rf h)
  · rw [if_neg g8]
    by_cases g0 : sz g = 0
    · rw [if_pos g0]
      refine LA0 e158_0 ?_
      refine Gi e158_1 (o152 L) (amGi_of f770 (by decide)) ?_
      rw [hPl.1]
      refine Ki e158_4 kbipush_8 ?_
      refine CN_eq (a := σ.1.length) (b := 8) e158_6 t158_6 rfl (by decide) (by omega) (by omega) (fun q => absurd q (g8)) (fun _ => ?_)
      refine LA0 e158_9 ?_
      refine Gi e158_10 (o152 L) (amGi_of f777 (by decide)) ?_
      rw [hf]
      refine B_eq e158_13 t158_13 (fun _ => ?_) (fun q => absurd (rfl) q)
      refine LA0 e158_19 ?_
      refine Gr e158_20 (o152 L) (hR 152 6 156 rfl) f774 ?_
      refine Cs1 e158_23 c158_173 (Nat.le_of_ble_eq_true rfl) (Nat.le_of_ble_eq_true rfl) ((m_degree (o156 L) hg hB)) ?_
      refine B_ge e158_26 t158_26 (fun q => absurd q (fun z => by have := (dI_neg hs9).mpr g0; rw [i32lt] at this; rw [i32le] at z; omega)) (fun _ => ?_)
      refine Ki e158_29 kbipush_m2 ?_
      exact Ri e158_31 rt158 (MPv.rf h)
    · rw [if_neg g0]
      have hge : 0 ≤ dI (sz g) := by
        rw [i32le, dI_toInt (by omega), show (0 : Int32).toInt = 0 from rfl]
        omega
      by_cases g5 : sz g ≤ 5
      · have hgg := g5
        refine LA0 e158_0 ?_
        refine Gi e158_1 (o152 L) (amGi_of f770 (by decide)) ?_
        rw [hPl.1]
        refine Ki e158_4 kbipush_8 ?_
        refine CN_eq (a := σ.1.length) (b := 8) e158_6 t158_6 rfl (by decide) (by omega) (by omega) (fun q => absurd q (g8)) (fun _ => ?_)
        refine LA0 e158_9 ?_
        refine Gi e158_10 (o152 L) (amGi_of f777 (by decide)) ?_
        rw [hf]
        refine B_eq e158_13 t158_13 (fun _ => ?_) (fun q => absurd (rfl) q)
        refine LA0 e158_19 ?_
        refine Gr e158_20 (o152 L) (hR 152 6 156 rfl) f774 ?_
        refine Cs1 e158_23 c158_173 (Nat.le_of_ble_eq_true rfl) (Nat.le_of_ble_eq_true rfl) ((m_degree (o156 L) hg hB)) ?_
        refine B_ge e158_26 t158_26 (fun _ => ?_) (fun q => absurd (hge) q)
        refine LA0 e158_32 ?_
        refine Gr e158_33 (o152 L) (hR 152 6 156 rfl) f774 ?_
        refine Cs1 e158_36 c158_173 (Nat.le_of_ble_eq_true rfl) (Nat.le_of_ble_eq_true rfl) ((m_degree (o156 L) hg hB)) ?_
        refine Ki e158_39 kiconst_4 ?_
        refine C_le e158_40 t158_40 (fun _ => ?_) (fun q => absurd (by rw [i32le, dI_toInt (by omega), show (4 : Int32).toInt = 4 from rfl]; omega) q)
        refine Ki e158_46 kiconst_0 ?_
        refine SI1 e158_47 rfl ?_
        refine m_cm_chk hR hg hB (fun z => ?_) (fun z => ?_) 6 0 (by omega) (by omega) (fun k hk => absurd hk (Nat.not_lt_zero k))
        · rw [if_neg (fun y => z ((mx_iff g5).mp y.2))]
          exact MPv.rf h
        · rw [if_pos ⟨g5, (mx_iff g5).mpr z⟩]
          refine Ki e158_78 kiconst_0 ?_
          refine SI1 e158_79 rfl ?_
          refine m_cm_cp (m := σ.1.length) hR (by omega) hPl.1 hg (fun Ia1 g1 g2 => ?_) 6 0 Ia (by omega) (by omega) (fun _ _ _ => rfl) (fun k hk => absurd hk (Nat.not_lt_zero k))
          have e2 : Ia1 152 2 = nI σ.1.length := (g1 _ _ (by omega)).trans hPl.1
          refine LA0 e158_111 ?_
          refine Dup e158_112 rfl ?_
          refine Gi e158_113 (o152 L) (amGi_of f770 (by decide)) ?_
          rw [e2]
          refine Ki e158_116 kiconst_1 ?_
          refine IaddN (a := σ.1.length) (b := 1) e158_117 rfl (by decide) ?_
          refine Pi e158_118 (o152 L) f770 ?_
          refine LA0 e158_121 ?_
          refine Gi e158_122 (o152 L) (amGi_of f770 (by decide)) ?_
          rw [amU_same]
          refine Ki e158_125 kiconst_1 ?_
          refine IsubN (a := (σ.1.length + 1)) (b := 1) e158_126 rfl (by decide) (by omega) ?_
          rw [Nat.add_sub_cancel]
          exact Ri e158_127 rt158 (by
          have hll : (σ.1 ++ [g]).length = σ.1.length + 1 := by simp
          have hok : Pok g := ⟨fun k hk => by
            by_cases e : k < 5
            · have := z k e
              omega
            · rw [sz_zero (p := g) (by omega) hk]
              exact ⟨by decide, by decide⟩, by omega, g5⟩
          refine ⟨⟨rfl, ⟨hR, ⟨?_, fun p k hp hk => ?_⟩, h3.cg ((up_o (by omega)).trans (g1 _ _ (by omega))) (fun i => (up_o (by omega)).trans (g1 _ _ (by omega))), h4.cg ((up_o (by omega)).trans (g1 _ _ (by omega))) (fun i => (up_o (by omega)).trans (g1 _ _ (by omega))), h5.cg ((up_o (by omega)).trans (g1 _ _ (by omega))) (fun i => (up_o (by omega)).trans (g1 _ _ (by omega))), h6.cg (fun i => (up_o (by omega)).trans (g1 _ _ (by omega))) (fun i => (up_o (by omega)).trans (g1 _ _ (by omega))), ⟨⟨by show (σ.1 ++ [g]).length ≤ 8; omega, fun k hk => ?_⟩, h7.2⟩⟩, fun y hy => by funext i; rw [up_o (by omega), g1 _ _ (by omega)], fun _ _ => rfl, rfl⟩, ⟨fun i => (up_o (by omega)).trans (g1 _ _ (by omega)), fun i a b => (up_o (by omega)).trans (g1 _ _ (by omega))⟩⟩
          · rw [amU_same]
            show _ = nI (σ.1 ++ [g]).length
            rw [hll]
          · have hp2 : p < (σ.1 ++ [g]).length := hp
            show _ = iI ((σ.1 ++ [g]).getD p zP k)
            rw [up_o (by omega)]
            by_cases e : p = σ.1.length
            · rw [e, gd_r]
              exact g2 k hk
            · rw [gd_l (by omega), g1 _ _ (by omega)]
              exact hPl.2 p k (by omega) hk
          · have hk2 : k < (σ.1 ++ [g]).length := hk
            show Pok ((σ.1 ++ [g]).getD k zP)
            by_cases e : k = σ.1.length
            · rw [e, gd_r]
              exact hok
            · rw [gd_l (by omega)]
              exact h7.1.2 k (by omega))
      · rw [if_neg (fun y => g5 y.1)]
        refine LA0 e158_0 ?_
        refine Gi e158_1 (o152 L) (amGi_of f770 (by decide)) ?_
        rw [hPl.1]
        refine Ki e158_4 kbipush_8 ?_
        refine CN_eq (a := σ.1.length) (b := 8) e158_6 t158_6 rfl (by decide) (by omega) (by omega) (fun q => absurd q (g8)) (fun _ => ?_)
        refine LA0 e158_9 ?_
        refine Gi e158_10 (o152 L) (amGi_of f777 (by decide)) ?_
        rw [hf]
        refine B_eq e158_13 t158_13 (fun _ => ?_) (fun q => absurd (rfl) q)
        refine LA0 e158_19 ?_
        refine Gr e158_20 (o152 L) (hR 152 6 156 rfl) f774 ?_
        refine Cs1 e158_23 c158_173 (Nat.le_of_ble_eq_true rfl) (Nat.le_of_ble_eq_true rfl) ((m_degree (o156 L) hg hB)) ?_
        refine B_ge e158_26 t158_26 (fun _ => ?_) (fun q => absurd (hge) q)
        refine LA0 e158_32 ?_
        refine Gr e158_33 (o152 L) (hR 152 6 156 rfl) f774 ?_
        refine Cs1 e158_36 c158_173 (Nat.le_of_ble_eq_true rfl) (Nat.le_of_ble_eq_true rfl) ((m_degree (o156 L) hg hB)) ?_
        refine Ki e158_39 kiconst_4 ?_
        refine C_le e158_40 t158_40 (fun q => absurd q (fun z => by rw [i32le, dI_toInt (by omega), show (4 : Int32).toInt = 4 from rfl] at z; omega)) (fun _ => ?_)
        refine Ki e158_43 kbipush_m3 ?_
        exact Ri e158_45 rt158 (MPv.rf h)
set_option maxHeartbeats 2000000 in
theorem n_makeq {t i q : Int32} (h : MSt Ia Ja Ra σ) : Cl 219 [.ref 152, .int t, .int i, .int q] (amSH L) Ia Ja Ra (MPv Ia Ja Ra (sMake σ t i q).2 (.int (sMake σ t i q).1)) := by
  obtain ⟨hR, hPl, -, -, -, -, hO⟩ := id h
  have h8 := hO.1.1
  have hk0 : MK Ia (amU Ia 152 9 0) Ja Ja := ⟨fun y i a b c => by unfold amU; rw [if_neg (by omega)], fun _ _ => rfl⟩
  have hv0 : FrV Ia (amU Ia 152 9 0) := ⟨fun i => up_o (by omega), fun i a b => up_o (by omega)⟩
  unfold sMake
  show Ex 219 0 [some (.ref 152), some (.int t), some (.int i), some (.int q)] [] (amSH L) Ia Ja Ra _
  by_cases gm : mkOk σ.1 t i q
  · obtain ⟨gt, gi, gj⟩ := id gm
    rw [if_pos gm]
    by_cases g8 : σ.1.length = 8
    · rw [if_pos g8]
      refine LA0 e219_0 ?_
      refine LI1 e219_1 ?_
      refine LI2 e219_2 ?_
      refine LI3 e219_3 ?_
      refine Cv3 e219_4 c219_215 (o152 L) (Nat.le_of_ble_eq_true rfl) (Nat.le_of_ble_eq_true rfl) ((m_isMaking h8 hPl.1)) ?_
      rw [decide_eq_true gm]
      rw [show bI true = 1 from rfl]
      refine B_ne e219_7 t219_7 (fun _ => ?_) (fun q => absurd (by decide) q)
      refine LA0 e219_12 ?_
      refine Gi e219_13 (o152 L) (amGi_of f770 (by decide)) ?_
      rw [hPl.1]
      refine Ki e219_16 kbipush_8 ?_
      refine CN_ne (a := σ.1.length) (b := 8) e219_18 t219_18 rfl (by decide) (by omega) (by omega) (fun q => absurd q (fun z => z g8)) (fun _ => ?_)
      refine Ki e219_21 kbipush_m3 ?_
      exact Ri e219_23 rt219 (MPv.rf h)
    · rw [if_neg g8]
      obtain ⟨k, hk, rfl, ek⟩ := gi.of h8
      rw [ek]
      have hok := hO.1.2 k hk
      by_cases gw : isTw t
      · have gj2 : inP σ.1 q := by have y := gj; unfold okJ at y; rw [if_pos gw] at y; exact y
        obtain ⟨m, hm, rfl, em⟩ := gj2.of h8
        rw [em]
        have hokm := hO.1.2 m hm
        refine LA0 e219_0 ?_
        refine LI1 e219_1 ?_
        refine LI2 e219_2 ?_
        refine LI3 e219_3 ?_
        refine Cv3 e219_4 c219_215 (o152 L) (Nat.le_of_ble_eq_true rfl) (Nat.le_of_ble_eq_true rfl) ((m_isMaking h8 hPl.1)) ?_
        rw [decide_eq_true gm]
        rw [show bI true = 1 from rfl]
        refine B_ne e219_7 t219_7 (fun _ => ?_) (fun q => absurd (by decide) q)
        refine LA0 e219_12 ?_
        refine Gi e219_13 (o152 L) (amGi_of f770 (by decide)) ?_
        rw [hPl.1]
        refine Ki e219_16 kbipush_8 ?_
        refine CN_ne (a := σ.1.length) (b := 8) e219_18 t219_18 rfl (by decide) (by omega) (by omega) (fun _ => ?_) (fun q => absurd q g8)
        refine LA0 e219_24 ?_
        refine Cv0p e219_25 c219_189 (o152 L) (Nat.le_of_ble_eq_true rfl) (Nat.le_of_ble_eq_true rfl) (m_opens) ?_
        rintro _ Ia0 Ja0 Ra0 ⟨rfl, hI0, hJ0, hR0⟩
        have hI0 := hI0.symm
        subst hI0
        have hJ0 := hJ0.symm
        subst hJ0
        have hR0 := hR0.symm
        subst hR0
        refine LA0 e219_28 ?_
        refine LI2 e219_29 ?_
        refine LA0 e219_30 ?_
        refine Gr e219_31 (o152 L) (hR 152 7 157 rfl) f775 ?_
        refine Cv2p e219_34 c219_163 (o152 L) (Nat.le_of_ble_eq_true rfl) (Nat.le_of_ble_eq_true rfl) (m_loads hR (o157 L) (by omega) (fun k2 hk2 => (hPl.k hk0 (by omega) (by omega)).2 k k2 hk hk2) hok) ?_
        rintro _ Ia1 Ja1 Ra1 ⟨rfl, hI1, hR1, hF1, hP1⟩
        have hI1 := hI1.symm
        subst hI1
        have hR1 := hR1.symm
        subst hR1
        refine LI1 e219_37 ?_
        refine Cs1 e219_38 c219_213 (Nat.le_of_ble_eq_true rfl) (Nat.le_of_ble_eq_true rfl) ((m_isOfTwo gt.1)) ?_
        rw [decide_eq_true gw]
        rw [show bI true = 1 from rfl]
        refine B_eq e219_41 t219_41 (fun q => absurd q (by decide)) (fun _ => ?_)
        refine LA0 e219_44 ?_
        refine LI3 e219_45 ?_
        refine LA0 e219_46 ?_
        refine Gr e219_47 (o152 L) (hR 152 8 158 rfl) f776 ?_
        refine Cv2p e219_50 c219_163 (o152 L) (Nat.le_of_ble_eq_true rfl) (Nat.le_of_ble_eq_true rfl) (m_loads hR (o158 L) (by omega) (fun k2 hk2 => (hPl.k hk0 (by omega) (by omega)).2 m k2 hm hk2) hokm) ?_
        rintro _ Ia2 Ja2 Ra2 ⟨rfl, hI2, hR2, hF2, hP2⟩
        have hI2 := hI2.symm
        subst hI2
        have hR2 := hR2.symm
        subst hR2
        refine LA0 e219_53 ?_
        refine LI1 e219_54 ?_
        refine LI3 e219_55 ?_
        refine Cv2p e219_56 c219_218 (o152 L) (Nat.le_of_ble_eq_true rfl) (Nat.le_of_ble_eq_true rfl) (m_makes2 hR (hP1.fr hF2 (by decide)) hP2 hok hokm amU_same gw) ?_
        rintro _ Ia3 Ja3 Ra3 ⟨rfl, hR3, hG3, hF3, hD⟩
        have hR3 := hR3.symm
        subst hR3
        have hk3 : MK Ia Ia3 Ja Ja3 := hk0.tr ((hG3.go (B := 0)).k (fun y hy => by rw [hF3 y hy, hF2 y (by omega), hF1 y (by omega)]))
        rcases hD with ⟨g, hg, hf3, hP3⟩ | ⟨hg, hf3⟩
        · rw [hg]
          dsimp only
          have hgB : PB 4000000000000000000 g := mkF_PB hg hok.1 hokm.1 (by rw [nI_toInt (by omega)]; omega) (by have := hok.2.2; omega)
          refine LA0 e219_59 ?_
          refine Cv0p e219_60 c219_158 (o152 L) (Nat.le_of_ble_eq_true rfl) (Nat.le_of_ble_eq_true rfl) (m_comesq (h.k hk3) hf3 hP3 hgB) ?_
          rintro v Ia9 Ja9 Ra9 hres
          obtain rfl := hres.1.1
          exact Ri e219_63 rt219 (hres.tr hk3.lo hk3.2 (hv0.tr hG3.v))
        · rw [hg]
          dsimp only
          refine LA0 e219_59 ?_
          refine Cv0p e219_60 c219_158 (o152 L) (Nat.le_of_ble_eq_true rfl) (Nat.le_of_ble_eq_true rfl) (m_comesFq (h.k hk3) hf3) ?_
          rintro v Ia9 Ja9 Ra9 hres
          obtain rfl := hres.1.1
          exact Ri e219_63 rt219 (hres.tr hk3.lo hk3.2 (hv0.tr hG3.v))
      · have hkb : ∀ g, mkF t.toInt.toNat (σ.1.getD k zP) (plP σ.1 q) q.toInt = some g → PB 4000000000000000000 g := fun g hg => by
          exact mkF_PB1 hg hok gt gw (fun z => by
            have y := gj
            unfold okJ at y
            rw [if_neg gw, if_pos z] at y
            exact y)
        have h11 : t = 11 → 1 ≤ q.toInt ∧ q.toInt ≤ 4 := fun z => by
          have y := gj
          unfold okJ at y
          rw [if_neg gw, if_neg (by rw [z]; decide), if_pos z] at y
          exact y
        refine LA0 e219_0 ?_
        refine LI1 e219_1 ?_
        refine LI2 e219_2 ?_
        refine LI3 e219_3 ?_
        refine Cv3 e219_4 c219_215 (o152 L) (Nat.le_of_ble_eq_true rfl) (Nat.le_of_ble_eq_true rfl) ((m_isMaking h8 hPl.1)) ?_
        rw [decide_eq_true gm]
        rw [show bI true = 1 from rfl]
        refine B_ne e219_7 t219_7 (fun _ => ?_) (fun q => absurd (by decide) q)
        refine LA0 e219_12 ?_
        refine Gi e219_13 (o152 L) (amGi_of f770 (by decide)) ?_
        rw [hPl.1]
        refine Ki e219_16 kbipush_8 ?_
        refine CN_ne (a := σ.1.length) (b := 8) e219_18 t219_18 rfl (by decide) (by omega) (by omega) (fun _ => ?_) (fun q => absurd q g8)
        refine LA0 e219_24 ?_
        refine Cv0p e219_25 c219_189 (o152 L) (Nat.le_of_ble_eq_true rfl) (Nat.le_of_ble_eq_true rfl) (m_opens) ?_
        rintro _ Ia0 Ja0 Ra0 ⟨rfl, hI0, hJ0, hR0⟩
        have hI0 := hI0.symm
        subst hI0
        have hJ0 := hJ0.symm
        subst hJ0
        have hR0 := hR0.symm
        subst hR0
        refine LA0 e219_28 ?_
        refine LI2 e219_29 ?_
        refine LA0 e219_30 ?_
        refine Gr e219_31 (o152 L) (hR 152 7 157 rfl) f775 ?_
        refine Cv2p e219_34 c219_163 (o152 L) (Nat.le_of_ble_eq_true rfl) (Nat.le_of_ble_eq_true rfl) (m_loads hR (o157 L) (by omega) (fun k2 hk2 => (hPl.k hk0 (by omega) (by omega)).2 k k2 hk hk2) hok) ?_
        rintro _ Ia1 Ja1 Ra1 ⟨rfl, hI1, hR1, hF1, hP1⟩
        have hI1 := hI1.symm
        subst hI1
        have hR1 := hR1.symm
        subst hR1
        refine LI1 e219_37 ?_
        refine Cs1 e219_38 c219_213 (Nat.le_of_ble_eq_true rfl) (Nat.le_of_ble_eq_true rfl) ((m_isOfTwo gt.1)) ?_
        rw [decide_eq_false gw]
        rw [show bI false = 0 from rfl]
        refine B_eq e219_41 t219_41 (fun _ => ?_) (fun q => absurd (rfl) q)
        refine LA0 e219_53 ?_
        refine LI1 e219_54 ?_
        refine LI3 e219_55 ?_
        refine Cv2p e219_56 c219_218 (o152 L) (Nat.le_of_ble_eq_true rfl) (Nat.le_of_ble_eq_true rfl) (m_makes1 (q := plP σ.1 q) hR hP1 hok amU_same gt gw h11) ?_
        rintro _ Ia3 Ja3 Ra3 ⟨rfl, hR3, hG3, hF3, hD⟩
        have hR3 := hR3.symm
        subst hR3
        have hk3 : MK Ia Ia3 Ja Ja3 := hk0.tr ((hG3.go (B := 0)).k (fun y hy => by rw [hF3 y hy, hF1 y (by omega)]))
        rcases hD with ⟨g, hg, hf3, hP3⟩ | ⟨hg, hf3⟩
        · rw [hg]
          dsimp only
          have hgB : PB 4000000000000000000 g := hkb g hg
          refine LA0 e219_59 ?_
          refine Cv0p e219_60 c219_158 (o152 L) (Nat.le_of_ble_eq_true rfl) (Nat.le_of_ble_eq_true rfl) (m_comesq (h.k hk3) hf3 hP3 hgB) ?_
          rintro v Ia9 Ja9 Ra9 hres
          obtain rfl := hres.1.1
          exact Ri e219_63 rt219 (hres.tr hk3.lo hk3.2 (hv0.tr hG3.v))
        · rw [hg]
          dsimp only
          refine LA0 e219_59 ?_
          refine Cv0p e219_60 c219_158 (o152 L) (Nat.le_of_ble_eq_true rfl) (Nat.le_of_ble_eq_true rfl) (m_comesFq (h.k hk3) hf3) ?_
          rintro v Ia9 Ja9 Ra9 hres
          obtain rfl := hres.1.1
          exact Ri e219_63 rt219 (hres.tr hk3.lo hk3.2 (hv0.tr hG3.v))
  · rw [if_neg gm]
    refine LA0 e219_0 ?_
    refine LI1 e219_1 ?_
    refine LI2 e219_2 ?_
    refine LI3 e219_3 ?_
    refine Cv3 e219_4 c219_215 (o152 L) (Nat.le_of_ble_eq_true rfl) (Nat.le_of_ble_eq_true rfl) ((m_isMaking h8 hPl.1)) ?_
    rw [decide_eq_false gm]
    rw [show bI false = 0 from rfl]
    refine B_ne e219_7 t219_7 (fun q => absurd q ((fun z => z rfl))) (fun _ => ?_)
    refine Ki e219_10 kiconst_m1 ?_
    exact Ri e219_11 rt219 (MPv.rf h)
/-- what goesThrough(false) leaves -/
def G1P (Ia : amI) (Ja : amJ) (Ra : amR) (o : Nat ⊕ Nat) (v : Option Value) (Ia' : amI) (Ja' : amJ) (Ra' : amR) : Prop := (∃ x, v = some (.int x)) ∧ Ra' = Ra ∧ FrX Ia Ia' ∧ Fr Ja Ja' 156 ∧ ((∃ e, o = .inl e ∧ Ia' 152 38 = 1 ∧ Ia' 152 39 = nI e) ∨ ∃ c, o = .inr c ∧ Ia' 152 38 = 0)
theorem G1P.tr {Ia Ia1 Ia' : amI} {Ja Ja1 Ja' : amJ} {Ra Ra' : amR} {o : Nat ⊕ Nat} {v : Option Value} (h : G1P Ia1 Ja1 Ra o v Ia' Ja' Ra') (h1 : FrX Ia Ia1) (h2 : Fr Ja Ja1 156) : G1P Ia Ja Ra o v Ia' Ja' Ra' := ⟨h.1, h.2.1, h1.tr h.2.2.1, h2.tr h.2.2.2.1, h.2.2.2.2⟩
set_option maxHeartbeats 2000000 in
theorem m_go1_end {l4 l5 : Option Value} {o : Nat ⊕ Nat} {c : Nat} (hR : amRok Ra) (hT : MT Ia T n) (hk : k ≤ n) (ha : Ia 152 37 = nI k) (h0 : Ia 152 38 = 0) (h1 : k = n → ∃ c, o = .inr c) (h2 : k ≠ n → o = .inl k) : Ex 230 9 [some (.ref 152), some (.int 0), some (.int (nI c)), some (.int 0), l4, l5] [] (amSH L) Ia Ja Ra (G1P Ia Ja Ra o) := by
  have hn := hT.2.1
  by_cases g : k = n
  · obtain ⟨c', hc'⟩ := h1 g
    refine LI3 e230_9 ?_
    refine B_eq e230_10 t230_10 (fun _ => ?_) (fun q => absurd (rfl) q)
    refine LA0 e230_125 ?_
    refine Gi e230_126 (o152 L) (amGi_of f805 (by decide)) ?_
    rw [ha]
    refine LA0 e230_129 ?_
    refine Gi e230_130 (o152 L) (amGi_of f804 (by decide)) ?_
    rw [hT.1.1]
    refine CN_ge (a := k) (b := n) e230_133 t230_133 rfl rfl (by omega) (by omega) (fun _ => ?_) (fun q => by omega)
    refine LI2 e230_144 ?_
    exact Ri e230_145 rt230 (⟨⟨_, rfl⟩, rfl, FrX.rf, Fr.rf, Or.inr ⟨_, hc', h0⟩⟩)
  · refine LI3 e230_9 ?_
    refine B_eq e230_10 t230_10 (fun _ => ?_) (fun q => absurd (rfl) q)
    refine LA0 e230_125 ?_
    refine Gi e230_126 (o152 L) (amGi_of f805 (by decide)) ?_
    rw [ha]
    refine LA0 e230_129 ?_
    refine Gi e230_130 (o152 L) (amGi_of f804 (by decide)) ?_
    rw [hT.1.1]
    refine CN_ge (a := k) (b := n) e230_133 t230_133 rfl rfl (by omega) (by omega) (fun q => absurd q (by omega)) (fun _ => ?_)
    refine LA0 e230_136 ?_
    refine LA0 e230_137 ?_
    refine Gi e230_138 (o152 L) (amGi_of f805 (by decide)) ?_
    rw [ha]
    refine Cv1p e230_141 c230_222 (o152 L) (Nat.le_of_ble_eq_true rfl) (Nat.le_of_ble_eq_true rfl) (m_wrong (by (repeat rw [up_o (by omega)]); first | exact amU_same | exact h0)) ?_
    rintro _ Ia9 Ja9 Ra9 ⟨rfl, hI9, hJ9, hR9⟩
    have hI9 := hI9.symm
    subst hI9
    have hJ9 := hJ9.symm
    subst hJ9
    have hR9 := hR9.symm
    subst hR9
    refine LI2 e230_144 ?_
    exact Ri e230_145 rt230 (⟨⟨_, rfl⟩, rfl, (FrX.rf.up (by omega)).up (by omega), Fr.rf, Or.inl ⟨_, h2 g, (by (repeat rw [up_o (by omega)]); first | exact amU_same | exact h0), (by (repeat rw [up_o (by omega)]); first | exact amU_same | exact h0)⟩⟩)
set_option maxHeartbeats 2000000 in
theorem m_go1 (hR : amRok Ra) : ∀ (f b c : Nat) (Ia : amI) (Ja : amJ) (l4 l5 : Option Value), f + c = 120 → 2 * c ≤ b → b ≤ n → MT Ia T n → Ia 152 37 = nI b → Ia 152 38 = 0 → Ex 230 9 [some (.ref 152), some (.int 0), some (.int (nI c)), some (.int 1), l4, l5] [] (amSH L) Ia Ja Ra (G1P Ia Ja Ra (ckN T n f b (c + 1))) := by
  intro f
  induction f with
  | zero =>
    intro b c Ia Ja l4 l5 hf hc hb hT
    have := hT.2.1
    omega
  | succ f ih =>
    intro b c Ia Ja l4 l5 hf hc hb hT ha h0
    have hn := hT.2.1
    refine LI3 e230_9 ?_
    refine B_eq e230_10 t230_10 (fun q => absurd q (by decide)) (fun _ => ?_)
    refine LA0 e230_13 ?_
    refine Gi e230_14 (o152 L) (amGi_of f805 (by decide)) ?_
    rw [ha]
    refine SI4 e230_17 rfl ?_
    refine LA0 e230_19 ?_
    refine Cv0p e230_20 c230_229 (o152 L) (Nat.le_of_ble_eq_true rfl) (Nat.le_of_ble_eq_true rfl) (m_statement hR hT hb ha h0) ?_
    rintro v Ia2 Ja2 Ra2 ⟨hv, hR2, hF2, hF3, hD⟩
    subst hv
    have hR2 := hR2.symm
    subst hR2
    have hT2 := hT.x hF2
    have hD2 : (∃ e, stmS T b = .inl e ∧ Ia2 152 38 = 1 ∧ Ia2 152 39 = nI e) ∨ ∃ k o, stmS T b = .inr (k, o) ∧ Ia2 152 38 = 0 ∧ Ia2 152 37 = nI k := by
      rcases hD with h | ⟨k, p, h1, h2, h3, -⟩ | ⟨k, t, i, s, h1, -, h2, h3, -⟩
      · exact Or.inl h
      · exact Or.inr ⟨k, _, h1, h2, h3⟩
      · exact Or.inr ⟨k, _, h1, h2, h3⟩
    rcases hD2 with ⟨e, hs, w1, w2⟩ | ⟨k, o, hs, w1, w2⟩
    · refine LA0 e230_23 ?_
      refine Gi e230_24 (o152 L) (amGi_of f806 (by decide)) ?_
      rw [w1]
      refine B_eq e230_27 t230_27 (fun q => absurd q (by decide)) (fun _ => ?_)
      refine LI2 e230_30 ?_
      exact Ri e230_31 rt230 (⟨⟨_, rfl⟩, rfl, hF2, hF3, Or.inl ⟨e, by rw [ckN, hs], w1, w2⟩⟩)
    · have hk := (stmS_n hT.2.2 hb).2 k o hs
      by_cases g59 : T k = 59
      · have hkn : k < n := T_lt hT.2.2 (fun z => by rw [z] at g59; exact absurd g59 (by decide))
        have ec : ckN T n (f + 1) b (c + 1) = ckN T n f (k + 1) (c + 1 + 1) := by
          rw [ckN, hs]
          dsimp only
          rw [if_neg (by omega), if_pos g59]
        rw [ec]
        refine LA0 e230_23 ?_
        refine Gi e230_24 (o152 L) (amGi_of f806 (by decide)) ?_
        rw [w1]
        refine B_eq e230_27 t230_27 (fun _ => ?_) (fun q => absurd (rfl) q)
        refine LI1 e230_32 ?_
        refine B_eq e230_33 t230_33 (fun _ => ?_) (fun q => absurd (rfl) q)
        refine IncN2 (m := c) e230_86 rfl ?_
        refine LA0 e230_89 ?_
        refine Cv0 e230_90 c230_221 (o152 L) (Nat.le_of_ble_eq_true rfl) (Nat.le_of_ble_eq_true rfl) ((m_here (b := k) hR hT2 w2 (by omega))) ?_
        refine Ki e230_93 kbipush_59 ?_
        refine C_ne e230_95 t230_95 (fun q => absurd q (fun z => z g59)) (fun _ => ?_)
        refine Ki e230_98 kiconst_1 ?_
        refine Go e230_99 t230_99 ?_
        refine SI3 e230_103 rfl ?_
        refine LA0 e230_104 ?_
        refine Dup e230_105 rfl ?_
        refine Gi e230_106 (o152 L) (amGi_of f805 (by decide)) ?_
        rw [w2]
        refine LI3 e230_109 ?_
        refine B_eq e230_110 t230_110 (fun q => absurd q (by decide)) (fun _ => ?_)
        refine Ki e230_113 kiconst_1 ?_
        refine Go e230_114 t230_114 ?_
        refine IaddN (a := k) (b := 1) e230_118 rfl (by decide) ?_
        refine Pi e230_119 (o152 L) f805 ?_
        refine Go e230_122 t230_122 ?_
        exact (ih (k + 1) (c + 1) _ _ _ _ (by omega) (by omega) hkn (hT2.x (FrX.rf.up (by omega))) amU_same (by (repeat rw [up_o (by omega)]); first | exact amU_same | exact w1)).mono (fun v Ia' Ja' Ra' hz => hz.tr (hF2.up (by omega)) hF3)
      · refine LA0 e230_23 ?_
        refine Gi e230_24 (o152 L) (amGi_of f806 (by decide)) ?_
        rw [w1]
        refine B_eq e230_27 t230_27 (fun _ => ?_) (fun q => absurd (rfl) q)
        refine LI1 e230_32 ?_
        refine B_eq e230_33 t230_33 (fun _ => ?_) (fun q => absurd (rfl) q)
        refine IncN2 (m := c) e230_86 rfl ?_
        refine LA0 e230_89 ?_
        refine Cv0 e230_90 c230_221 (o152 L) (Nat.le_of_ble_eq_true rfl) (Nat.le_of_ble_eq_true rfl) ((m_here (b := k) hR hT2 w2 (by omega))) ?_
        refine Ki e230_93 kbipush_59 ?_
        refine C_ne e230_95 t230_95 (fun _ => ?_) (fun q => absurd (g59) q)
        refine Ki e230_102 kiconst_0 ?_
        refine SI3 e230_103 rfl ?_
        refine LA0 e230_104 ?_
        refine Dup e230_105 rfl ?_
        refine Gi e230_106 (o152 L) (amGi_of f805 (by decide)) ?_
        rw [w2]
        refine LI3 e230_109 ?_
        refine B_eq e230_110 t230_110 (fun _ => ?_) (fun q => absurd (rfl) q)
        refine Ki e230_117 kiconst_0 ?_
        refine IaddN (a := k) (b := 0) e230_118 rfl (by decide) ?_
        rw [Nat.add_zero]
        refine Pi e230_119 (o152 L) f805 ?_
        refine Go e230_122 t230_122 ?_
        refine (m_go1_end (c := c + 1) hR (hT2.x (FrX.rf.up (by omega))) hk.1 amU_same (by (repeat rw [up_o (by omega)]); first | exact amU_same | exact w1) (fun z => ?_) (fun z => ?_)).mono (fun v Ia' Ja' Ra' hz => hz.tr (hF2.up (by omega)) hF3)
        · refine ⟨c + 1, ?_⟩
          rw [ckN, hs]
          dsimp only
          rw [if_pos z]
        · rw [ckN, hs]
          dsimp only
          rw [if_neg z, if_neg g59]
/-- what goesThrough(true) leaves -/
def G2P (Ia : amI) (Ja : amJ) (Ra : amR) (σ : PS) (c : Nat) (o : Nat ⊕ PS) (v : Option Value) (Ia' : amI) (Ja' : amJ) (Ra' : amR) : Prop := ∃ τ, MSt Ia' Ja' Ra' τ ∧ Ra' = Ra ∧ τ.2 = σ.2 ∧ (∀ i, Ia' 155 i = Ia 155 i) ∧ (∀ y, y < 152 → Ia' y = Ia y) ∧ (∀ y, y < 152 → Ja' y = Ja y) ∧ ((∃ b x, o = .inl b ∧ v = some (.int x) ∧ Ia' 152 38 = 1 ∧ Ia' 152 39 = nI b) ∨ (o = .inr τ ∧ v = some (.int (nI c)) ∧ Ia' 152 38 = 0))
theorem G2P.tr {Ia Ia1 Ia' : amI} {Ja Ja1 Ja' : amJ} {Ra Ra' : amR} {c : Nat} {o : Nat ⊕ PS} {v : Option Value} {σ : PS} (h : G2P Ia1 Ja1 Ra σ c o v Ia' Ja' Ra') (h1 : ∀ i, Ia1 155 i = Ia 155 i) (h2 : ∀ y, y < 152 → Ia1 y = Ia y) (h3 : ∀ y, y < 152 → Ja1 y = Ja y) : G2P Ia Ja Ra σ c o v Ia' Ja' Ra' := by
  obtain ⟨τ, a1, a2, a3, a4, a5, a6, a7⟩ := h
  exact ⟨τ, a1, a2, a3, fun i => (a4 i).trans (h1 i), fun y hy => (a5 y hy).trans (h2 y hy), fun y hy => (a6 y hy).trans (h3 y hy), a7⟩
set_option maxHeartbeats 2000000 in
theorem m_go71 {ρ : PS} {came : Int32} {l5 : Option Value} {c C gg : Nat} {x5 : Int32} (hR : amRok Ra) (hb : b ≤ 120) (hk : k ≤ σ.2.2.2.1) (hc : c ≤ 120) (hz : ∀ k, σ.2.2.2.1 ≤ k → σ.2.2.1 k = 0) (h : MSt Ia Ja Ra τ) (hτ : τ.2 = σ.2) (ha : Ia 152 37 = nI k) (h0 : Ia 152 38 = 0) (hno : came < 0 → rdN σ.2.2.1 (gg + 1) (b, ρ) = .inl b) (hend : ¬ came < 0 → k = σ.2.2.2.1 → rdN σ.2.2.1 (gg + 1) (b, ρ) = .inr τ ∧ C = c + 1) (h59 : k ≠ σ.2.2.2.1 → σ.2.2.1 k = 59) (hgo : ¬ came < 0 → k ≠ σ.2.2.2.1 → ∀ Ia1, MSt Ia1 Ja Ra τ → Ia1 152 37 = nI (k + 1) → Ia1 152 38 = 0 → FrX Ia Ia1 → Ex 230 9 [some (.ref 152), some (.int 1), some (.int (nI (c + 1))), some (.int 1), some (.int (nI b)), some (.int came)] [] (amSH L) Ia1 Ja Ra (G2P Ia1 Ja Ra σ C (rdN σ.2.2.1 (gg + 1) (b, ρ)))) : Ex 230 71 [some (.ref 152), some (.int 1), some (.int (nI c)), some (.int 1), some (.int (nI b)), l5] [.int came] (amSH L) Ia Ja Ra (G2P Ia Ja Ra σ C (rdN σ.2.2.1 (gg + 1) (b, ρ))) := by
  have hn120 := h.2.2.2.2.2.2.2.2.1
  have hT : MT Ia σ.2.2.1 σ.2.2.2.1 := by
    have h4 : M4 Ia τ.2.2.1 τ.2.2.2.1 := h.2.2.2.1
    rw [hτ] at h4 hn120
    exact ⟨h4, hn120, hz⟩
  have hn := hT.2.1
  refine SI5 e230_71 rfl ?_
  refine LI5 e230_73 ?_
  refine B_ge e230_75 t230_75 (fun h75 => ?_) (fun h75 => ?_)
  · have hpos : ¬ came < 0 := (fun z => by rw [i32le, show (0 : Int32).toInt = 0 from rfl] at h75; rw [i32lt, show (0 : Int32).toInt = 0 from rfl] at z; omega)
    by_cases gk : k = σ.2.2.2.1
    · have hk0 : ¬ σ.2.2.1 k = 59 := by rw [hz k (by omega)]; decide
      obtain ⟨e1, e2⟩ := hend hpos gk
      subst e2
      refine IncN2 (m := c) e230_86 rfl ?_
      refine LA0 e230_89 ?_
      refine Cv0 e230_90 c230_221 (o152 L) (Nat.le_of_ble_eq_true rfl) (Nat.le_of_ble_eq_true rfl) ((m_here (b := k) hR hT ha (by omega))) ?_
      refine Ki e230_93 kbipush_59 ?_
      refine C_ne e230_95 t230_95 (fun _ => ?_) (fun q => absurd (hk0) q)
      refine Ki e230_102 kiconst_0 ?_
      refine SI3 e230_103 rfl ?_
      refine LA0 e230_104 ?_
      refine Dup e230_105 rfl ?_
      refine Gi e230_106 (o152 L) (amGi_of f805 (by decide)) ?_
      rw [ha]
      refine LI3 e230_109 ?_
      refine B_eq e230_110 t230_110 (fun _ => ?_) (fun q => absurd (rfl) q)
      refine Ki e230_117 kiconst_0 ?_
      refine IaddN (a := k) (b := 0) e230_118 rfl (by decide) ?_
      rw [Nat.add_zero]
      refine Pi e230_119 (o152 L) f805 ?_
      refine Go e230_122 t230_122 ?_
      refine LI3 e230_9 ?_
      refine B_eq e230_10 t230_10 (fun _ => ?_) (fun q => absurd (rfl) q)
      refine LA0 e230_125 ?_
      refine Gi e230_126 (o152 L) (amGi_of f805 (by decide)) ?_
      rw [amU_same]
      refine LA0 e230_129 ?_
      refine Gi e230_130 (o152 L) (amGi_of f804 (by decide)) ?_
      rw [up_o (by omega), hT.1.1]
      refine CN_ge (a := k) (b := σ.2.2.2.1) e230_133 t230_133 rfl rfl (by omega) (by omega) (fun _ => ?_) (fun q => by omega)
      refine LI2 e230_144 ?_
      exact Ri e230_145 rt230 (⟨τ, h.k ((FrX.rf.up (k := 37) (by omega)).k (fun _ _ => rfl)), rfl, hτ, fun i => up_o (by omega), fun y hy => by funext i; rw [up_o (by omega)], fun _ _ => rfl, Or.inr ⟨e1, rfl, (by (repeat rw [up_o (by omega)]); first | exact amU_same | exact h0)⟩⟩)
    · refine IncN2 (m := c) e230_86 rfl ?_
      refine LA0 e230_89 ?_
      refine Cv0 e230_90 c230_221 (o152 L) (Nat.le_of_ble_eq_true rfl) (Nat.le_of_ble_eq_true rfl) ((m_here (b := k) hR hT ha (by omega))) ?_
      refine Ki e230_93 kbipush_59 ?_
      refine C_ne e230_95 t230_95 (fun q => absurd q (fun z => z (h59 gk))) (fun _ => ?_)
      refine Ki e230_98 kiconst_1 ?_
      refine Go e230_99 t230_99 ?_
      refine SI3 e230_103 rfl ?_
      refine LA0 e230_104 ?_
      refine Dup e230_105 rfl ?_
      refine Gi e230_106 (o152 L) (amGi_of f805 (by decide)) ?_
      rw [ha]
      refine LI3 e230_109 ?_
      refine B_eq e230_110 t230_110 (fun q => absurd q (by decide)) (fun _ => ?_)
      refine Ki e230_113 kiconst_1 ?_
      refine Go e230_114 t230_114 ?_
      refine IaddN (a := k) (b := 1) e230_118 rfl (by decide) ?_
      refine Pi e230_119 (o152 L) f805 ?_
      refine Go e230_122 t230_122 ?_
      exact (hgo hpos gk _ (h.k ((FrX.rf.up (k := 37) (by omega)).k (fun _ _ => rfl))) amU_same (by (repeat rw [up_o (by omega)]); first | exact amU_same | exact h0) (FrX.rf.up (by omega))).mono (fun v Ia' Ja' Ra' hz => hz.tr (fun i => up_o (by omega)) (fun y hy => by funext i; rw [up_o (by omega)]) (fun _ _ => rfl))
  · refine LA0 e230_78 ?_
    refine LI4 e230_79 ?_
    refine Cv1p e230_81 c230_222 (o152 L) (Nat.le_of_ble_eq_true rfl) (Nat.le_of_ble_eq_true rfl) (m_wrong h0) ?_
    rintro _ Ia9 Ja9 Ra9 ⟨rfl, hI9, hJ9, hR9⟩
    have hI9 := hI9.symm
    subst hI9
    have hJ9 := hJ9.symm
    subst hJ9
    have hR9 := hR9.symm
    subst hR9
    refine LI2 e230_84 ?_
    exact Ri e230_85 rt230 (by
    have hneg : came < 0 := by
      rw [i32le, show (0 : Int32).toInt = 0 from rfl] at h75
      rw [i32lt, show (0 : Int32).toInt = 0 from rfl]
      omega
    exact ⟨τ, h.k (((FrX.rf.up (k := 38) (by omega)).up (k := 39) (by omega)).k (fun _ _ => rfl)), rfl, hτ, fun i => by (repeat rw [up_o (by omega)]), fun y hy => by funext i; (repeat rw [up_o (by omega)]), fun _ _ => rfl, Or.inl ⟨b, _, hno hneg, rfl, (by (repeat rw [up_o (by omega)]); first | exact amU_same | exact h0), (by (repeat rw [up_o (by omega)]); first | exact amU_same | exact h0)⟩⟩)
set_option maxHeartbeats 2000000 in
theorem m_go2 {C : Nat} (hR : amRok Ra) (hz : ∀ k, σ.2.2.2.1 ≤ k → σ.2.2.1 k = 0) (hS0 : SOk σ) (hC : C ≤ 120) : ∀ (gg c b f : Nat) (τ : PS) (Ia : amI) (Ja : amJ) (l4 l5 : Option Value), c + gg = C → 0 < gg → ckN σ.2.2.1 σ.2.2.2.1 f b (c + 1) = .inr C → b ≤ σ.2.2.2.1 → MSt Ia Ja Ra τ → τ.2 = σ.2 → Ia 152 37 = nI b → Ia 152 38 = 0 → Ex 230 9 [some (.ref 152), some (.int 1), some (.int (nI c)), some (.int 1), l4, l5] [] (amSH L) Ia Ja Ra (G2P Ia Ja Ra σ C (rdN σ.2.2.1 gg (b, τ))) := by
  intro gg
  induction gg with
  | zero => intro c b f τ Ia Ja l4 l5 h1 h2; omega
  | succ gg ih =>
    intro c b f τ Ia Ja l4 l5 hcg _ hck hb h hτ ha h0
    have hn120 := hS0.2.2.1
    have h8 := h.2.2.2.2.2.2.1.1
    have hT : MT Ia σ.2.2.1 σ.2.2.2.1 := by
      have h4 : M4 Ia τ.2.2.1 τ.2.2.2.1 := h.2.2.2.1
      rw [hτ] at h4
      exact ⟨h4, hn120, hz⟩
    obtain ⟨kk, oo, hst0, hnx⟩ := ckN_s2 hck
    have hkn := (stmS_n hz hb).2 kk oo hst0
    refine LI3 e230_9 ?_
    refine B_eq e230_10 t230_10 (fun q => absurd q (by decide)) (fun _ => ?_)
    refine LA0 e230_13 ?_
    refine Gi e230_14 (o152 L) (amGi_of f805 (by decide)) ?_
    rw [ha]
    refine SI4 e230_17 rfl ?_
    refine LA0 e230_19 ?_
    refine Cv0p e230_20 c230_229 (o152 L) (Nat.le_of_ble_eq_true rfl) (Nat.le_of_ble_eq_true rfl) (m_statement hR hT hb ha h0) ?_
    rintro v Ia2 Ja2 Ra2 ⟨hv, hR2, hF2, hF3, hD⟩
    subst hv
    have hR2 := hR2.symm
    subst hR2
    have hm2 : MSt (amU Ia2 152 9 0) Ja2 Ra τ := h.k ((hF2.k (fun y hy => hF3 y (by omega))).tr ⟨fun y i a b c => up_o (by omega), fun _ _ => rfl⟩)
    rcases hD with ⟨e, hs, -⟩ | ⟨k, p, hE, w38, w37, w40, wP⟩ | ⟨k, t, i, s, hE, ht, w38, w37, w40, w41, w42⟩
    · rw [hst0] at hs
      cases hs
    · have ekk : kk = k := by
        have e9 := hst0.symm.trans hE
        cases e9
        rfl
      subst ekk
      refine LA0 e230_23 ?_
      refine Gi e230_24 (o152 L) (amGi_of f806 (by decide)) ?_
      rw [w38]
      refine B_eq e230_27 t230_27 (fun _ => ?_) (fun q => absurd (rfl) q)
      refine LI1 e230_32 ?_
      refine B_eq e230_33 t230_33 (fun q => absurd q (by decide)) (fun _ => ?_)
      refine LA0 e230_36 ?_
      refine Cv0p e230_37 c230_189 (o152 L) (Nat.le_of_ble_eq_true rfl) (Nat.le_of_ble_eq_true rfl) (m_opens) ?_
      rintro _ Ia1 Ja1 Ra1 ⟨rfl, hI1, hJ1, hR1⟩
      have hI1 := hI1.symm
      subst hI1
      have hJ1 := hJ1.symm
      subst hJ1
      have hR1 := hR1.symm
      subst hR1
      refine LA0 e230_40 ?_
      refine Gi e230_41 (o152 L) (amGi_of f808 (by decide)) ?_
      rw [up_o (by omega), w40]
      refine Ki e230_44 kiconst_m1 ?_
      refine C_ne e230_45 t230_45 (fun q => absurd q (fun z => z rfl)) (fun _ => ?_)
      refine LA0 e230_48 ?_
      refine Cv0p e230_49 c230_158 (o152 L) (Nat.le_of_ble_eq_true rfl) (Nat.le_of_ble_eq_true rfl) (m_comesq hm2 amU_same wP ((stmS_PB hz hb hE).mono (by decide))) ?_
      rintro v4 Ia4 Ja4 Ra4 hres
      obtain rfl := hres.1.1
      have hrd : rdS σ.2.2.1 (b, τ) = ((sBring τ p).1, kk + 1, (sBring τ p).2) := by unfold rdS; dsimp only; rw [hE]
      obtain ⟨hx1, hx2, -⟩ := sBring_ext (σ := τ) (g := p) h8
      refine Go e230_52 t230_52 ?_
      have hv150 := hres.1.2.2.1
      have hj150 := hres.1.2.2.2.1
      have hR4 := hres.1.2.2.2.2
      have hR4 := hR4.symm
      subst hR4
      have hM4 := hres.1.2.1
      have hV4 := hres.2
      have hX4 : ∀ i, Ia4 155 i = Ia 155 i := fun i => (hV4.1 i).trans ((up_o (by omega)).trans (hF2 155 i (by omega)))
      have hY4 : ∀ y, y < 152 → Ia4 y = Ia y := fun y hy => (hv150 y hy).trans (by funext i; exact (up_o (by omega)).trans (hF2 y i (by omega)))
      have hZ4 : ∀ y, y < 152 → Ja4 y = Ja y := fun y hy => (hj150 y hy).trans (hF3 y (by omega))
      have h21 := hx1.trans hτ
      refine (m_go71 (k := kk) (gg := gg) (ρ := τ) (x5 := 0) hR (by omega) hkn.1 (by omega) hz hM4 h21 ((hV4.2 37 (by omega) (by omega)).trans ((up_o (by omega)).trans w37)) ((hV4.2 38 (by omega) (by omega)).trans ((up_o (by omega)).trans w38)) (fun hv => rdN_no (by rw [hrd]; exact hv)) (fun hv hk => ?_) (fun hk => ?_) (fun hv hk Ia5 m1 m2 m3 m4 => ?_)).mono (fun v Ia' Ja' Ra' hz => hz.tr hX4 hY4 hZ4)
      · rcases hnx with ⟨a1, a2⟩ | ⟨a1, -⟩
        · have eg : gg = 0 := by omega
          subst eg
          refine ⟨?_, a2⟩
          rw [rdN_yes (by rw [hrd]; exact hv), hrd]
          rfl
        · exact absurd hk a1
      · rcases hnx with ⟨a1, -⟩ | ⟨-, a2, -⟩
        · exact absurd a1 hk
        · exact a2
      · rcases hnx with ⟨a1, -⟩ | ⟨-, a2, f', a3⟩
        · exact absurd a1 hk
        · have hck2 := ckN_ge a3
          rw [rdN_yes (by rw [hrd]; exact hv), hrd]
          exact ih (c + 1) (kk + 1) f' _ _ _ _ _ (by omega) (by omega) a3 (T_lt hz (fun z => by rw [z] at a2; exact absurd a2 (by decide))) m1 h21 m2 m3
    · have ekk : kk = k := by
        have e9 := hst0.symm.trans hE
        cases e9
        rfl
      subst ekk
      have h77 : ¬ nI t = -1 := fun z => by
        have z2 := congrArg Int32.toInt z
        rw [nI_toInt (by omega), show (-1 : Int32).toInt = -1 from by decide] at z2
        omega
      refine LA0 e230_23 ?_
      refine Gi e230_24 (o152 L) (amGi_of f806 (by decide)) ?_
      rw [w38]
      refine B_eq e230_27 t230_27 (fun _ => ?_) (fun q => absurd (rfl) q)
      refine LI1 e230_32 ?_
      refine B_eq e230_33 t230_33 (fun q => absurd q (by decide)) (fun _ => ?_)
      refine LA0 e230_36 ?_
      refine Cv0p e230_37 c230_189 (o152 L) (Nat.le_of_ble_eq_true rfl) (Nat.le_of_ble_eq_true rfl) (m_opens) ?_
      rintro _ Ia1 Ja1 Ra1 ⟨rfl, hI1, hJ1, hR1⟩
      have hI1 := hI1.symm
      subst hI1
      have hJ1 := hJ1.symm
      subst hJ1
      have hR1 := hR1.symm
      subst hR1
      refine LA0 e230_40 ?_
      refine Gi e230_41 (o152 L) (amGi_of f808 (by decide)) ?_
      rw [up_o (by omega), w40]
      refine Ki e230_44 kiconst_m1 ?_
      refine C_ne e230_45 t230_45 (fun _ => ?_) (fun q => absurd (h77) q)
      refine LA0 e230_55 ?_
      refine LA0 e230_56 ?_
      refine Gi e230_57 (o152 L) (amGi_of f808 (by decide)) ?_
      rw [up_o (by omega), w40]
      refine LA0 e230_60 ?_
      refine Gi e230_61 (o152 L) (amGi_of f809 (by decide)) ?_
      rw [up_o (by omega), w41]
      refine LA0 e230_64 ?_
      refine Gi e230_65 (o152 L) (amGi_of f810 (by decide)) ?_
      rw [up_o (by omega)]
      refine Cv3p e230_68 c230_219 (o152 L) (Nat.le_of_ble_eq_true rfl) (Nat.le_of_ble_eq_true rfl) (n_makeq hm2) ?_
      rintro v4 Ia4 Ja4 Ra4 hres
      obtain rfl := hres.1.1
      have hmk : sMake τ (nI t) (nI i) (Ia2 152 42) = sMake τ (nI t) (nI i) s := by
        by_cases gw : isSg t ∨ isTw (nI t)
        · rw [w42 gw]
        · exact sMake_j ht gw
      have hrd : rdS σ.2.2.1 (b, τ) = ((sMake τ (nI t) (nI i) (Ia2 152 42)).1, kk + 1, (sMake τ (nI t) (nI i) (Ia2 152 42)).2) := by unfold rdS; dsimp only; rw [hE, hmk]
      obtain ⟨hx1, hx2, -⟩ := sMake_ext (σ := τ) (t := nI t) (i := nI i) (q := Ia2 152 42) h8
      have hv150 := hres.1.2.2.1
      have hj150 := hres.1.2.2.2.1
      have hR4 := hres.1.2.2.2.2
      have hR4 := hR4.symm
      subst hR4
      have hM4 := hres.1.2.1
      have hV4 := hres.2
      have hX4 : ∀ i, Ia4 155 i = Ia 155 i := fun i => (hV4.1 i).trans ((up_o (by omega)).trans (hF2 155 i (by omega)))
      have hY4 : ∀ y, y < 152 → Ia4 y = Ia y := fun y hy => (hv150 y hy).trans (by funext i; exact (up_o (by omega)).trans (hF2 y i (by omega)))
      have hZ4 : ∀ y, y < 152 → Ja4 y = Ja y := fun y hy => (hj150 y hy).trans (hF3 y (by omega))
      have h21 := hx1.trans hτ
      refine (m_go71 (k := kk) (gg := gg) (ρ := τ) (x5 := 0) hR (by omega) hkn.1 (by omega) hz hM4 h21 ((hV4.2 37 (by omega) (by omega)).trans ((up_o (by omega)).trans w37)) ((hV4.2 38 (by omega) (by omega)).trans ((up_o (by omega)).trans w38)) (fun hv => rdN_no (by rw [hrd]; exact hv)) (fun hv hk => ?_) (fun hk => ?_) (fun hv hk Ia5 m1 m2 m3 m4 => ?_)).mono (fun v Ia' Ja' Ra' hz => hz.tr hX4 hY4 hZ4)
      · rcases hnx with ⟨a1, a2⟩ | ⟨a1, -⟩
        · have eg : gg = 0 := by omega
          subst eg
          refine ⟨?_, a2⟩
          rw [rdN_yes (by rw [hrd]; exact hv), hrd]
          rfl
        · exact absurd hk a1
      · rcases hnx with ⟨a1, -⟩ | ⟨-, a2, -⟩
        · exact absurd a1 hk
        · exact a2
      · rcases hnx with ⟨a1, -⟩ | ⟨-, a2, f', a3⟩
        · exact absurd a1 hk
        · have hck2 := ckN_ge a3
          rw [rdN_yes (by rw [hrd]; exact hv), hrd]
          exact ih (c + 1) (kk + 1) f' _ _ _ _ _ (by omega) (by omega) a3 (T_lt hz (fun z => by rw [z] at a2; exact absurd a2 (by decide))) m1 h21 m2 m3
end REF40
