/-! the reference: comes, poly (printed by wip/whole/t96.py) -/
theorem mx_iff {g : Po} (h5 : sz g ≤ 5) : mx g 9 ≤ 999 ↔ ∀ k, k < 5 → (g k).natAbs ≤ 999 := by
  constructor
  · intro h k hk
    have := mx_ge (p := g) (n := 9) (k := k) (by omega)
    omega
  · intro h
    refine mx_le (fun k hk => ?_)
    by_cases e : k < 5
    · exact h k e
    · rw [sz_zero (p := g) (by omega) hk]
      decide
theorem natB {x : Int} (h : -4000000000000000000 ≤ x ∧ x ≤ 4000000000000000000) : iB (x.natAbs : Nat) := ⟨by omega, by omega⟩
/-- only the place behind the last polynomial may differ -/
def FrB5 (m : Nat) (I I' : amI) : Prop := ∀ y j, ¬ (y = 153 ∧ 5 * m ≤ j ∧ j < 5 * m + 5) → I' y j = I y j
section REF30
variable {L : Nat} {I : amI} {J : amJ} {R : amR} {Q : amQ} {σ : PS} {g : Po}
set_option maxHeartbeats 2000000 in
theorem m_cm_chk (hR : amRok R) (hg : JP J 156 g) (hB : PB 4000000000000000000 g) (hN : ¬ (∀ k, k < 5 → (g k).natAbs ≤ 999) → Q (some (.int (-3))) I J R) (hY : (∀ k, k < 5 → (g k).natAbs ≤ 999) → Ex 158 78 [some (.ref 152), some (.int (nI 5))] [] (amSH L) I J R Q) : ∀ (n i : Nat), 5 - i < n → i ≤ 5 → (∀ k, k < i → (g k).natAbs ≤ 999) → Ex 158 48 [some (.ref 152), some (.int (nI i))] [] (amSH L) I J R Q := by
  intro n
  induction n with
  | zero => intro i h; omega
  | succ n ih =>
    intro i h h9 hi
    refine LI1 e158_48 ?_
    refine Ki e158_49 kiconst_5 ?_
    refine CN_ge (a := i) (b := 5) e158_50 t158_50 rfl (by decide) (by omega) (by omega) (fun h50 => ?_) (fun h50 => ?_)
    · have e9 : i = 5 := by omega
      subst e9
      exact hY hi
    · refine LA0 e158_53 ?_
      refine Gr e158_54 (o152 L) (hR 152 6 156 rfl) f774 ?_
      refine LI1 e158_57 ?_
      refine AjN (k := i) e158_58 (o156 L) rfl (by omega) (by decide) ?_
      rw [hg i (by omega)]
      refine Cs1 e158_59 c158_153 (Nat.le_of_ble_eq_true rfl) (Nat.le_of_ble_eq_true rfl) ((m_size (hB.iB (by decide) (by omega)))) ?_
      refine Kd e158_62 kj5 ?_
      rw [show (999 : Int64) = oI 999 from rfl]
      refine D_le e158_65 e158_66 t158_66 (fun h65 => ?_) (fun h65 => ?_)
      · refine IncN1 (m := i) e158_72 rfl ?_
        refine Go e158_75 t158_75 ?_
        rw [oI_le (natB (hB i (by omega))) ⟨by decide, by decide⟩] at h65
        refine ih (i + 1) (by omega) (by omega) (fun k hk => ?_)
        by_cases e : k = i
        · rw [e]
          omega
        · exact hi k (by omega)
      · refine Ki e158_69 kbipush_m3 ?_
        exact Ri e158_71 rt158 (by
        rw [oI_le (natB (hB i (by omega))) ⟨by decide, by decide⟩] at h65
        exact hN (fun z => h65 (by have := z i (by omega); omega)))
set_option maxHeartbeats 2000000 in
theorem m_cm_cp {m : Nat} (hR : amRok R) (hm : m < 8) (h2 : I 152 2 = nI m) (hg : JP J 156 g) (hQ : ∀ I'', FrB5 m I I'' → (∀ k, k < 5 → I'' 153 (5 * m + k) = iI (g k)) → Ex 158 111 [some (.ref 152), some (.int (nI 5))] [] (amSH L) I'' J R Q) : ∀ (n i : Nat) (I' : amI), 5 - i < n → i ≤ 5 → FrB5 m I I' → (∀ k, k < i → I' 153 (5 * m + k) = iI (g k)) → Ex 158 80 [some (.ref 152), some (.int (nI i))] [] (amSH L) I' J R Q := by
  intro n
  induction n with
  | zero => intro i I' h; omega
  | succ n ih =>
    intro i I' h h9 g1 g2
    refine LI1 e158_80 ?_
    refine Ki e158_81 kiconst_5 ?_
    refine CN_ge (a := i) (b := 5) e158_82 t158_82 rfl (by decide) (by omega) (by omega) (fun h82 => ?_) (fun h82 => ?_)
    · have e9 : i = 5 := by omega
      subst e9
      exact hQ _ g1 g2
    · refine LA0 e158_85 ?_
      refine Gr e158_86 (o152 L) (hR 152 1 153 rfl) f769 ?_
      refine Ki e158_89 kiconst_5 ?_
      refine LA0 e158_90 ?_
      refine Gi e158_91 (o152 L) (amGi_of f770 (by decide)) ?_
      rw [show I' 152 2 = nI m from (g1 _ _ (by omega)).trans h2]
      refine ImulN (a := 5) (b := m) e158_94 (by decide) rfl ?_
      refine LI1 e158_95 ?_
      refine IaddN (a := (5 * m)) (b := i) e158_96 rfl rfl ?_
      refine LA0 e158_97 ?_
      refine Gr e158_98 (o152 L) (hR 152 6 156 rfl) f774 ?_
      refine LI1 e158_101 ?_
      refine AjN (k := i) e158_102 (o156 L) rfl (by omega) (by decide) ?_
      rw [hg i (by omega)]
      refine L2i e158_103 ?_
      rw [oI_i32]
      refine WiN (k := ((5 * m) + i)) e158_104 (o153 L) rfl (by omega) (by decide) ?_
      refine IncN1 (m := i) e158_105 rfl ?_
      refine Go e158_108 t158_108 ?_
      refine ih (i + 1) _ (by omega) (by omega) (fun y j hy => (up_o (by omega)).trans (g1 y j hy)) (fun k hk => ?_)
      by_cases e : k = i
      · rw [e, amU_same]
      · exact (up_o (by omega)).trans (g2 k (by omega))
set_option maxHeartbeats 2000000 in
theorem m_comesF (h : MSt I J R σ) (hf : I 152 9 = 1) : Cl 158 [.ref 152] (amSH L) I J R (MP I J R σ (.int (-3))) := by
  obtain ⟨hR, hPl, h3, h4, h5, h6, h7⟩ := id h
  have h3 : M3 I σ.2.1 := h3
  have h4 : M4 I σ.2.2.1 σ.2.2.2.1 := h4
  have h5 : M5 I σ.2.2.2.2.1 := h5
  have h6 : M6 I σ.2.2.2.2.2.1 σ.2.2.2.2.2.2 := h6
  have h8 := h7.1.1
  have hn120 := h7.2.2.1
  have hw35 := h7.2.2.2.1
  show Ex 158 0 [some (.ref 152), none] [] (amSH L) I J R _
  refine LA0 e158_0 ?_
  refine Gi e158_1 (o152 L) (amGi_of f770 (by decide)) ?_
  rw [hPl.1]
  refine Ki e158_4 kbipush_8 ?_
  refine CN_eq (a := σ.1.length) (b := 8) e158_6 t158_6 rfl (by decide) (by omega) (by omega) (fun h6 => ?_) (fun h6 => ?_)
  · refine Ki e158_16 kbipush_m3 ?_
    exact Ri e158_18 rt158 (MP.rf h)
  · refine LA0 e158_9 ?_
    refine Gi e158_10 (o152 L) (amGi_of f777 (by decide)) ?_
    rw [hf]
    refine B_eq e158_13 t158_13 (fun q => absurd q (by decide)) (fun _ => ?_)
    refine Ki e158_16 kbipush_m3 ?_
    exact Ri e158_18 rt158 (MP.rf h)
set_option maxHeartbeats 2000000 in
theorem m_comes (h : MSt I J R σ) (hf : I 152 9 = 0) (hg : JP J 156 g) (hB : PB 4000000000000000000 g) : Cl 158 [.ref 152] (amSH L) I J R (MP I J R (sBring σ g).2 (.int (sBring σ g).1)) := by
  obtain ⟨hR, hPl, h3, h4, h5, h6, h7⟩ := id h
  have h3 : M3 I σ.2.1 := h3
  have h4 : M4 I σ.2.2.1 σ.2.2.2.1 := h4
  have h5 : M5 I σ.2.2.2.2.1 := h5
  have h6 : M6 I σ.2.2.2.2.2.1 σ.2.2.2.2.2.2 := h6
  have h8 := h7.1.1
  have hn120 := h7.2.2.1
  have hw35 := h7.2.2.2.1
  have hs9 := sz_le g
  unfold sBring
  show Ex 158 0 [some (.ref 152), none] [] (amSH L) I J R _
  by_cases g8 : σ.1.length = 8
  · rw [if_pos g8]
    refine LA0 e158_0 ?_
    refine Gi e158_1 (o152 L) (amGi_of f770 (by decide)) ?_
    rw [hPl.1]
    refine Ki e158_4 kbipush_8 ?_
    refine CN_eq (a := σ.1.length) (b := 8) e158_6 t158_6 rfl (by decide) (by omega) (by omega) (fun _ => ?_) (fun q => absurd (g8) q)
    refine Ki e158_16 kbipush_m3 ?_
    exact Ri e158_18 rt158 (MP.rf h)
  · rw [if_neg g8]
    by_cases g0 : sz g = 0
    · rw [if_pos g0]
      refine LA0 e158_0 ?_
      refine Gi e158_1 (o152 L) (amGi_of f770 (by decide)) ?_
      rw [hPl.1]
      refine Ki e158_4 kbipush_8 ?_
      refine CN_eq (a := σ.1.length) (b := 8) e158_6 t158_6 rfl (by decide) (by omega) (by omega) (fun q => absurd q (g8)) (fun _ => ?_)
      refine LA0 e158_9 ?_
      refine Gi e158_10 (o152 L) (amGi_of f777 (by decide)) ?_
      rw [hf]
      refine B_eq e158_13 t158_13 (fun _ => ?_) (fun q => absurd (rfl) q)
      refine LA0 e158_19 ?_
      refine Gr e158_20 (o152 L) (hR 152 6 156 rfl) f774 ?_
      refine Cs1 e158_23 c158_173 (Nat.le_of_ble_eq_true rfl) (Nat.le_of_ble_eq_true rfl) ((m_degree (o156 L) hg hB)) ?_
      refine B_ge e158_26 t158_26 (fun q => absurd q (fun z => by have := (dI_neg hs9).mpr g0; rw [i32lt] at this; rw [i32le] at z; omega)) (fun _ => ?_)
      refine Ki e158_29 kbipush_m2 ?_
      exact Ri e158_31 rt158 (MP.rf h)
    · rw [if_neg g0]
      have hge : 0 ≤ dI (sz g) := by
        rw [i32le, dI_toInt (by omega), show (0 : Int32).toInt = 0 from rfl]
        omega
      by_cases g5 : sz g ≤ 5
      · have hgg := g5
        refine LA0 e158_0 ?_
        refine Gi e158_1 (o152 L) (amGi_of f770 (by decide)) ?_
        rw [hPl.1]
        refine Ki e158_4 kbipush_8 ?_
        refine CN_eq (a := σ.1.length) (b := 8) e158_6 t158_6 rfl (by decide) (by omega) (by omega) (fun q => absurd q (g8)) (fun _ => ?_)
        refine LA0 e158_9 ?_
        refine Gi e158_10 (o152 L) (amGi_of f777 (by decide)) ?_
        rw [hf]
        refine B_eq e158_13 t158_13 (fun _ => ?_) (fun q => absurd (rfl) q)
        refine LA0 e158_19 ?_
        refine Gr e158_20 (o152 L) (hR 152 6 156 rfl) f774 ?_
        refine Cs1 e158_23 c158_173 (Nat.le_of_ble_eq_true rfl) (Nat.le_of_ble_eq_true rfl) ((m_degree (o156 L) hg hB)) ?_
        refine B_ge e158_26 t158_26 (fun _ => ?_) (fun q => absurd (hge) q)
        refine LA0 e158_32 ?_
        refine Gr e158_33 (o152 L) (hR 152 6 156 rfl) f774 ?_
        refine Cs1 e158_36 c158_173 (Nat.le_of_ble_eq_true rfl) (Nat.le_of_ble_eq_true rfl) ((m_degree (o156 L) hg hB)) ?_
        refine Ki e158_39 kiconst_4 ?_
        refine C_le e158_40 t158_40 (fun _ => ?_) (fun q => absurd (by rw [i32le, dI_toInt (by omega), show (4 : Int32).toInt = 4 from rfl]; omega) q)
        refine Ki e158_46 kiconst_0 ?_
        refine SI1 e158_47 rfl ?_
        refine m_cm_chk hR hg hB (fun z => ?_) (fun z => ?_) 6 0 (by omega) (by omega) (fun k hk => absurd hk (Nat.not_lt_zero k))
        · rw [if_neg (fun y => z ((mx_iff g5).mp y.2))]
          exact MP.rf h
        · rw [if_pos ⟨g5, (mx_iff g5).mpr z⟩]
          refine Ki e158_78 kiconst_0 ?_
          refine SI1 e158_79 rfl ?_
          refine m_cm_cp (m := σ.1.length) hR (by omega) hPl.1 hg (fun I1 g1 g2 => ?_) 6 0 I (by omega) (by omega) (fun _ _ _ => rfl) (fun k hk => absurd hk (Nat.not_lt_zero k))
          have e2 : I1 152 2 = nI σ.1.length := (g1 _ _ (by omega)).trans hPl.1
          refine LA0 e158_111 ?_
          refine Dup e158_112 rfl ?_
          refine Gi e158_113 (o152 L) (amGi_of f770 (by decide)) ?_
          rw [e2]
          refine Ki e158_116 kiconst_1 ?_
          refine IaddN (a := σ.1.length) (b := 1) e158_117 rfl (by decide) ?_
          refine Pi e158_118 (o152 L) f770 ?_
          refine LA0 e158_121 ?_
          refine Gi e158_122 (o152 L) (amGi_of f770 (by decide)) ?_
          rw [amU_same]
          refine Ki e158_125 kiconst_1 ?_
          refine IsubN (a := (σ.1.length + 1)) (b := 1) e158_126 rfl (by decide) (by omega) ?_
          rw [Nat.add_sub_cancel]
          exact Ri e158_127 rt158 (by
          have hll : (σ.1 ++ [g]).length = σ.1.length + 1 := by simp
          have hok : Pok g := ⟨fun k hk => by
            by_cases e : k < 5
            · have := z k e
              omega
            · rw [sz_zero (p := g) (by omega) hk]
              exact ⟨by decide, by decide⟩, by omega, g5⟩
          refine ⟨rfl, ⟨hR, ⟨?_, fun p k hp hk => ?_⟩, h3.cg ((up_o (by omega)).trans (g1 _ _ (by omega))) (fun i => (up_o (by omega)).trans (g1 _ _ (by omega))), h4.cg ((up_o (by omega)).trans (g1 _ _ (by omega))) (fun i => (up_o (by omega)).trans (g1 _ _ (by omega))), h5.cg ((up_o (by omega)).trans (g1 _ _ (by omega))) (fun i => (up_o (by omega)).trans (g1 _ _ (by omega))), h6.cg (fun i => (up_o (by omega)).trans (g1 _ _ (by omega))) (fun i => (up_o (by omega)).trans (g1 _ _ (by omega))), ⟨⟨by show (σ.1 ++ [g]).length ≤ 8; omega, fun k hk => ?_⟩, h7.2⟩⟩, fun y hy => by funext i; rw [up_o (by omega), g1 _ _ (by omega)], fun _ _ => rfl, rfl⟩
          · rw [amU_same]
            show _ = nI (σ.1 ++ [g]).length
            rw [hll]
          · have hp2 : p < (σ.1 ++ [g]).length := hp
            show _ = iI ((σ.1 ++ [g]).getD p zP k)
            rw [up_o (by omega)]
            by_cases e : p = σ.1.length
            · rw [e, gd_r]
              exact g2 k hk
            · rw [gd_l (by omega), g1 _ _ (by omega)]
              exact hPl.2 p k (by omega) hk
          · have hk2 : k < (σ.1 ++ [g]).length := hk
            show Pok ((σ.1 ++ [g]).getD k zP)
            by_cases e : k = σ.1.length
            · rw [e, gd_r]
              exact hok
            · rw [gd_l (by omega)]
              exact h7.1.2 k (by omega))
      · rw [if_neg (fun y => g5 y.1)]
        refine LA0 e158_0 ?_
        refine Gi e158_1 (o152 L) (amGi_of f770 (by decide)) ?_
        rw [hPl.1]
        refine Ki e158_4 kbipush_8 ?_
        refine CN_eq (a := σ.1.length) (b := 8) e158_6 t158_6 rfl (by decide) (by omega) (by omega) (fun q => absurd q (g8)) (fun _ => ?_)
        refine LA0 e158_9 ?_
        refine Gi e158_10 (o152 L) (amGi_of f777 (by decide)) ?_
        rw [hf]
        refine B_eq e158_13 t158_13 (fun _ => ?_) (fun q => absurd (rfl) q)
        refine LA0 e158_19 ?_
        refine Gr e158_20 (o152 L) (hR 152 6 156 rfl) f774 ?_
        refine Cs1 e158_23 c158_173 (Nat.le_of_ble_eq_true rfl) (Nat.le_of_ble_eq_true rfl) ((m_degree (o156 L) hg hB)) ?_
        refine B_ge e158_26 t158_26 (fun _ => ?_) (fun q => absurd (hge) q)
        refine LA0 e158_32 ?_
        refine Gr e158_33 (o152 L) (hR 152 6 156 rfl) f774 ?_
        refine Cs1 e158_36 c158_173 (Nat.le_of_ble_eq_true rfl) (Nat.le_of_ble_eq_true rfl) ((m_degree (o156 L) hg hB)) ?_
        refine Ki e158_39 kiconst_4 ?_
        refine C_le e158_40 t158_40 (fun q => absurd q (fun z => by rw [i32le, dI_toInt (by omega), show (4 : Int32).toInt = 4 from rfl] at z; omega)) (fun _ => ?_)
        refine Ki e158_43 kbipush_m3 ?_
        exact Ri e158_45 rt158 (MP.rf h)
set_option maxHeartbeats 2000000 in
theorem m_isNumber {c : Int32} : Rv 159 [.int c] (amSH L) I J R (.int (bI (decide (inN c)))) := by
  intro Q hQ
  have e : decide ((-999 : Int64) ≤ c.toInt64 ∧ c.toInt64 ≤ 999) = decide (inN c) := min64 (a := -999) (b := 999)
  rw [← e] at hQ
  show Ex 159 0 [some (.int c)] [] (amSH L) I J R _
  refine LI0 e159_0 ?_
  refine I2l e159_1 ?_
  refine Kd e159_2 kj6 ?_
  refine Kd e159_5 kj5 ?_
  refine Cs3 e159_8 c159_152 (Nat.le_of_ble_eq_true rfl) (Nat.le_of_ble_eq_true rfl) (m_in) ?_
  exact Rz e159_11 rt159 (bI_01 _) (hQ)
theorem MP.tr {I1 I' : amI} {J1 J' : amJ} {R' : amR} {val : Value} {v : Option Value} (h : MP I1 J1 R σ val v I' J' R') (h1 : ∀ y, y < 152 → I1 y = I y) (h2 : ∀ y, y < 152 → J1 y = J y) : MP I J R σ val v I' J' R' := ⟨h.1, h.2.1, fun y a => (h.2.2.1 y a).trans (h1 y a), fun y a => (h.2.2.2.1 y a).trans (h2 y a), h.2.2.2.2⟩
set_option maxHeartbeats 2000000 in
theorem n_poly {ca cb cc cd ce : Int32} (h : MSt I J R σ) : Cl 160 [.ref 152, .int ca, .int cb, .int cc, .int cd, .int ce] (amSH L) I J R (MP I J R (sPoly σ ca cb cc cd ce).2 (.int (sPoly σ ca cb cc cd ce).1)) := by
  obtain ⟨hR, hPl, h3, h4, h5, h6, h7⟩ := id h
  have h3 : M3 I σ.2.1 := h3
  have h4 : M4 I σ.2.2.1 σ.2.2.2.1 := h4
  have h5 : M5 I σ.2.2.2.2.1 := h5
  have h6 : M6 I σ.2.2.2.2.2.1 σ.2.2.2.2.2.2 := h6
  have h8 := h7.1.1
  have hn120 := h7.2.2.1
  have hw35 := h7.2.2.2.1
  unfold sPoly
  show Ex 160 0 [some (.ref 152), some (.int ca), some (.int cb), some (.int cc), some (.int cd), some (.int ce)] [] (amSH L) I J R _
  refine LI1 e160_0 ?_
  refine Cs1 e160_1 c160_159 (Nat.le_of_ble_eq_true rfl) (Nat.le_of_ble_eq_true rfl) (m_isNumber) ?_
  refine B_eq e160_4 t160_4 (fun h4 => ?_) (fun h4 => ?_)
  · refine Ki e160_37 kiconst_m1 ?_
    exact Ri e160_38 rt160 (by
    rw [if_neg (fun z => by
      first
        | exact bI_z h4 z.1
        | exact bI_z h11 z.2.1
        | exact bI_z h18 z.2.2.1
        | exact bI_z h26 z.2.2.2.1
        | exact bI_f h34 z.2.2.2.2)]
    exact MP.rf h)
  · refine LI2 e160_7 ?_
    refine Cs1 e160_8 c160_159 (Nat.le_of_ble_eq_true rfl) (Nat.le_of_ble_eq_true rfl) (m_isNumber) ?_
    refine B_eq e160_11 t160_11 (fun h11 => ?_) (fun h11 => ?_)
    · refine Ki e160_37 kiconst_m1 ?_
      exact Ri e160_38 rt160 (by
      rw [if_neg (fun z => by
        first
          | exact bI_z h4 z.1
          | exact bI_z h11 z.2.1
          | exact bI_z h18 z.2.2.1
          | exact bI_z h26 z.2.2.2.1
          | exact bI_f h34 z.2.2.2.2)]
      exact MP.rf h)
    · refine LI3 e160_14 ?_
      refine Cs1 e160_15 c160_159 (Nat.le_of_ble_eq_true rfl) (Nat.le_of_ble_eq_true rfl) (m_isNumber) ?_
      refine B_eq e160_18 t160_18 (fun h18 => ?_) (fun h18 => ?_)
      · refine Ki e160_37 kiconst_m1 ?_
        exact Ri e160_38 rt160 (by
        rw [if_neg (fun z => by
          first
            | exact bI_z h4 z.1
            | exact bI_z h11 z.2.1
            | exact bI_z h18 z.2.2.1
            | exact bI_z h26 z.2.2.2.1
            | exact bI_f h34 z.2.2.2.2)]
        exact MP.rf h)
      · refine LI4 e160_21 ?_
        refine Cs1 e160_23 c160_159 (Nat.le_of_ble_eq_true rfl) (Nat.le_of_ble_eq_true rfl) (m_isNumber) ?_
        refine B_eq e160_26 t160_26 (fun h26 => ?_) (fun h26 => ?_)
        · refine Ki e160_37 kiconst_m1 ?_
          exact Ri e160_38 rt160 (by
          rw [if_neg (fun z => by
            first
              | exact bI_z h4 z.1
              | exact bI_z h11 z.2.1
              | exact bI_z h18 z.2.2.1
              | exact bI_z h26 z.2.2.2.1
              | exact bI_f h34 z.2.2.2.2)]
          exact MP.rf h)
        · refine LI5 e160_29 ?_
          refine Cs1 e160_31 c160_159 (Nat.le_of_ble_eq_true rfl) (Nat.le_of_ble_eq_true rfl) (m_isNumber) ?_
          refine B_ne e160_34 t160_34 (fun h34 => ?_) (fun h34 => ?_)
          · have n1 : inN ca := bI_t h4
            have n2 : inN cb := bI_t h11
            have n3 : inN cc := bI_t h18
            have n4 : inN cd := bI_t h26
            have n5 : inN ce := bI_t h34
            rw [if_pos ⟨n1, n2, n3, n4, n5⟩]
            refine LA0 e160_39 ?_
            refine Gr e160_40 (o152 L) (hR 152 6 156 rfl) f774 ?_
            refine Cs1p e160_43 c160_171 (Nat.le_of_ble_eq_true rfl) (Nat.le_of_ble_eq_true rfl) (m_empties (o156 L)) ?_
            rintro _ I1 J1 R1 ⟨rfl, hI1, hR1, hF1, hP1⟩
            have hI1 := hI1.symm
            subst hI1
            have hR1 := hR1.symm
            subst hR1
            refine LA0 e160_46 ?_
            refine Gr e160_47 (o152 L) (hR 152 6 156 rfl) f774 ?_
            refine Ki e160_50 kiconst_0 ?_
            refine LI1 e160_51 ?_
            refine I2l e160_52 ?_
            rw [i2l_oI ca]
            refine WjN (k := 0) e160_53 (o156 L) (by decide) (by omega) (by decide) ?_
            refine LA0 e160_54 ?_
            refine Gr e160_55 (o152 L) (hR 152 6 156 rfl) f774 ?_
            refine Ki e160_58 kiconst_1 ?_
            refine LI2 e160_59 ?_
            refine I2l e160_60 ?_
            rw [i2l_oI cb]
            refine WjN (k := 1) e160_61 (o156 L) (by decide) (by omega) (by decide) ?_
            refine LA0 e160_62 ?_
            refine Gr e160_63 (o152 L) (hR 152 6 156 rfl) f774 ?_
            refine Ki e160_66 kiconst_2 ?_
            refine LI3 e160_67 ?_
            refine I2l e160_68 ?_
            rw [i2l_oI cc]
            refine WjN (k := 2) e160_69 (o156 L) (by decide) (by omega) (by decide) ?_
            refine LA0 e160_70 ?_
            refine Gr e160_71 (o152 L) (hR 152 6 156 rfl) f774 ?_
            refine Ki e160_74 kiconst_3 ?_
            refine LI4 e160_75 ?_
            refine I2l e160_77 ?_
            rw [i2l_oI cd]
            refine WjN (k := 3) e160_78 (o156 L) (by decide) (by omega) (by decide) ?_
            refine LA0 e160_79 ?_
            refine Gr e160_80 (o152 L) (hR 152 6 156 rfl) f774 ?_
            refine Ki e160_83 kiconst_4 ?_
            refine LI5 e160_84 ?_
            refine I2l e160_86 ?_
            rw [i2l_oI ce]
            refine WjN (k := 4) e160_87 (o156 L) (by decide) (by omega) (by decide) ?_
            refine LA0 e160_88 ?_
            refine Ki e160_89 kiconst_0 ?_
            refine Pz e160_90 (o152 L) f777 (by decide) ?_
            refine LA0 e160_93 ?_
            have hFr : Fr J (amU (amU (amU (amU (amU J1 156 0 (oI ca.toInt)) 156 1 (oI cb.toInt)) 156 2 (oI cc.toInt)) 156 3 (oI cd.toInt)) 156 4 (oI ce.toInt)) 156 := Fr.up (Fr.up (Fr.up (Fr.up (Fr.up hF1))))
            have hk9 : MK I (amU I 152 9 0) J (amU (amU (amU (amU (amU J1 156 0 (oI ca.toInt)) 156 1 (oI cb.toInt)) 156 2 (oI cc.toInt)) 156 3 (oI cd.toInt)) 156 4 (oI ce.toInt)) := ⟨fun y i a b c => up_o (by omega), fun y hy => hFr y (by omega)⟩
            have hPB : PB 4000000000000000000 (p5 ca.toInt cb.toInt cc.toInt cd.toInt ce.toInt) := PB.mono (pU_PB (pU_PB (pU_PB (pU_PB (pU_PB (fun _ _ => ⟨by decide, by decide⟩) n1) n2) n3) n4) n5) (by decide)
            refine Cv0p e160_94 c160_158 (o152 L) (Nat.le_of_ble_eq_true rfl) (Nat.le_of_ble_eq_true rfl) (m_comes (h.k hk9) amU_same (JP.st (JP.st (JP.st (JP.st (JP.st hP1))))) hPB) ?_
            rintro v I9 J9 R9 hres
            obtain rfl := hres.1
            exact Ri e160_97 rt160 (hres.tr hk9.lo hk9.2)
          · refine Ki e160_37 kiconst_m1 ?_
            exact Ri e160_38 rt160 (by
            rw [if_neg (fun z => by
              first
                | exact bI_z h4 z.1
                | exact bI_z h11 z.2.1
                | exact bI_z h18 z.2.2.1
                | exact bI_z h26 z.2.2.2.1
                | exact bI_f h34 z.2.2.2.2)]
            exact MP.rf h)
end REF30
