/-! the reference: letter, number, prints (printed by wip/whole/t9b.py) -/
/-- of the paper's cells alone some may differ -/
def FrPm (Ia Ia' : amI) : Prop := ∀ y i, ¬ (y = 152 ∧ i = 45) → y ≠ 200 → Ia' y i = Ia y i
theorem FrPm.rf {Ia : amI} : FrPm Ia Ia := fun _ _ _ _ => rfl
theorem FrPm.tr {Ia Ia1 Ia2 : amI} (h1 : FrPm Ia Ia1) (h2 : FrPm Ia1 Ia2) : FrPm Ia Ia2 := fun y i a b => (h2 y i a b).trans (h1 y i a b)
def PmP (Ia : amI) (Ja : amJ) (Ra : amR) (t : List Int32) (v : Option Value) (Ia' : amI) (Ja' : amJ) (Ra' : amR) : Prop := v = none ∧ M5 Ia' t ∧ FrPm Ia Ia' ∧ Ja' = Ja ∧ Ra' = Ra
theorem dv10 : ∀ s, s < 1000 → nI s / 10 = nI (s / 10) := by decide +kernel
theorem iI_0 {x : Int} (h : -999 ≤ x ∧ x ≤ 999) : iI x = 0 ↔ x = 0 := by
  rw [← Int32.toInt_inj, iI_t (by omega)]
  rfl
section REF35
variable {L : Nat} {Ia : amI} {Ja : amJ} {Ra : amR} {Q : amQ} {σ : PS} {p q : Po} {t : List Int32} {s k n : Nat}
set_option maxHeartbeats 2000000 in
theorem m_letter {v : Int32} (hR : amRok Ra) (h : M5 Ia t) (ht : t.length < 60) : Cl 232 [.ref 152, .int v] (amSH L) Ia Ja Ra (PmP Ia Ja Ra (t ++ [v])) := by
  show Ex 232 0 [some (.ref 152), some (.int v)] [] (amSH L) Ia Ja Ra _
  refine LA0 e232_0 ?_
  refine Gr e232_1 (o152 L) (hR 152 44 200 rfl) f812 ?_
  refine LA0 e232_4 ?_
  refine Gi e232_5 (o152 L) (amGi_of f813 (by decide)) ?_
  rw [h.1]
  refine LI1 e232_8 ?_
  refine WiN (k := t.length) e232_9 (o200 L) rfl (by omega) (by decide) ?_
  refine LA0 e232_10 ?_
  refine Dup e232_11 rfl ?_
  refine Gi e232_12 (o152 L) (amGi_of f813 (by decide)) ?_
  rw [up_o (by omega), h.1]
  refine Ki e232_15 kiconst_1 ?_
  refine IaddN (a := t.length) (b := 1) e232_16 rfl (by decide) ?_
  refine Pi e232_17 (o152 L) f813 ?_
  exact Rvd e232_20 rt232 (by
  refine ⟨rfl, ⟨?_, fun i hi => ?_⟩, fun y i a b => ?_, rfl, rfl⟩
  · rw [amU_same, List.length_append, List.length_singleton]
  · rw [List.length_append, List.length_singleton] at hi
    rw [up_o (by omega)]
    by_cases e : i = t.length
    · subst e
      rw [amU_same]
      simp
    · rw [up_o (by omega), h.2 i (by omega)]
      rw [List.getD_eq_getElem?_getD, List.getD_eq_getElem?_getD, List.getElem?_append_left (by omega)]
  · rw [up_o a, up_o (by omega)])
set_option maxHeartbeats 2000000 in
theorem m_num2 (hR : amRok Ra) (h : M5 Ia t) (ht : t.length < 60) (hs : s < 10) : Cl 249 [.ref 152, .int (nI s)] (amSH L) Ia Ja Ra (PmP Ia Ja Ra (t ++ [nI (48 + s % 10)])) := by
  show Ex 249 0 [some (.ref 152), some (.int (nI s))] [] (amSH L) Ia Ja Ra _
  refine LI1 e249_0 ?_
  refine Ki e249_1 kbipush_9 ?_
  refine CN_le (a := s) (b := 9) e249_3 t249_3 rfl (by decide) (by omega) (by omega) (fun _ => ?_) (fun q => by omega)
  refine LA0 e249_14 ?_
  refine Ki e249_15 kbipush_48 ?_
  refine LI1 e249_17 ?_
  refine Ki e249_18 kbipush_10 ?_
  refine Irem e249_20 (by decide) ?_
  refine Iadd e249_21 ?_
  rw [dg3 s (by omega)]
  refine Cv1p e249_22 c249_232 (o152 L) (Nat.le_of_ble_eq_true rfl) (Nat.le_of_ble_eq_true rfl) (m_letter (v := nI (48 + s % 10)) hR h (by omega)) ?_
  rintro _ Ia1 Ja1 Ra1 ⟨rfl, hP1, hF1, hJ1, hR1⟩
  have hJ1 := hJ1.symm
  subst hJ1
  have hR1 := hR1.symm
  subst hR1
  exact Rvd e249_25 rt249 (⟨rfl, hP1, hF1, rfl, rfl⟩)
set_option maxHeartbeats 2000000 in
theorem m_num1 (hR : amRok Ra) (h : M5 Ia t) (ht : t.length + 2 ≤ 60) (hs : s < 100) : Cl 248 [.ref 152, .int (nI s)] (amSH L) Ia Ja Ra (PmP Ia Ja Ra (t ++ ((if 10 ≤ s then [nI (48 + s / 10 % 10)] else []) ++ [nI (48 + s % 10)]))) := by
  show Ex 248 0 [some (.ref 152), some (.int (nI s))] [] (amSH L) Ia Ja Ra _
  by_cases g : 10 ≤ s
  · rw [if_pos g]
    refine LI1 e248_0 ?_
    refine Ki e248_1 kbipush_9 ?_
    refine CN_le (a := s) (b := 9) e248_3 t248_3 rfl (by decide) (by omega) (by omega) (fun q => absurd q (by omega)) (fun _ => ?_)
    refine LA0 e248_6 ?_
    refine LI1 e248_7 ?_
    refine Ki e248_8 kbipush_10 ?_
    refine Idiv e248_10 (by decide) ?_
    rw [dv10 s (by omega)]
    refine Cv1p e248_11 c248_249 (o152 L) (Nat.le_of_ble_eq_true rfl) (Nat.le_of_ble_eq_true rfl) (m_num2 (s := s / 10) hR h (by omega) (by omega)) ?_
    rintro _ Ia1 Ja1 Ra1 ⟨rfl, hP1, hF1, hJ1, hR1⟩
    have hJ1 := hJ1.symm
    subst hJ1
    have hR1 := hR1.symm
    subst hR1
    refine LA0 e248_14 ?_
    refine Ki e248_15 kbipush_48 ?_
    refine LI1 e248_17 ?_
    refine Ki e248_18 kbipush_10 ?_
    refine Irem e248_20 (by decide) ?_
    refine Iadd e248_21 ?_
    rw [dg3 s (by omega)]
    refine Cv1p e248_22 c248_232 (o152 L) (Nat.le_of_ble_eq_true rfl) (Nat.le_of_ble_eq_true rfl) (m_letter (v := nI (48 + s % 10)) hR hP1 (by simp; omega)) ?_
    rintro _ Ia2 Ja2 Ra2 ⟨rfl, hP2, hF2, hJ2, hR2⟩
    have hJ2 := hJ2.symm
    subst hJ2
    have hR2 := hR2.symm
    subst hR2
    exact Rvd e248_25 rt248 (by
    rw [← List.append_assoc]
    exact ⟨rfl, hP2, hF1.tr hF2, rfl, rfl⟩)
  · rw [if_neg g, List.nil_append]
    refine LI1 e248_0 ?_
    refine Ki e248_1 kbipush_9 ?_
    refine CN_le (a := s) (b := 9) e248_3 t248_3 rfl (by decide) (by omega) (by omega) (fun _ => ?_) (fun q => by omega)
    refine LA0 e248_14 ?_
    refine Ki e248_15 kbipush_48 ?_
    refine LI1 e248_17 ?_
    refine Ki e248_18 kbipush_10 ?_
    refine Irem e248_20 (by decide) ?_
    refine Iadd e248_21 ?_
    rw [dg3 s (by omega)]
    refine Cv1p e248_22 c248_232 (o152 L) (Nat.le_of_ble_eq_true rfl) (Nat.le_of_ble_eq_true rfl) (m_letter (v := nI (48 + s % 10)) hR h (by omega)) ?_
    rintro _ Ia1 Ja1 Ra1 ⟨rfl, hP1, hF1, hJ1, hR1⟩
    have hJ1 := hJ1.symm
    subst hJ1
    have hR1 := hR1.symm
    subst hR1
    exact Rvd e248_25 rt248 (⟨rfl, hP1, hF1, rfl, rfl⟩)
set_option maxHeartbeats 2000000 in
theorem m_num (hR : amRok Ra) (h : M5 Ia t) (ht : t.length + 3 ≤ 60) (hs : s < 1000) : Cl 233 [.ref 152, .int (nI s)] (amSH L) Ia Ja Ra (PmP Ia Ja Ra (t ++ dgs s)) := by
  show Ex 233 0 [some (.ref 152), some (.int (nI s))] [] (amSH L) Ia Ja Ra _
  by_cases g : 10 ≤ s
  · have e : dgs s = ((if 10 ≤ s / 10 then [nI (48 + s / 10 / 10 % 10)] else []) ++ [nI (48 + s / 10 % 10)]) ++ [nI (48 + s % 10)] := by
      unfold dgs
      rw [if_pos g, Nat.div_div_eq_div_mul]
      by_cases g2 : 100 ≤ s
      · rw [if_pos g2, if_pos (by omega)]
      · rw [if_neg g2, if_neg (by omega)]
    rw [e]
    refine LI1 e233_0 ?_
    refine Ki e233_1 kbipush_9 ?_
    refine CN_le (a := s) (b := 9) e233_3 t233_3 rfl (by decide) (by omega) (by omega) (fun q => absurd q (by omega)) (fun _ => ?_)
    refine LA0 e233_6 ?_
    refine LI1 e233_7 ?_
    refine Ki e233_8 kbipush_10 ?_
    refine Idiv e233_10 (by decide) ?_
    rw [dv10 s (by omega)]
    refine Cv1p e233_11 c233_248 (o152 L) (Nat.le_of_ble_eq_true rfl) (Nat.le_of_ble_eq_true rfl) (m_num1 (s := s / 10) hR h (by omega) (by omega)) ?_
    rintro _ Ia1 Ja1 Ra1 ⟨rfl, hP1, hF1, hJ1, hR1⟩
    have hJ1 := hJ1.symm
    subst hJ1
    have hR1 := hR1.symm
    subst hR1
    refine LA0 e233_14 ?_
    refine Ki e233_15 kbipush_48 ?_
    refine LI1 e233_17 ?_
    refine Ki e233_18 kbipush_10 ?_
    refine Irem e233_20 (by decide) ?_
    refine Iadd e233_21 ?_
    rw [dg3 s (by omega)]
    refine Cv1p e233_22 c233_232 (o152 L) (Nat.le_of_ble_eq_true rfl) (Nat.le_of_ble_eq_true rfl) (m_letter (v := nI (48 + s % 10)) hR hP1 (by simp; split <;> simp <;> omega)) ?_
    rintro _ Ia2 Ja2 Ra2 ⟨rfl, hP2, hF2, hJ2, hR2⟩
    have hJ2 := hJ2.symm
    subst hJ2
    have hR2 := hR2.symm
    subst hR2
    exact Rvd e233_25 rt233 (by
    rw [← List.append_assoc]
    exact ⟨rfl, hP2, hF1.tr hF2, rfl, rfl⟩)
  · have e : dgs s = [nI (48 + s % 10)] := by
      unfold dgs
      rw [if_neg (by omega), if_neg g]
      rfl
    rw [e]
    refine LI1 e233_0 ?_
    refine Ki e233_1 kbipush_9 ?_
    refine CN_le (a := s) (b := 9) e233_3 t233_3 rfl (by decide) (by omega) (by omega) (fun _ => ?_) (fun q => by omega)
    refine LA0 e233_14 ?_
    refine Ki e233_15 kbipush_48 ?_
    refine LI1 e233_17 ?_
    refine Ki e233_18 kbipush_10 ?_
    refine Irem e233_20 (by decide) ?_
    refine Iadd e233_21 ?_
    rw [dg3 s (by omega)]
    refine Cv1p e233_22 c233_232 (o152 L) (Nat.le_of_ble_eq_true rfl) (Nat.le_of_ble_eq_true rfl) (m_letter (v := nI (48 + s % 10)) hR h (by omega)) ?_
    rintro _ Ia1 Ja1 Ra1 ⟨rfl, hP1, hF1, hJ1, hR1⟩
    have hJ1 := hJ1.symm
    subst hJ1
    have hR1 := hR1.symm
    subst hR1
    exact Rvd e233_25 rt233 (⟨rfl, hP1, hF1, rfl, rfl⟩)
set_option maxHeartbeats 2000000 in
theorem m_wr3 {x : Int32} (hR : amRok Ra) (h : M5 Ia t) (ht : t.length + 3 ≤ 60) (hn : n ≤ 4) (hQ : ∀ Ia', M5 Ia' (t ++ xsP n) → FrPm Ia Ia' → Ex 234 122 [some (.ref 152), some (.int (nI k)), some (.int (nI n)), some (.int x), some (.int (nI s))] [] (amSH L) Ia' Ja Ra Q) : Ex 234 93 [some (.ref 152), some (.int (nI k)), some (.int (nI n)), some (.int x), some (.int (nI s))] [] (amSH L) Ia Ja Ra Q := by
  by_cases k0 : n = 0
  · subst k0
    rw [show t ++ xsP 0 = t from by simp [xsP]] at hQ
    refine LI2 e234_93 ?_
    refine B_le e234_94 t234_94 (fun _ => ?_) (fun q => absurd (by decide) q)
    refine LI2 e234_103 ?_
    refine Ki e234_104 kiconst_1 ?_
    refine CN_le (a := 0) (b := 1) e234_105 t234_105 rfl (by decide) (by omega) (by omega) (fun _ => ?_) (fun q => by omega)
    exact hQ _ h FrPm.rf
  · by_cases k1 : n = 1
    · subst k1
      rw [show t ++ xsP 1 = t ++ [nI 120] from by simp [xsP]] at hQ
      refine LI2 e234_93 ?_
      refine B_le e234_94 t234_94 (fun q => absurd q (by decide)) (fun _ => ?_)
      refine LA0 e234_97 ?_
      refine Ki e234_98 kbipush_120 ?_
      refine Cv1p e234_100 c234_232 (o152 L) (Nat.le_of_ble_eq_true rfl) (Nat.le_of_ble_eq_true rfl) (m_letter (v := nI 120) hR h (by omega)) ?_
      rintro _ Ia1 Ja1 Ra1 ⟨rfl, hP1, hF1, hJ1, hR1⟩
      have hJ1 := hJ1.symm
      subst hJ1
      have hR1 := hR1.symm
      subst hR1
      refine LI2 e234_103 ?_
      refine Ki e234_104 kiconst_1 ?_
      refine CN_le (a := 1) (b := 1) e234_105 t234_105 rfl (by decide) (by omega) (by omega) (fun _ => ?_) (fun q => by omega)
      exact hQ _ hP1 hF1
    · have kp : ¬ nI n ≤ 0 := by
        rw [i32le, nI_toInt (by omega), show (0 : Int32).toInt = 0 from rfl]
        omega
      have e : t ++ xsP n = t ++ [nI 120] ++ [nI 94] ++ [nI (48 + n)] := by
        unfold xsP
        rw [if_pos (by omega), if_pos (by omega)]
        simp
      rw [e] at hQ
      refine LI2 e234_93 ?_
      refine B_le e234_94 t234_94 (fun q => absurd q (kp)) (fun _ => ?_)
      refine LA0 e234_97 ?_
      refine Ki e234_98 kbipush_120 ?_
      refine Cv1p e234_100 c234_232 (o152 L) (Nat.le_of_ble_eq_true rfl) (Nat.le_of_ble_eq_true rfl) (m_letter (v := nI 120) hR h (by omega)) ?_
      rintro _ Ia1 Ja1 Ra1 ⟨rfl, hP1, hF1, hJ1, hR1⟩
      have hJ1 := hJ1.symm
      subst hJ1
      have hR1 := hR1.symm
      subst hR1
      refine LI2 e234_103 ?_
      refine Ki e234_104 kiconst_1 ?_
      refine CN_le (a := n) (b := 1) e234_105 t234_105 rfl (by decide) (by omega) (by omega) (fun q => absurd q (by omega)) (fun _ => ?_)
      refine LA0 e234_108 ?_
      refine Ki e234_109 kbipush_94 ?_
      refine Cv1p e234_111 c234_232 (o152 L) (Nat.le_of_ble_eq_true rfl) (Nat.le_of_ble_eq_true rfl) (m_letter (v := nI 94) hR hP1 (by simp; omega)) ?_
      rintro _ Ia2 Ja2 Ra2 ⟨rfl, hP2, hF2, hJ2, hR2⟩
      have hJ2 := hJ2.symm
      subst hJ2
      have hR2 := hR2.symm
      subst hR2
      refine LA0 e234_114 ?_
      refine Ki e234_115 kbipush_48 ?_
      refine LI2 e234_117 ?_
      refine IaddN (a := 48) (b := n) e234_118 (by decide) rfl ?_
      refine Cv1p e234_119 c234_232 (o152 L) (Nat.le_of_ble_eq_true rfl) (Nat.le_of_ble_eq_true rfl) (m_letter (v := nI (48 + n)) hR hP2 (by simp; omega)) ?_
      rintro _ Ia3 Ja3 Ra3 ⟨rfl, hP3, hF3, hJ3, hR3⟩
      have hJ3 := hJ3.symm
      subst hJ3
      have hR3 := hR3.symm
      subst hR3
      exact hQ _ hP3 ((hF1.tr hF2).tr hF3)
set_option maxHeartbeats 2000000 in
theorem m_wr2 {x : Int32} (hR : amRok Ra) (h : M5 Ia t) (ht : t.length + 6 ≤ 60) (hn : n ≤ 4) (hs : s < 1000) (hQ : ∀ Ia', M5 Ia' (t ++ (if s ≠ 1 ∨ n = 0 then dgs s else []) ++ xsP n) → FrPm Ia Ia' → Ex 234 122 [some (.ref 152), some (.int (nI k)), some (.int (nI n)), some (.int x), some (.int (nI s))] [] (amSH L) Ia' Ja Ra Q) : Ex 234 77 [some (.ref 152), some (.int (nI k)), some (.int (nI n)), some (.int x), some (.int (nI s))] [] (amSH L) Ia Ja Ra Q := by
  by_cases g : s ≠ 1 ∨ n = 0
  · rw [if_pos g] at hQ
    have k3 := dgs_le s
    have go_on : Ex 234 87 [some (.ref 152), some (.int (nI k)), some (.int (nI n)), some (.int x), some (.int (nI s))] [] (amSH L) Ia Ja Ra Q := by
      refine LA0 e234_87 ?_
      refine LI4 e234_88 ?_
      refine Cv1p e234_90 c234_233 (o152 L) (Nat.le_of_ble_eq_true rfl) (Nat.le_of_ble_eq_true rfl) (m_num hR h (by omega) hs) ?_
      rintro _ Ia1 Ja1 Ra1 ⟨rfl, hP1, hF1, hJ1, hR1⟩
      have hJ1 := hJ1.symm
      subst hJ1
      have hR1 := hR1.symm
      subst hR1
      exact m_wr3 hR hP1 (by rw [List.length_append]; omega) hn (fun Ia' q1 q2 => hQ Ia' q1 (hF1.tr q2))
    refine LI4 e234_77 ?_
    refine Ki e234_79 kiconst_1 ?_
    refine CN_ne (a := s) (b := 1) e234_80 t234_80 rfl (by decide) (by omega) (by omega) (fun h80 => ?_) (fun h80 => ?_)
    · exact go_on
    · refine LI2 e234_83 ?_
      refine B_ne e234_84 t234_84 (fun h84 => ?_) (fun h84 => ?_)
      · exact (g.elim (fun q => q h80) (fun q => h84 (by rw [q]; rfl))).elim
      · exact go_on
  · rw [if_neg g, List.append_nil] at hQ
    have g1 : s = 1 := by omega
    have g2 : ¬ nI n = 0 := fun q => by
      have q2 := congrArg Int32.toInt q
      rw [nI_toInt (by omega), show (0 : Int32).toInt = 0 from rfl] at q2
      omega
    refine LI4 e234_77 ?_
    refine Ki e234_79 kiconst_1 ?_
    refine CN_ne (a := s) (b := 1) e234_80 t234_80 rfl (by decide) (by omega) (by omega) (fun q => absurd q (by omega)) (fun _ => ?_)
    refine LI2 e234_83 ?_
    refine B_ne e234_84 t234_84 (fun _ => ?_) (fun q => absurd (g2) q)
    exact m_wr3 hR h (by omega) hn hQ
theorem m_wr1b {x y : Int32} (hy : y = nI s) (hR : amRok Ra) (h : M5 Ia t) (ht : t.length + 6 ≤ 60) (hn : n ≤ 4) (hs : s < 1000) (hQ : ∀ Ia', M5 Ia' (t ++ (if s ≠ 1 ∨ n = 0 then dgs s else []) ++ xsP n) → FrPm Ia Ia' → Ex 234 122 [some (.ref 152), some (.int (nI k)), some (.int (nI n)), some (.int x), some (.int (nI s))] [] (amSH L) Ia' Ja Ra Q) : Ex 234 77 [some (.ref 152), some (.int (nI k)), some (.int (nI n)), some (.int x), some (.int y)] [] (amSH L) Ia Ja Ra Q := by
  subst hy
  exact m_wr2 hR h ht hn hs hQ
set_option maxHeartbeats 2000000 in
theorem m_wr1 {x : Int32} {l4 : Option Value} (hR : amRok Ra) (h : M5 Ia t) (ht : t.length + 6 ≤ 60) (hn : n ≤ 4) (hx : -999 ≤ x.toInt ∧ x.toInt ≤ 999) (hQ : ∀ Ia', M5 Ia' (t ++ (if x.toInt.natAbs ≠ 1 ∨ n = 0 then dgs x.toInt.natAbs else []) ++ xsP n) → FrPm Ia Ia' → Ex 234 122 [some (.ref 152), some (.int (nI k)), some (.int (nI n)), some (.int x), some (.int (nI x.toInt.natAbs))] [] (amSH L) Ia' Ja Ra Q) : Ex 234 65 [some (.ref 152), some (.int (nI k)), some (.int (nI n)), some (.int x), l4] [] (amSH L) Ia Ja Ra Q := by
  refine LI3 e234_65 ?_
  refine B_ge e234_66 t234_66 (fun h66 => ?_) (fun h66 => ?_)
  · refine LI3 e234_74 ?_
    refine SI4 e234_75 rfl ?_
    exact m_wr1b ((abs_pn hx).1 h66) hR h ht hn (by omega) hQ
  · refine LI3 e234_69 ?_
    refine Ineg e234_70 ?_
    refine Go e234_71 t234_71 ?_
    refine SI4 e234_75 rfl ?_
    exact m_wr1b ((abs_pn hx).2 h66) hR h ht hn (by omega) hQ
set_option maxHeartbeats 2000000 in
theorem m_wr0 {x : Int32} {l4 : Option Value} (hR : amRok Ra) (h : M5 Ia t) (ht : t.length + 7 ≤ 60) (hn : n ≤ 4) (hx : -999 ≤ x.toInt ∧ x.toInt ≤ 999) (hQ : ∀ Ia', M5 Ia' (trm t x.toInt n) → FrPm Ia Ia' → Ex 234 122 [some (.ref 152), some (.int (nI k)), some (.int (nI n)), some (.int x), some (.int (nI x.toInt.natAbs))] [] (amSH L) Ia' Ja Ra Q) : Ex 234 39 [some (.ref 152), some (.int (nI k)), some (.int (nI n)), some (.int x), l4] [] (amSH L) Ia Ja Ra Q := by
  rw [trm_eq] at hQ
  refine LI3 e234_39 ?_
  refine B_ge e234_40 t234_40 (fun h40 => ?_) (fun h40 => ?_)
  · refine LA0 e234_52 ?_
    refine Gi e234_53 (o152 L) (amGi_of f813 (by decide)) ?_
    rw [h.1]
    refine B_le e234_56 t234_56 (fun h56 => ?_) (fun h56 => ?_)
    · have es : sgP t x.toInt = t := by
        unfold sgP
        rw [if_neg (by rw [i32le, show (0 : Int32).toInt = 0 from rfl] at h40; omega), if_neg (by rw [i32le, nI_toInt (by omega), show (0 : Int32).toInt = 0 from rfl] at h56; omega)]
      rw [es] at hQ
      exact m_wr1 hR h (by omega) hn hx hQ
    · refine LA0 e234_59 ?_
      refine Ki e234_60 kbipush_43 ?_
      refine Cv1p e234_62 c234_232 (o152 L) (Nat.le_of_ble_eq_true rfl) (Nat.le_of_ble_eq_true rfl) (m_letter (v := nI 43) hR h (by omega)) ?_
      rintro _ Ia1 Ja1 Ra1 ⟨rfl, hP1, hF1, hJ1, hR1⟩
      have hJ1 := hJ1.symm
      subst hJ1
      have hR1 := hR1.symm
      subst hR1
      have wl : 0 < t.length := by
        rw [i32le, nI_toInt (by omega), show (0 : Int32).toInt = 0 from rfl] at h56; omega
      have es : sgP t x.toInt = t ++ [nI 43] := by
        unfold sgP
        rw [if_neg (by rw [i32le, show (0 : Int32).toInt = 0 from rfl] at h40; omega), if_pos wl]
      rw [es] at hQ
      exact m_wr1 hR hP1 (by simp; omega) hn hx (fun Ia' q1 q2 => hQ Ia' q1 (hF1.tr q2))
  · refine LA0 e234_43 ?_
    refine Ki e234_44 kbipush_45 ?_
    refine Cv1p e234_46 c234_232 (o152 L) (Nat.le_of_ble_eq_true rfl) (Nat.le_of_ble_eq_true rfl) (m_letter (v := nI 45) hR h (by omega)) ?_
    rintro _ Ia1 Ja1 Ra1 ⟨rfl, hP1, hF1, hJ1, hR1⟩
    have hJ1 := hJ1.symm
    subst hJ1
    have hR1 := hR1.symm
    subst hR1
    have es : sgP t x.toInt = t ++ [nI 45] := by
      unfold sgP
      rw [if_pos (by rw [i32le, show (0 : Int32).toInt = 0 from rfl] at h40; omega)]
    rw [es] at hQ
    refine Go e234_49 t234_49 ?_
    exact m_wr1 hR hP1 (by simp; omega) hn hx (fun Ia' q1 q2 => hQ Ia' q1 (hF1.tr q2))
set_option maxHeartbeats 2000000 in
theorem m_wr_lp (hR : amRok Ra) (hk : k < 8) (hB : PB 999 p) : ∀ (n : Nat) (Ia : amI) (t : List Int32) (l3 l4 : Option Value), n ≤ 5 → t.length + 7 * n ≤ 60 → (∀ i, i < 5 → Ia 153 (5 * k + i) = iI (p i)) → M5 Ia t → Ex 234 17 [some (.ref 152), some (.int (nI k)), some (.int (dI n)), l3, l4] [] (amSH L) Ia Ja Ra (fun u Ia' Ja' Ra' => u = some (.int (nI (wrP p n t).length)) ∧ M5 Ia' (wrP p n t) ∧ FrPm Ia Ia' ∧ Ja' = Ja ∧ Ra' = Ra) := by
  intro n
  induction n with
  | zero =>
    intro Ia t l3 l4 hn ht hv h
    refine LI2 e234_17 ?_
    refine B_lt e234_18 t234_18 (fun _ => ?_) (fun q => absurd (by decide) q)
    refine LA0 e234_128 ?_
    refine Gi e234_129 (o152 L) (amGi_of f813 (by decide)) ?_
    rw [h.1]
    exact Ri e234_132 rt234 (⟨rfl, h, FrPm.rf, rfl, rfl⟩)
  | succ n ih =>
    intro Ia t l3 l4 hn ht hv h
    have hb := hB n (by omega)
    have ex : (iI (p n)).toInt = p n := iI_t (by omega)
    have hx0 := iI_0 hb
    have h2 := trm_le (w := t) (c := p n) (k := n)
    unfold wrP
    show Ex 234 17 [some (.ref 152), some (.int (nI k)), some (.int (nI n)), l3, l4] [] (amSH L) Ia Ja Ra _
    refine LI2 e234_17 ?_
    refine B_lt e234_18 t234_18 (fun q => absurd q (nI_pos (by omega))) (fun _ => ?_)
    refine LA0 e234_21 ?_
    refine Gr e234_22 (o152 L) (hR 152 1 153 rfl) f769 ?_
    refine Ki e234_25 kiconst_5 ?_
    refine LI1 e234_26 ?_
    refine ImulN (a := 5) (b := k) e234_27 (by decide) rfl ?_
    refine LI2 e234_28 ?_
    refine IaddN (a := (5 * k)) (b := n) e234_29 rfl rfl ?_
    refine AiN (k := ((5 * k) + n)) e234_30 (o153 L) rfl (by omega) (by decide) ?_
    rw [hv n (by omega)]
    refine SI3 e234_31 rfl ?_
    refine LI3 e234_32 ?_
    refine B_ne e234_33 t234_33 (fun h33 => ?_) (fun h33 => ?_)
    · refine m_wr0 hR h (by omega) (by omega) (by rw [ex]; exact hb) (fun Ia1 q1 q2 => ?_)
      rw [ex] at q1
      refine Inc2 (d := (-1)) e234_122 rfl rfl ?_
      refine Go e234_125 t234_125 ?_
      rw [if_neg (fun z => h33 (hx0.mpr z))]
      rw [show nI n + (-1) = dI n from dI_dec n]
      exact (ih Ia1 _ _ _ (by omega) (by omega) (fun i hi => (q2 153 _ (by omega) (by decide)).trans (hv i hi)) q1).mono (fun u Ia' Ja' Ra' ⟨z1, z2, z3, z4, z5⟩ => ⟨z1, z2, q2.tr z3, z4, z5⟩)
    · refine Go e234_36 t234_36 ?_
      refine Inc2 (d := (-1)) e234_122 rfl rfl ?_
      refine Go e234_125 t234_125 ?_
      rw [if_pos (hx0.mp (Decidable.not_not.mp h33))]
      rw [show nI n + (-1) = dI n from dI_dec n]
      exact ih Ia _ _ _ (by omega) (by omega) hv h
set_option maxHeartbeats 2000000 in
theorem n_prints {p : Int32} (h : MSt Ia Ja Ra σ) : Cl 234 [.ref 152, .int p] (amSH L) Ia Ja Ra (MP Ia Ja Ra (sPrints σ p).2 (.int (sPrints σ p).1)) := by
  obtain ⟨hR, hPl, h3, h4, h5, h6, h7⟩ := id h
  have h3 : M3 Ia σ.2.1 := h3
  have h4 : M4 Ia σ.2.2.1 σ.2.2.2.1 := h4
  have h5 : M5 Ia σ.2.2.2.2.1 := h5
  have h6 : M6 Ia σ.2.2.2.2.2.1 σ.2.2.2.2.2.2 := h6
  have h8 := h7.1.1
  have hn120 := h7.2.2.1
  have hw35 := h7.2.2.2.1
  unfold sPrints
  show Ex 234 0 [some (.ref 152), some (.int p), none, none, none] [] (amSH L) Ia Ja Ra _
  by_cases hp : inP σ.1 p
  · rw [if_pos hp]
    obtain ⟨k, hk, rfl, ek⟩ := hp.of h8
    have hok := h7.1.2 k hk
    rw [ek]
    have ei : bI (decide (inP σ.1 (nI k))) = 1 := by rw [decide_eq_true hp]; rfl
    refine LA0 e234_0 ?_
    refine LI1 e234_1 ?_
    refine Cv1 e234_2 c234_157 (o152 L) (Nat.le_of_ble_eq_true rfl) (Nat.le_of_ble_eq_true rfl) ((m_isPoly h8 hPl.1)) ?_
    rw [ei]
    refine B_ne e234_5 t234_5 (fun _ => ?_) (fun q => absurd (by decide) q)
    refine LA0 e234_10 ?_
    refine Ki e234_11 kiconst_0 ?_
    refine Pi e234_12 (o152 L) f813 ?_
    refine Ki e234_15 kiconst_4 ?_
    refine SI2 e234_16 rfl ?_
    have hle := wrP_le (p := σ.1.getD k zP) 5 []
    have hle : (wrP (σ.1.getD k zP) 5 []).length ≤ 0 + 7 * 5 := hle
    refine (m_wr_lp hR (by omega) hok.1 5 (amU Ia 152 45 0) [] none none (by omega) (by simp) (fun i hi => ?_) ⟨amU_same, fun i hi => absurd hi (Nat.not_lt_zero _)⟩).mono (fun u Ia' Ja' Ra' hz => ?_)
    · rw [up_o (by omega)]
      exact hPl.2 k i hk hi
    · obtain ⟨z1, z2, z3, z4, z5⟩ := hz
      have fr : ∀ y i, ¬ (y = 152 ∧ i = 45) → y ≠ 200 → Ia' y i = Ia y i := fun y i a b => (z3 y i a b).trans (up_o a)
      subst z4
      subst z5
      refine ⟨z1, ⟨hR, hPl.cg (fr _ _ (by omega) (by decide)) (fun i => fr _ _ (by omega) (by decide)), h3.cg (fr _ _ (by omega) (by decide)) (fun i => fr _ _ (by omega) (by decide)), h4.cg (fr _ _ (by omega) (by decide)) (fun i => fr _ _ (by omega) (by decide)), z2, h6.cg (fun i => fr _ _ (by omega) (by decide)) (fun i => fr _ _ (by omega) (by decide)), ⟨h7.1, h7.2.1, h7.2.2.1, (by show (wrP (σ.1.getD k zP) 5 []).length ≤ 35; omega), h7.2.2.2.2⟩⟩, fun y hy => funext (fun i => fr y i (by omega) (by omega)), fun _ _ => rfl, rfl⟩
  · rw [if_neg hp]
    refine LA0 e234_0 ?_
    refine LI1 e234_1 ?_
    refine Cv1 e234_2 c234_157 (o152 L) (Nat.le_of_ble_eq_true rfl) (Nat.le_of_ble_eq_true rfl) ((m_isPoly h8 hPl.1)) ?_
    rw [show bI (decide (inP σ.1 p)) = 0 from by rw [decide_eq_false hp]; rfl]
    refine B_ne e234_5 t234_5 (fun q => absurd q (fun z => z rfl)) (fun _ => ?_)
    refine Ki e234_8 kiconst_m1 ?_
    exact Ri e234_9 rt234 (MP.rf h)
end REF35
