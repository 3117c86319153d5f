/-! the reference: draw, lots (printed by wip/whole/t84.py) -/
/-- a number by lot, before m is taken off -/
def drZ (m : Nat) (z : Int32) : Int32 := (z &&& 2147483647) / 65536 - (z &&& 2147483647) / 65536 / nI (2 * m + 1) * nI (2 * m + 1)
theorem drZ_dv {m : Nat} {z : Int32} : drZ m z - nI m = dvZ m z := rfl
theorem b0Z : ∀ m, m ≤ 9 → ¬ nI (2 * m + 1) = 0 := by decide +kernel
section REF19
variable {L : Nat} {I : amI} {J : amJ} {R : amR} {Q : amQ} {a B t : Nat} {q : Po} {ps l : List Po} {σ : PS}
set_option maxHeartbeats 2000000 in
theorem m_draw {m : Nat} {z : Int32} (hm : m ≤ 9) (hz : I 152 46 = z) : Cl 238 [.ref 152, .int (nI (2 * m + 1))] (amSH L) I J R (fun v I' J' R' => v = some (.int (drZ m (nxZ z))) ∧ I' = amU I 152 46 (nxZ z) ∧ J' = J ∧ R' = R) := by
  show Ex 238 0 [some (.ref 152), some (.int (nI (2 * m + 1)))] [] (amSH L) I J R _
  refine LA0 e238_0 ?_
  refine LA0 e238_1 ?_
  refine Gi e238_2 (o152 L) (amGi_of f814 (by decide)) ?_
  rw [hz]
  refine Kw e238_5 ki0 ?_
  refine Imul e238_8 ?_
  refine Ki e238_9 ksipush_12345 ?_
  refine Iadd e238_12 ?_
  rw [show z * 1103515245 + 12345 = nxZ z from rfl]
  refine Pi e238_13 (o152 L) f814 ?_
  refine LA0 e238_16 ?_
  refine Gi e238_17 (o152 L) (amGi_of f814 (by decide)) ?_
  rw [amU_same]
  refine Kw e238_20 ki1 ?_
  refine Iand e238_23 ?_
  refine Kw e238_24 ki2 ?_
  refine Idiv e238_27 (by decide) ?_
  refine LI1 e238_28 ?_
  refine Irem e238_29 (b0Z m hm) ?_
  exact Ri e238_30 rt238 (⟨rfl, rfl, rfl, rfl⟩)
set_option maxHeartbeats 2000000 in
theorem m_lz_in {n d m t : Nat} {z0 acc : Int32} (hR : amRok R) (hd : d ≤ 3) (hm9 : m ≤ 9) : ∀ (f k : Nat) (z : Int32) (p : Po) (I : amI) (J : amJ), k + f = d + 1 → JP J 157 p → I 152 46 = z → (∀ I' J', (∀ y i, ¬ (y = 152 ∧ i = 46) → I' y i = I y i) → Fr J J' 157 → I' 152 46 = (lozP m f k z p).1 → JP J' 157 (lozP m f k z p).2 → Ex 239 101 [some (.ref 152), some (.int (nI n)), some (.int (nI d)), some (.int (nI m)), some (.int z0), some (.int acc), some (.int (nI t)), some (.int (nI (d + 1)))] [] (amSH L) I' J' R Q) → Ex 239 70 [some (.ref 152), some (.int (nI n)), some (.int (nI d)), some (.int (nI m)), some (.int z0), some (.int acc), some (.int (nI t)), some (.int (nI k))] [] (amSH L) I J R Q := by
  intro f
  induction f with
  | zero =>
    intro k z p I J hk hP hz hQ
    have ek : k = d + 1 := by omega
    subst ek
    refine LI7 e239_70 ?_
    refine LI2 e239_72 ?_
    refine CN_gt (a := (d + 1)) (b := d) e239_73 t239_73 rfl rfl (by omega) (by omega) (fun _ => ?_) (fun q => by omega)
    exact hQ I J (fun _ _ _ => rfl) Fr.rf hz hP
  | succ f ih =>
    intro k z p I J hk hP hz hQ
    rw [lozP] at hQ
    refine LI7 e239_70 ?_
    refine LI2 e239_72 ?_
    refine CN_gt (a := k) (b := d) e239_73 t239_73 rfl rfl (by omega) (by omega) (fun q => absurd q (by omega)) (fun _ => ?_)
    refine LA0 e239_76 ?_
    refine Gr e239_77 (o152 L) (hR 152 7 157 rfl) f775 ?_
    refine LI7 e239_80 ?_
    refine LA0 e239_82 ?_
    refine Ki e239_83 kiconst_2 ?_
    refine LI3 e239_84 ?_
    refine ImulN (a := 2) (b := m) e239_85 (by decide) rfl ?_
    refine Ki e239_86 kiconst_1 ?_
    refine IaddN (a := (2 * m)) (b := 1) e239_87 rfl (by decide) ?_
    refine Cv1p e239_88 c239_238 (o152 L) (Nat.le_of_ble_eq_true rfl) (Nat.le_of_ble_eq_true rfl) (m_draw hm9 hz) ?_
    rintro v I1 J1 R1 ⟨rfl, hI1, hJ1, hR1⟩
    subst hI1
    subst hJ1
    subst hR1
    · skip
      refine LI3 e239_91 ?_
      refine Isub e239_92 ?_
      rw [drZ_dv]
      refine I2l e239_93 ?_
      rw [i2l_oI (dvZ m (nxZ z))]
      refine WjN (k := k) e239_94 (o157 L) rfl (by omega) (by decide) ?_
      refine IncN7 (m := k) e239_95 rfl ?_
      refine Go e239_98 t239_98 ?_
      refine ih (k + 1) (nxZ z) (pU p k (dvZ m (nxZ z)).toInt) _ _ (by omega) (JP.st hP) amU_same (fun I' J' g1 g2 g3 g4 => hQ I' J' (fun y i hy => (g1 y i hy).trans (by rw [up_o hy])) (fun y hy => (g2 y hy).trans (by funext i; rw [amU_ne hy])) g3 g4)
set_option maxHeartbeats 2000000 in
theorem m_lz_lp {n d m : Nat} {z0 : Int32} (hR : amRok R) (hn : n ≤ 12) (hd1 : 1 ≤ d) (hd : d ≤ 3) (hm9 : m ≤ 9) : ∀ (f t : Nat) (z acc : Int32) (I : amI) (J : amJ) (l7 : Option Value), t + f = n → I 152 46 = z → I 152 9 = 0 → Ex 239 54 [some (.ref 152), some (.int (nI n)), some (.int (nI d)), some (.int (nI m)), some (.int z0), some (.int acc), some (.int (nI t)), l7] [] (amSH L) I J R (fun v I' J' R' => v = some (.int (lozA (itN (lozS m d) f (z, acc)))) ∧ MK I I' J J' ∧ R' = R) := by
  intro f
  induction f with
  | zero =>
    intro t z acc I J l7 ht hz hf
    have e : t = n := by omega
    subst e
    refine LI6 e239_54 ?_
    refine LI1 e239_56 ?_
    refine CN_ge (a := t) (b := t) e239_57 t239_57 rfl rfl (by omega) (by omega) (fun _ => ?_) (fun q => by omega)
    refine LI5 e239_163 ?_
    exact Ri e239_165 rt239 (⟨rfl, MK.rf, rfl⟩)
  | succ f ih =>
    intro t z acc I J l7 ht hz hf
    refine LI6 e239_54 ?_
    refine LI1 e239_56 ?_
    refine CN_ge (a := t) (b := n) e239_57 t239_57 rfl rfl (by omega) (by omega) (fun q => absurd q (by omega)) (fun _ => ?_)
    refine LA0 e239_60 ?_
    refine Gr e239_61 (o152 L) (hR 152 7 157 rfl) f775 ?_
    refine Cs1p e239_64 c239_171 (Nat.le_of_ble_eq_true rfl) (Nat.le_of_ble_eq_true rfl) (m_empties (o157 L)) ?_
    rintro _ I1 J1 R1 ⟨rfl, hI1, hR1, hF1, hP1⟩
    have hI1 := hI1.symm
    have hR1 := hR1.symm
    subst hI1
    subst hR1
    refine Ki e239_67 kiconst_0 ?_
    refine SI7 e239_68 rfl ?_
    refine m_lz_in hR hd hm9 (d + 1) 0 z (fun _ => 0) I J1 (by omega) hP1 hz (fun I2 J2 g1 g2 g3 g4 => ?_)
    have hsz := lozH_sz (m := m) (z := z) hd
    have hB3 : PB 999 (lozH d (lozP m (d + 1) 0 z (fun _ => 0)).2) := lozH_PB (lozP_PB hm9 (fun _ _ => ⟨by decide, by decide⟩))
    have hPB : PB 999 (lozP m (d + 1) 0 z (fun _ => 0)).2 := lozP_PB hm9 (fun _ _ => ⟨by show (-999 : Int) ≤ 0; decide, by show (0 : Int) ≤ 999; decide⟩)
    have K : ∀ J3, Fr J2 J3 157 → JP J3 157 (lozH d (lozP m (d + 1) 0 z (fun _ => 0)).2) → Ex 239 128 [some (.ref 152), some (.int (nI n)), some (.int (nI d)), some (.int (nI m)), some (.int z0), some (.int acc), some (.int (nI t)), some (.int (nI (d + 1)))] [] (amSH L) I2 J3 R (fun v I' J' R' => v = some (.int (lozA (itN (lozS m d) (f + 1) (z, acc)))) ∧ MK I I' J J' ∧ R' = R) := by
      intro J3 hF3 hP3
      refine LA0 e239_128 ?_
      refine Ki e239_129 kiconst_0 ?_
      refine LA0 e239_130 ?_
      refine Gr e239_131 (o152 L) (hR 152 7 157 rfl) f775 ?_
      refine Cv2p e239_134 c239_184 (o152 L) (Nat.le_of_ble_eq_true rfl) (Nat.le_of_ble_eq_true rfl) (m_chains hR (by decide) (o157 L) (by decide) hP3 (hB3.mono (by decide)) (by rw [hsz]; omega) (by rw [hsz]; omega) ((g1 152 9 (by omega)).trans hf)) ?_
      rintro _ I4 J4 R4 ⟨rfl, hR4, hG4, hF4, hD4⟩
      subst hR4
      have hk4 : MK I I4 J J4 := ⟨fun y i a b c => (hG4 y i (by omega) (by omega)).trans (g1 y i (by omega)), fun y hy => by rw [hF4 y (by simp; omega) (by omega), hF3 y (by omega), g2 y (by omega), hF1 y (by omega)]⟩
      rcases hD4 with ⟨l, hll, hf4, hM⟩ | ⟨hll, hf4⟩
      · skip
        refine LA0 e239_137 ?_
        refine Gi e239_138 (o152 L) (amGi_of f777 (by decide)) ?_
        rw [hf4]
        refine B_eq e239_141 t239_141 (fun _ => ?_) (fun q => absurd (rfl) q)
        refine LI5 e239_147 ?_
        refine LA0 e239_149 ?_
        refine Ki e239_150 kiconst_0 ?_
        refine Cv1 e239_151 c239_188 (o152 L) (Nat.le_of_ble_eq_true rfl) (Nat.le_of_ble_eq_true rfl) ((m_roots hR (by decide) hM)) ?_
        refine Iadd e239_154 ?_
        refine SI5 e239_155 rfl ?_
        refine IncN6 (m := t) e239_157 rfl ?_
        refine Go e239_160 t239_160 ?_
        rw [itN_yes (lozS_yes hll)]
        refine (ih (t + 1) _ _ I4 J4 _ (by omega) ((hG4 152 46 (by omega) (by omega)).trans g3) hf4).mono (fun v I' J' R' hp => ⟨hp.1, hk4.tr hp.2.1, hp.2.2⟩)
      · skip
        refine LA0 e239_137 ?_
        refine Gi e239_138 (o152 L) (amGi_of f777 (by decide)) ?_
        rw [hf4]
        refine B_eq e239_141 t239_141 (fun q => absurd q (by decide)) (fun _ => ?_)
        refine Ki e239_144 kbipush_m3 ?_
        exact Ri e239_146 rt239 (by
        rw [itN_no (lozS_no hll)]
        exact ⟨rfl, hk4, rfl⟩)
    have bd := hPB d (by omega)
    have g4d := g4 d (by omega)
    refine LA0 e239_101 ?_
    refine Gr e239_102 (o152 L) (hR 152 7 157 rfl) f775 ?_
    refine LI2 e239_105 ?_
    refine LA0 e239_106 ?_
    refine Gr e239_107 (o152 L) (hR 152 7 157 rfl) f775 ?_
    refine LI2 e239_110 ?_
    refine AjN (k := d) e239_111 (o157 L) rfl (by omega) (by decide) ?_
    rw [g4d]
    refine K0 e239_112 ?_
    refine D_ne e239_113 e239_114 t239_114 (fun h113 => ?_) (fun h113 => ?_)
    · refine LA0 e239_121 ?_
      refine Gr e239_122 (o152 L) (hR 152 7 157 rfl) f775 ?_
      refine LI2 e239_125 ?_
      refine AjN (k := d) e239_126 (o157 L) rfl (by omega) (by decide) ?_
      rw [g4d]
      refine WjN (k := d) e239_127 (o157 L) rfl (by omega) (by decide) ?_
      refine K _ Fr.rf.up (fun i hi => ?_)
      unfold lozH
      first
        | (have hz0 : (lozP m (d + 1) 0 z (fun _ => 0)).2 d = 0 := by
             first
               | exact (oI_eq ⟨by omega, by omega⟩ ⟨by decide, by decide⟩).mp h113
               | exact (oI_eq ⟨by omega, by omega⟩ ⟨by decide, by decide⟩).mp (Decidable.not_not.mp h113)
           rw [if_pos hz0]
           exact JP.st (v := 1) g4 i hi)
        | (have hz0 : ¬ (lozP m (d + 1) 0 z (fun _ => 0)).2 d = 0 := fun y => by
             have y2 : oI ((lozP m (d + 1) 0 z (fun _ => 0)).2 d) = 0 := by rw [y]; rfl
             first | exact h113 y2 | exact h113 (not_not_intro y2)
           rw [if_neg hz0]
           by_cases e : i = d
           · subst e; rw [amU_same]
           · rw [amU_ni e]; exact g4 i hi)
    · refine K1 e239_117 ?_
      refine Go e239_118 t239_118 ?_
      refine WjN (k := d) e239_127 (o157 L) rfl (by omega) (by decide) ?_
      refine K _ Fr.rf.up (fun i hi => ?_)
      unfold lozH
      first
        | (have hz0 : (lozP m (d + 1) 0 z (fun _ => 0)).2 d = 0 := by
             first
               | exact (oI_eq ⟨by omega, by omega⟩ ⟨by decide, by decide⟩).mp h113
               | exact (oI_eq ⟨by omega, by omega⟩ ⟨by decide, by decide⟩).mp (Decidable.not_not.mp h113)
           rw [if_pos hz0]
           exact JP.st (v := 1) g4 i hi)
        | (have hz0 : ¬ (lozP m (d + 1) 0 z (fun _ => 0)).2 d = 0 := fun y => by
             have y2 : oI ((lozP m (d + 1) 0 z (fun _ => 0)).2 d) = 0 := by rw [y]; rfl
             first | exact h113 y2 | exact h113 (not_not_intro y2)
           rw [if_neg hz0]
           by_cases e : i = d
           · subst e; rw [amU_same]
           · rw [amU_ni e]; exact g4 i hi)
set_option maxHeartbeats 2000000 in
theorem n_lots {n d m z : Int32} (h : MSt I J R σ) : Cl 239 [.ref 152, .int n, .int d, .int m, .int z] (amSH L) I J R (MP I J R σ (.int (sLots n d m z))) := by
  obtain ⟨hR, hPl, h3, h4, h5, h6, h7⟩ := id h
  have h3 : M3 I σ.2.1 := h3
  have h4 : M4 I σ.2.2.1 σ.2.2.2.1 := h4
  have h5 : M5 I σ.2.2.2.2.1 := h5
  have h6 : M6 I σ.2.2.2.2.2.1 σ.2.2.2.2.2.2 := h6
  have h8 := h7.1.1
  have hn120 := h7.2.2.1
  have hw35 := h7.2.2.2.1
  have hk0 : MK I (amU (amU I 152 46 z) 152 9 0) J J := ⟨fun y i a b c => by rw [up_o (by omega), up_o (by omega)], fun _ _ => rfl⟩
  unfold sLots
  show Ex 239 0 [some (.ref 152), some (.int n), some (.int d), some (.int m), some (.int z), none, none, none] [] (amSH L) I J R _
  by_cases gn : 1 ≤ n.toInt ∧ n.toInt ≤ 12
  · by_cases gd' : 1 ≤ d.toInt ∧ d.toInt ≤ 3
    · by_cases gm : 1 ≤ m.toInt ∧ m.toInt ≤ 9
      · rw [if_pos ⟨gn, gd', gm⟩]
        obtain ⟨n, hn, rfl⟩ : ∃ k : Nat, k ≤ 12 ∧ n = nI k := ⟨n.toInt.toNat, by omega, by rw [← Int32.toInt_inj, nI_toInt (by omega)]; omega⟩
        obtain ⟨d, hd, rfl⟩ : ∃ k : Nat, (1 ≤ k ∧ k ≤ 3) ∧ d = nI k := ⟨d.toInt.toNat, by omega, by rw [← Int32.toInt_inj, nI_toInt (by omega)]; omega⟩
        obtain ⟨m, hm, rfl⟩ : ∃ k : Nat, k ≤ 9 ∧ m = nI k := ⟨m.toInt.toNat, by omega, by rw [← Int32.toInt_inj, nI_toInt (by omega)]; omega⟩
        have en : (nI n).toInt.toNat = n := by rw [nI_toInt (by omega)]; omega
        have ed : (nI d).toInt.toNat = d := by rw [nI_toInt (by omega)]; omega
        have em : (nI m).toInt.toNat = m := by rw [nI_toInt (by omega)]; omega
        rw [en, ed, em]
        refine LI1 e239_0 ?_
        refine I2l e239_1 ?_
        refine K1 e239_2 ?_
        refine Kd e239_3 kj22 ?_
        refine Cs3 e239_6 c239_152 (Nat.le_of_ble_eq_true rfl) (Nat.le_of_ble_eq_true rfl) (m_in) ?_
        rw [show decide ((1 : Int64) ≤ (nI n).toInt64 ∧ (nI n).toInt64 ≤ 12) = decide (1 ≤ (nI n).toInt ∧ (nI n).toInt ≤ 12) from min64 (a := 1) (b := 12), decide_eq_true gn]
        rw [show bI true = 1 from rfl]
        refine B_eq e239_9 t239_9 (fun q => absurd q (by decide)) (fun _ => ?_)
        refine LI2 e239_12 ?_
        refine I2l e239_13 ?_
        refine K1 e239_14 ?_
        refine Kd e239_15 kj11 ?_
        refine Cs3 e239_18 c239_152 (Nat.le_of_ble_eq_true rfl) (Nat.le_of_ble_eq_true rfl) (m_in) ?_
        rw [show decide ((1 : Int64) ≤ (nI d).toInt64 ∧ (nI d).toInt64 ≤ 3) = decide (1 ≤ (nI d).toInt ∧ (nI d).toInt ≤ 3) from min64 (a := 1) (b := 3), decide_eq_true gd']
        rw [show bI true = 1 from rfl]
        refine B_eq e239_21 t239_21 (fun q => absurd q (by decide)) (fun _ => ?_)
        refine LI3 e239_24 ?_
        refine I2l e239_25 ?_
        refine K1 e239_26 ?_
        refine Kd e239_27 kj10 ?_
        refine Cs3 e239_30 c239_152 (Nat.le_of_ble_eq_true rfl) (Nat.le_of_ble_eq_true rfl) (m_in) ?_
        rw [show decide ((1 : Int64) ≤ (nI m).toInt64 ∧ (nI m).toInt64 ≤ 9) = decide (1 ≤ (nI m).toInt ∧ (nI m).toInt ≤ 9) from min64 (a := 1) (b := 9), decide_eq_true gm]
        rw [show bI true = 1 from rfl]
        refine B_ne e239_33 t239_33 (fun _ => ?_) (fun q => absurd (by decide) q)
        refine LA0 e239_38 ?_
        refine LI4 e239_39 ?_
        refine Pi e239_41 (o152 L) f814 ?_
        refine LA0 e239_44 ?_
        refine Cv0p e239_45 c239_189 (o152 L) (Nat.le_of_ble_eq_true rfl) (Nat.le_of_ble_eq_true rfl) (m_opens) ?_
        rintro _ I1 J1 R1 ⟨rfl, hI1, hJ1, hR1⟩
        subst hI1
        subst hJ1
        subst hR1
        refine Ki e239_48 kiconst_0 ?_
        refine SI5 e239_49 rfl ?_
        refine Ki e239_51 kiconst_0 ?_
        refine SI6 e239_52 rfl ?_
        refine (m_lz_lp hR hn hd.1 hd.2 hm n 0 z 0 _ _ _ (by omega) (by rw [up_o (by omega), amU_same]) amU_same).mono (fun v I' J' R' hp => ?_)
        obtain ⟨p1, p2, p3⟩ := hp
        subst p1
        subst p3
        exact MP.k h (hk0.tr p2)
      · rw [if_neg (fun z => gm z.2.2)]
        refine LI1 e239_0 ?_
        refine I2l e239_1 ?_
        refine K1 e239_2 ?_
        refine Kd e239_3 kj22 ?_
        refine Cs3 e239_6 c239_152 (Nat.le_of_ble_eq_true rfl) (Nat.le_of_ble_eq_true rfl) (m_in) ?_
        rw [show decide ((1 : Int64) ≤ n.toInt64 ∧ n.toInt64 ≤ 12) = decide (1 ≤ n.toInt ∧ n.toInt ≤ 12) from min64 (a := 1) (b := 12), decide_eq_true gn]
        rw [show bI true = 1 from rfl]
        refine B_eq e239_9 t239_9 (fun q => absurd q (by decide)) (fun _ => ?_)
        refine LI2 e239_12 ?_
        refine I2l e239_13 ?_
        refine K1 e239_14 ?_
        refine Kd e239_15 kj11 ?_
        refine Cs3 e239_18 c239_152 (Nat.le_of_ble_eq_true rfl) (Nat.le_of_ble_eq_true rfl) (m_in) ?_
        rw [show decide ((1 : Int64) ≤ d.toInt64 ∧ d.toInt64 ≤ 3) = decide (1 ≤ d.toInt ∧ d.toInt ≤ 3) from min64 (a := 1) (b := 3), decide_eq_true gd']
        rw [show bI true = 1 from rfl]
        refine B_eq e239_21 t239_21 (fun q => absurd q (by decide)) (fun _ => ?_)
        refine LI3 e239_24 ?_
        refine I2l e239_25 ?_
        refine K1 e239_26 ?_
        refine Kd e239_27 kj10 ?_
        refine Cs3 e239_30 c239_152 (Nat.le_of_ble_eq_true rfl) (Nat.le_of_ble_eq_true rfl) (m_in) ?_
        rw [show decide ((1 : Int64) ≤ m.toInt64 ∧ m.toInt64 ≤ 9) = decide (1 ≤ m.toInt ∧ m.toInt ≤ 9) from min64 (a := 1) (b := 9), decide_eq_false gm]
        rw [show bI false = 0 from rfl]
        refine B_ne e239_33 t239_33 (fun q => absurd q (fun z => z rfl)) (fun _ => ?_)
        refine Ki e239_36 kiconst_m1 ?_
        exact Ri e239_37 rt239 (MP.rf h)
    · rw [if_neg (fun z => gd' z.2.1)]
      refine LI1 e239_0 ?_
      refine I2l e239_1 ?_
      refine K1 e239_2 ?_
      refine Kd e239_3 kj22 ?_
      refine Cs3 e239_6 c239_152 (Nat.le_of_ble_eq_true rfl) (Nat.le_of_ble_eq_true rfl) (m_in) ?_
      rw [show decide ((1 : Int64) ≤ n.toInt64 ∧ n.toInt64 ≤ 12) = decide (1 ≤ n.toInt ∧ n.toInt ≤ 12) from min64 (a := 1) (b := 12), decide_eq_true gn]
      rw [show bI true = 1 from rfl]
      refine B_eq e239_9 t239_9 (fun q => absurd q (by decide)) (fun _ => ?_)
      refine LI2 e239_12 ?_
      refine I2l e239_13 ?_
      refine K1 e239_14 ?_
      refine Kd e239_15 kj11 ?_
      refine Cs3 e239_18 c239_152 (Nat.le_of_ble_eq_true rfl) (Nat.le_of_ble_eq_true rfl) (m_in) ?_
      rw [show decide ((1 : Int64) ≤ d.toInt64 ∧ d.toInt64 ≤ 3) = decide (1 ≤ d.toInt ∧ d.toInt ≤ 3) from min64 (a := 1) (b := 3), decide_eq_false gd']
      rw [show bI false = 0 from rfl]
      refine B_eq e239_21 t239_21 (fun _ => ?_) (fun q => absurd (rfl) q)
      refine Ki e239_36 kiconst_m1 ?_
      exact Ri e239_37 rt239 (MP.rf h)
  · rw [if_neg (fun z => gn z.1)]
    refine LI1 e239_0 ?_
    refine I2l e239_1 ?_
    refine K1 e239_2 ?_
    refine Kd e239_3 kj22 ?_
    refine Cs3 e239_6 c239_152 (Nat.le_of_ble_eq_true rfl) (Nat.le_of_ble_eq_true rfl) (m_in) ?_
    rw [show decide ((1 : Int64) ≤ n.toInt64 ∧ n.toInt64 ≤ 12) = decide (1 ≤ n.toInt ∧ n.toInt ≤ 12) from min64 (a := 1) (b := 12), decide_eq_false gn]
    rw [show bI false = 0 from rfl]
    refine B_eq e239_9 t239_9 (fun _ => ?_) (fun q => absurd (rfl) q)
    refine Ki e239_36 kiconst_m1 ?_
    exact Ri e239_37 rt239 (MP.rf h)
end REF19
