/-! the reference: sign (printed by wip/whole/t92.py) -/
theorem MI.fr0 {I I' : amI} {J J' : amJ} {B : Nat} {l : List Po} (h : MI I J B l) (h1 : I' 184 B = I 184 B) (h2 : ∀ y, 166 ≤ y → y < 184 → J' y = J y) (hB : B < 3) : MI I' J' B l := by
  obtain ⟨g1, g2, g3, g4, g5⟩ := h
  exact ⟨by rw [h1]; exact g1, g2, g3, fun k hk i hi => by rw [h2 _ (by omega) (by omega)]; exact g4 k hk i hi, g5⟩
/-- what a part of a call leaves: only the marks, the fence and the rows -/
def LgP (I : amI) (J : amJ) (R : amR) (val : Int64) (v : Option Value) (I' : amI) (J' : amJ) (R' : amR) : Prop := v = some (.long val) ∧ R' = R ∧ FlI I I' ∧ ∀ y, y < 152 → J' y = J y
theorem LgP.tr {I I1 I' : amI} {J J1 J' : amJ} {R R' : amR} {val : Int64} {v : Option Value} (h : LgP I1 J1 R val v I' J' R') (h1 : FlI I I1) (h2 : ∀ y, y < 152 → J1 y = J y) : LgP I J R val v I' J' R' := ⟨h.1, h.2.1, h1.tr h.2.2.1, fun y hy => (h.2.2.2 y hy).trans (h2 y hy)⟩
theorem lg_fin {σ : PS} {I0 I1 I' : amI} {J0 J1 J' : amJ} {R R' : amR} {val : Int64} {v : Option Value} (h : MSt I0 J0 R σ) (hk : MK I0 I1 J0 J1) (hp : LgP I1 J1 R val v I' J' R') : MP I0 J0 R σ (.long val) v I' J' R' := by
  obtain ⟨h1, h2, h3, h4⟩ := hp
  subst h1
  subst h2
  exact MP.k h (hk.tr ((h3.go (B := 0)).k h4))
section REF24
variable {L : Nat} {I : amI} {J : amJ} {R : amR} {Q : amQ} {a b c B : Nat} {p q d : Po} {σ : PS} {l lq : List Po}
set_option maxHeartbeats 2000000 in
theorem m_sg_full {k m : Nat} {y : Int32} {t : Nat} (ht : t ≤ 10) (hf : I 152 9 = 1) : Ex 204 93 [some (.ref 152), some (.int (nI k)), some (.int y), some (.int (nI m)), some (.int (nI t))] [] (amSH L) I J R (LgP I J R NOv) := by
  by_cases g : t ≤ 9
  · refine LI4 e204_93 ?_
    refine Ki e204_95 kbipush_9 ?_
    refine CN_gt (a := t) (b := 9) e204_97 t204_97 rfl (by decide) (by omega) (by omega) (fun q => absurd q (by omega)) (fun _ => ?_)
    refine LA0 e204_100 ?_
    refine Gi e204_101 (o152 L) (amGi_of f777 (by decide)) ?_
    rw [hf]
    refine B_ne e204_104 t204_104 (fun _ => ?_) (fun q => absurd (by decide) q)
    refine Kd e204_168 kj4 ?_
    exact Rj e204_171 rt204 (⟨rfl, rfl, FlI.rf, fun _ _ => rfl⟩)
  · refine LI4 e204_93 ?_
    refine Ki e204_95 kbipush_9 ?_
    refine CN_gt (a := t) (b := 9) e204_97 t204_97 rfl (by decide) (by omega) (by omega) (fun _ => ?_) (fun q => by omega)
    refine Kd e204_168 kj4 ?_
    exact Rj e204_171 rt204 (⟨rfl, rfl, FlI.rf, fun _ _ => rfl⟩)
set_option maxHeartbeats 2000000 in
theorem m_sg_lp {k m : Nat} {y : Int32} (hR : amRok R) (h8 : m < 8) (hq : Pok q) (hl9 : l.length ≤ 9) (hnn : ∀ t s, fnc l y t = some s → 0 ≤ fHo lq s) : ∀ (f t : Nat) (s : Fs) (I : amI) (J : amJ), t + f = 10 → (∃ t0, t0 ≤ t ∧ fnc l y t0 = some s) → MI I J 0 l → MI I J 1 lq → (∀ i, i < 5 → I 153 (5 * m + i) = iI (q i)) → I 152 9 = 0 → Ex 204 93 [some (.ref 152), some (.int (nI k)), some (.int y), some (.int (nI m)), some (.int (nI t))] [] (amSH L) I J R (LgP I J R (sgN l lq y q f t s)) := by
  intro f
  induction f with
  | zero =>
    intro t s I J ht hs hM hMq hq2 hf
    have e : t = 10 := by omega
    subst e
    refine LI4 e204_93 ?_
    refine Ki e204_95 kbipush_9 ?_
    refine CN_gt (a := 10) (b := 9) e204_97 t204_97 rfl (by decide) (by omega) (by omega) (fun _ => ?_) (fun q => by omega)
    refine Kd e204_168 kj4 ?_
    exact Rj e204_171 rt204 (⟨rfl, rfl, FlI.rf, fun _ _ => rfl⟩)
  | succ f ih =>
    intro t s I J ht hs hM hMq hq2 hf
    obtain ⟨t0, ht0, hs0⟩ := hs
    rw [sgN, fnc_from hl9 ht0 hs0]
    refine LI4 e204_93 ?_
    refine Ki e204_95 kbipush_9 ?_
    refine CN_gt (a := t) (b := 9) e204_97 t204_97 rfl (by decide) (by omega) (by omega) (fun q => absurd q (by omega)) (fun _ => ?_)
    refine LA0 e204_100 ?_
    refine Gi e204_101 (o152 L) (amGi_of f777 (by decide)) ?_
    rw [hf]
    refine B_ne e204_104 t204_104 (fun q => absurd q ((fun z => z rfl))) (fun _ => ?_)
    refine LA0 e204_107 ?_
    refine Ki e204_108 kiconst_0 ?_
    refine LI2 e204_109 ?_
    refine LI4 e204_110 ?_
    refine Cv3p e204_112 c204_196 (o152 L) (Nat.le_of_ble_eq_true rfl) (Nat.le_of_ble_eq_true rfl) (m_fences hR (by decide) hM (by omega) hf) ?_
    rintro _ I3 J3 R3 ⟨rfl, hR3, hF3, hG3, hD⟩
    have hR3 := hR3.symm
    subst hR3
    rcases hD with ⟨s3, hs3e, hFI, hI3, e1, e2, e3, e4⟩ | ⟨hs3e, hI3⟩
    · have hI3 := hI3.symm
      subst hI3
      rw [hs3e]
      dsimp only
      have hs3 : FnM J3 s3 := ⟨e1, e2, e3, e4⟩
      refine LA0 e204_115 ?_
      refine Gi e204_116 (o152 L) (amGi_of f777 (by decide)) ?_
      rw [hf]
      refine B_ne e204_119 t204_119 (fun q => absurd q ((fun z => z rfl))) (fun _ => ?_)
      refine LA0 e204_122 ?_
      refine Ki e204_123 kiconst_1 ?_
      refine Cv1 e204_124 c204_199 (o152 L) (Nat.le_of_ble_eq_true rfl) (Nat.le_of_ble_eq_true rfl) ((m_within hR (by decide) (hMq.fr0 rfl (fun y g1 g2 => hF3 y (by omega)) (by decide)) hs3)) ?_
      refine B_le e204_127 t204_127 (fun h127 => ?_) (fun h127 => ?_)
      · have hz : fHo lq s3 = 0 := by
          have := hnn t s3 hs3e
          rw [i32le] at this h127
          exact Int32.toInt_inj.mp (by rw [show (0 : Int32).toInt = 0 from rfl] at *; omega)
        rw [if_pos hz]
        refine LA0 e204_133 ?_
        refine LI3 e204_134 ?_
        refine LA0 e204_135 ?_
        refine Gr e204_136 (o152 L) (hR 152 8 158 rfl) f776 ?_
        refine Cv2p e204_139 c204_163 (o152 L) (Nat.le_of_ble_eq_true rfl) (Nat.le_of_ble_eq_true rfl) (m_loads hR (o158 L) h8 hq2 hq) ?_
        rintro _ I4 J4 R4 ⟨rfl, hI4, hR4, hF4, hP4⟩
        have hI4 := hI4.symm
        subst hI4
        have hR4 := hR4.symm
        subst hR4
        refine LA0 e204_142 ?_
        refine Gr e204_143 (o152 L) (hR 152 8 158 rfl) f776 ?_
        refine LA0 e204_146 ?_
        refine Gj e204_147 (o152 L) f788 ?_
        rw [show J4 152 20 = oI (feU s3) from by rw [hF4 152 (by decide)]; exact e3]
        refine LA0 e204_150 ?_
        refine Gj e204_151 (o152 L) f789 ?_
        rw [show J4 152 21 = oI (feV s3) from by rw [hF4 152 (by decide)]; exact e4]
        refine Cs3 e204_154 c204_169 (Nat.le_of_ble_eq_true rfl) (Nat.le_of_ble_eq_true rfl) ((m_value (u := feU s3) (v := feV s3) (o158 L) hP4 hq.b hq.2.1)) ?_
        refine Cs1 e204_157 c204_154 (Nat.le_of_ble_eq_true rfl) (Nat.le_of_ble_eq_true rfl) (m_sign) ?_
        refine I2l e204_160 ?_
        exact Rj e204_161 rt204 (⟨rfl, rfl, FlI.rf, fun y hy => by rw [hF4 y (by omega), hF3 y (by omega)]⟩)
      · rw [if_neg (fun z => absurd h127 (by rw [z]; decide))]
        refine Go e204_130 t204_130 ?_
        refine IncN4 (m := t) e204_162 rfl ?_
        refine Go e204_165 t204_165 ?_
        refine (ih (t + 1) s3 _ J3 (by omega) ⟨t, by omega, hs3e⟩ (hM.fr0 rfl (fun y g1 g2 => hF3 y (by omega)) (by decide)) (hMq.fr0 rfl (fun y g1 g2 => hF3 y (by omega)) (by decide)) hq2 hf).mono (fun v I' J' R' hp => hp.tr FlI.rf (fun y hy => hF3 y (by omega)))
    · have hI3 := hI3.symm
      subst hI3
      rw [hs3e]
      refine LA0 e204_115 ?_
      refine Gi e204_116 (o152 L) (amGi_of f777 (by decide)) ?_
      rw [amU_same]
      refine B_ne e204_119 t204_119 (fun _ => ?_) (fun q => absurd (by decide) q)
      refine IncN4 (m := t) e204_162 rfl ?_
      refine Go e204_165 t204_165 ?_
      refine (m_sg_full (by omega) amU_same).mono (fun v I' J' R' hp => hp.tr FlI.rf.up (fun y hy => hF3 y (by omega)))
set_option maxHeartbeats 2000000 in
theorem n_sign {p y q : Int32} (h : MSt I J R σ) : Cl 204 [.ref 152, .int p, .int y, .int q] (amSH L) I J R (MP I J R σ (.long (sSign σ.1 p y q))) := by
  obtain ⟨hR, hPl, -, -, -, -, hO⟩ := id h
  have h8 := hO.1.1
  have hk0 : MK I (amU I 152 9 0) J J := ⟨fun y i a b c => by unfold amU; rw [if_neg (by omega)], fun _ _ => rfl⟩
  have h0 : MSt (amU I 152 9 0) J R σ := h.k hk0
  unfold sSign
  show Ex 204 0 [some (.ref 152), some (.int p), some (.int y), some (.int q), none] [] (amSH L) I J R _
  by_cases hp : inP σ.1 p
  · rw [if_pos hp]
    obtain ⟨k, hk, rfl, ek⟩ := hp.of h8
    rw [ek]
    have hok := hO.1.2 k hk
    have ei : bI (decide (inP σ.1 (nI k))) = 1 := by rw [decide_eq_true hp]; rfl
    by_cases hq : inP σ.1 q
    · rw [if_pos hq]
      obtain ⟨m, hm, rfl, em⟩ := hq.of h8
      have hokm := hO.1.2 m hm
      rw [em]
      have ei2 : bI (decide (inP σ.1 (nI m))) = 1 := by rw [decide_eq_true hq]; rfl
      refine LA0 e204_0 ?_
      refine LI1 e204_1 ?_
      refine Cv1 e204_2 c204_157 (o152 L) (Nat.le_of_ble_eq_true rfl) (Nat.le_of_ble_eq_true rfl) ((m_isPoly h8 hPl.1)) ?_
      rw [ei]
      refine B_eq e204_5 t204_5 (fun q => absurd q (by decide)) (fun _ => ?_)
      refine LA0 e204_8 ?_
      refine LI3 e204_9 ?_
      refine Cv1 e204_10 c204_157 (o152 L) (Nat.le_of_ble_eq_true rfl) (Nat.le_of_ble_eq_true rfl) ((m_isPoly h8 hPl.1)) ?_
      rw [ei2]
      refine B_ne e204_13 t204_13 (fun _ => ?_) (fun q => absurd (by decide) q)
      refine LA0 e204_20 ?_
      refine Cv0p e204_21 c204_189 (o152 L) (Nat.le_of_ble_eq_true rfl) (Nat.le_of_ble_eq_true rfl) (m_opens) ?_
      rintro _ I1 J1 R1 ⟨rfl, hI1, hJ1, hR1⟩
      have hI1 := hI1.symm
      subst hI1
      have hJ1 := hJ1.symm
      subst hJ1
      have hR1 := hR1.symm
      subst hR1
      refine LA0 e204_24 ?_
      refine Ki e204_25 kiconst_0 ?_
      refine LI1 e204_26 ?_
      refine LI2 e204_27 ?_
      refine Cv3p e204_28 c204_197 (o152 L) (Nat.le_of_ble_eq_true rfl) (Nat.le_of_ble_eq_true rfl) (m_isRoot (k := y) h0 (by decide) hk amU_same) ?_
      rintro v2 I2 J2 R2 ⟨hR2, hk2, hoth2, hD⟩
      have hR2 := hR2.symm
      subst hR2
      rcases hD with ⟨l, hll, hf2, hM, rfl⟩ | ⟨hll, hf2, rfl⟩
      · rw [hll]
        dsimp only
        by_cases hh : hasR l y
        · rw [if_pos hh]
          rw [decide_eq_true hh]
          rw [show bI true = 1 from rfl]
          refine B_ne e204_31 t204_31 (fun _ => ?_) (fun q => absurd (by decide) q)
          refine LA0 e204_38 ?_
          refine Ki e204_39 kiconst_0 ?_
          refine LI2 e204_40 ?_
          refine Ki e204_41 kiconst_0 ?_
          refine Cv3p e204_42 c204_196 (o152 L) (Nat.le_of_ble_eq_true rfl) (Nat.le_of_ble_eq_true rfl) (m_fences (t := 0) hR (by decide) hM (by decide) hf2) ?_
          rintro _ I3 J3 R3 ⟨rfl, hR3, hF3, hG3, hD⟩
          have hR3 := hR3.symm
          subst hR3
          rcases hD with ⟨s, hs, hFI, hI3, e1, e2, e3, e4⟩ | ⟨hs, hI3⟩
          · have hI3 := hI3.symm
            subst hI3
            rw [hs]
            dsimp only
            have hs3 : FnM J3 s := ⟨e1, e2, e3, e4⟩
            have hl5 := hM.2.2.1
            have hk3 : MK (amU I 152 9 0) I2 J J3 := hk2.tr ⟨fun _ _ _ _ _ => rfl, fun y hy => hF3 y (by omega)⟩
            have hM3 := hM.fr0 (J' := J3) rfl (fun y g1 g2 => hF3 y (by omega)) (by decide)
            refine LA0 e204_45 ?_
            refine Gi e204_46 (o152 L) (amGi_of f777 (by decide)) ?_
            rw [hf2]
            refine B_eq e204_49 t204_49 (fun _ => ?_) (fun q => absurd (rfl) q)
            refine LA0 e204_56 ?_
            refine Ki e204_57 kiconst_1 ?_
            refine LI1 e204_58 ?_
            refine LI3 e204_59 ?_
            refine Cv3p e204_60 c204_202 (o152 L) (Nat.le_of_ble_eq_true rfl) (Nat.le_of_ble_eq_true rfl) (m_commonOf (p := k) (r := m) (h0.k hk3) (by decide) hk hm hf2) ?_
            rintro _ I4 J4 R4 ⟨rfl, hR4, hk4, hJ4, hoth4, hD⟩
            have hR4 := hR4.symm
            subst hR4
            unfold cmc at hD
            have hM4 := hoth4 0 (by decide) (by decide) l hM3
            have hs4 : FnM J4 s := by
              unfold FnM
              rw [hJ4]
              exact hs3
            rcases hD with ⟨lg, hlg, hf4, hMg⟩ | ⟨hlg, hf4⟩
            · obtain ⟨g, hc, hlg⟩ : ∃ g, com (σ.1.getD k zP) (σ.1.getD m zP) = some g ∧ chn g = some lg := by
                cases hc : com (σ.1.getD k zP) (σ.1.getD m zP) with
                | none => rw [hc] at hlg; cases hlg
                | some g =>
                  rw [hc] at hlg
                  exact ⟨g, rfl, hlg⟩
              rw [hc]
              dsimp only
              rw [hlg]
              dsimp only
              refine LA0 e204_63 ?_
              refine Gi e204_64 (o152 L) (amGi_of f777 (by decide)) ?_
              rw [hf4]
              refine B_eq e204_67 t204_67 (fun _ => ?_) (fun q => absurd (rfl) q)
              refine LA0 e204_74 ?_
              refine Ki e204_75 kiconst_1 ?_
              refine Cv1 e204_76 c204_199 (o152 L) (Nat.le_of_ble_eq_true rfl) (Nat.le_of_ble_eq_true rfl) ((m_within hR (by decide) hMg hs4)) ?_
              refine B_le e204_79 t204_79 (fun h79 => ?_) (fun h79 => ?_)
              · rw [if_neg (fun z => absurd h79 (Int32.not_le.mpr z))]
                refine LA0 e204_84 ?_
                refine Ki e204_85 kiconst_1 ?_
                refine LI3 e204_86 ?_
                refine Cv2p e204_87 c204_185 (o152 L) (Nat.le_of_ble_eq_true rfl) (Nat.le_of_ble_eq_true rfl) (m_chainOf (p := m) (B := 1) (h0.k (hk3.tr hk4)) (by decide) hm hf4) ?_
                rintro _ I5 J5 R5 ⟨rfl, hR5, hk5, hoth5, hD⟩
                have hR5 := hR5.symm
                subst hR5
                have hk5a : MK I I5 J J5 := hk0.tr ((hk3.tr hk4).tr hk5)
                have hM5 := hoth5 0 (by decide) (by decide) l hM4
                rcases hD with ⟨lq, hlq, hf5, hMq⟩ | ⟨hlq, hf5⟩
                · rw [hlq]
                  dsimp only
                  refine Ki e204_90 kiconst_0 ?_
                  refine SI4 e204_91 rfl ?_
                  exact (m_sg_lp hR (by omega) hokm (by omega) (fun t s hx => fHo_nn hlq hokm.2.1 hokm.2.2 (by have := hMq.2.2.1; omega) (fnc_FI hx (by omega)) (fnc_FP hx (by omega))) 10 0 s I5 J5 (by omega) ⟨0, by omega, hs⟩ hM5 hMq (fun i hi => (h.k hk5a).2.1.2 m i hm hi) hf5).mono (fun v I' J' R' hp => lg_fin h hk5a hp)
                · rw [hlq]
                  refine Ki e204_90 kiconst_0 ?_
                  refine SI4 e204_91 rfl ?_
                  exact (m_sg_full (t := 0) (by omega) hf5).mono (fun v I' J' R' hp => lg_fin h hk5a hp)
              · rw [if_pos (Int32.not_le.mp h79)]
                refine K0 e204_82 ?_
                exact Rj e204_83 rt204 (MP.k h (hk0.tr (hk3.tr hk4)))
            · skip
              refine LA0 e204_63 ?_
              refine Gi e204_64 (o152 L) (amGi_of f777 (by decide)) ?_
              rw [hf4]
              refine B_eq e204_67 t204_67 (fun q => absurd q (by decide)) (fun _ => ?_)
              refine Kd e204_70 kj4 ?_
              exact Rj e204_73 rt204 (by
              cases hc : com (σ.1.getD k zP) (σ.1.getD m zP) with
              | none => exact MP.k h (hk0.tr (hk3.tr hk4))
              | some g =>
                rw [hc] at hlg
                dsimp only at hlg ⊢
                rw [hlg]
                exact MP.k h (hk0.tr (hk3.tr hk4)))
          · have hI3 := hI3.symm
            subst hI3
            rw [hs]
            refine LA0 e204_45 ?_
            refine Gi e204_46 (o152 L) (amGi_of f777 (by decide)) ?_
            rw [amU_same]
            refine B_eq e204_49 t204_49 (fun q => absurd q (by decide)) (fun _ => ?_)
            refine Kd e204_52 kj4 ?_
            exact Rj e204_55 rt204 (MP.k h ((hk0.tr hk2).tr ⟨fun y i a b c => by unfold amU; rw [if_neg (by omega)], fun y hy => hF3 y (by omega)⟩))
        · rw [if_neg hh]
          rw [decide_eq_false hh]
          rw [show bI false = 0 from rfl]
          refine B_ne e204_31 t204_31 (fun q => absurd q ((fun z => z rfl))) (fun _ => ?_)
          refine Kd e204_34 kj4 ?_
          exact Rj e204_37 rt204 (MP.k h (hk0.tr hk2))
      · rw [hll]
        refine B_ne e204_31 t204_31 (fun q => absurd q ((fun z => z rfl))) (fun _ => ?_)
        refine Kd e204_34 kj4 ?_
        exact Rj e204_37 rt204 (MP.k h (hk0.tr hk2))
    · rw [if_neg hq]
      refine LA0 e204_0 ?_
      refine LI1 e204_1 ?_
      refine Cv1 e204_2 c204_157 (o152 L) (Nat.le_of_ble_eq_true rfl) (Nat.le_of_ble_eq_true rfl) ((m_isPoly h8 hPl.1)) ?_
      rw [ei]
      refine B_eq e204_5 t204_5 (fun q => absurd q (by decide)) (fun _ => ?_)
      refine LA0 e204_8 ?_
      refine LI3 e204_9 ?_
      refine Cv1 e204_10 c204_157 (o152 L) (Nat.le_of_ble_eq_true rfl) (Nat.le_of_ble_eq_true rfl) ((m_isPoly h8 hPl.1)) ?_
      rw [show bI (decide (inP σ.1 q)) = 0 from by rw [decide_eq_false hq]; rfl]
      refine B_ne e204_13 t204_13 (fun q => absurd q ((fun z => z rfl))) (fun _ => ?_)
      refine Kd e204_16 kj4 ?_
      exact Rj e204_19 rt204 (MP.rf h)
  · rw [if_neg hp]
    refine LA0 e204_0 ?_
    refine LI1 e204_1 ?_
    refine Cv1 e204_2 c204_157 (o152 L) (Nat.le_of_ble_eq_true rfl) (Nat.le_of_ble_eq_true rfl) ((m_isPoly h8 hPl.1)) ?_
    rw [show bI (decide (inP σ.1 p)) = 0 from by rw [decide_eq_false hp]; rfl]
    refine B_eq e204_5 t204_5 (fun _ => ?_) (fun q => absurd (rfl) q)
    refine Kd e204_16 kj4 ?_
    exact Rj e204_19 rt204 (MP.rf h)
end REF24
