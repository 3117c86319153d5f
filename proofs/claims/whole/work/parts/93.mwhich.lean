/-! the reference: areAlike, which (printed by wip/whole/t93.py) -/
/-- which is ahead: in lowest terms or not -/
theorem pt_le {a d b e : Int} (hd : 1 ≤ d) (he : 1 ≤ e) : ptU a d * ptV b e ≤ ptU b e * ptV a d ↔ a * e ≤ b * d := by
  obtain ⟨a1, a2⟩ := pt_gd (a := a) (d := d)
  obtain ⟨b1, b2⟩ := pt_gd (a := b) (d := e)
  have g1 := gd_pos (a := a) (d := d) (by omega)
  have g2 := gd_pos (a := b) (d := e) (by omega)
  generalize ptU a d = U1 at *
  generalize ptV a d = V1 at *
  generalize ptU b e = U2 at *
  generalize ptV b e = V2 at *
  generalize gd a d = G1 at *
  generalize gd b e = G2 at *
  subst a1
  subst a2
  subst b1
  subst b2
  have e1 : U1 * G1 * (V2 * G2) = U1 * V2 * (G1 * G2) := by grind
  have e2 : U2 * G2 * (V1 * G1) = U2 * V1 * (G1 * G2) := by grind
  rw [e1, e2]
  constructor
  · intro h
    exact Int.mul_le_mul_of_nonneg_right h (Int.le_of_lt (Int.mul_pos g1 g2))
  · intro h
    exact Int.le_of_mul_le_mul_right h (Int.mul_pos g1 g2)
theorem orI_b {s z : Fs} (hs : FI s) (hz : FI z) (ps : FP s) (pz : FP z) : iB (feU s * fbV z) ∧ iB (fbU z * feV s) := by
  have h1 := pt_b hs
  have h2 := pt_b hz
  obtain ⟨-, p1, p2⟩ := ps
  obtain ⟨⟨p3, p4⟩, -⟩ := pz
  have m1 := mul_b (x := feU s) (y := fbV z) (B := 1000) (C := 1000) (by omega) (by omega)
  have m2 := mul_b (x := fbU z) (y := feV s) (B := 1000) (C := 1000) (by omega) (by omega)
  exact ⟨⟨by omega, by omega⟩, by omega, by omega⟩
theorem or_le {s z : Fs} (hs : FI s) (hz : FI z) (ps : FP s) (pz : FP z) : oI (feU s * fbV z) ≤ oI (fbU z * feV s) ↔ s.2.1 * z.2.2.1 ≤ z.1 * s.2.2.1 := by
  obtain ⟨b1, b2⟩ := orI_b hs hz ps pz
  rw [oI_le b1 b2]
  exact pt_le (by have := hs.b; omega) (by have := hz.b; omega)
/-- what areAlike() answers and leaves -/
def AaP (l lq lg : List Po) (i k : Int32) (I : amI) (J : amJ) (v : Option Value) (I' : amI) (J' : amJ) : Prop := (∀ y, y ≠ 152 → J' y = J y) ∧ ((∃ s z, fnc l i 0 = some s ∧ fnc lq k 0 = some z ∧ I' = I ∧ v = some (.int (bI (decide (alK lg s z))))) ∨ ((fnc l i 0 = none ∨ fnc lq k 0 = none) ∧ I' = amU I 152 9 1 ∧ v = some (.int 0)))
section REF25
variable {L : Nat} {I : amI} {J : amJ} {R : amR} {Q : amQ} {a b c B : Nat} {p q d : Po} {σ : PS} {l lq lg : List Po}
set_option maxHeartbeats 2000000 in
theorem m_areAlike {i k : Int32} (hR : amRok R) (hM : MI I J 0 l) (hMq : MI I J 1 lq) (hMg : MI I J 2 lg) (hf : I 152 9 = 0) (hnn : ∀ s, (fnc l i 0 = some s ∨ fnc lq k 0 = some s) → 0 ≤ fHo lg s) : Cl 208 [.ref 152, .int i, .int k] (amSH L) I J R (fun v I' J' R' => R' = R ∧ AaP l lq lg i k I J v I' J') := by
  have hl1 := hM.2.2.1
  have hl2 := hMq.2.2.1
  have hl3 := hMg.2.2.1
  have hno : ∀ s, 0 ≤ fHo lg s → fHo lg s ≤ 0 → fHo lg s = 0 := fun s a b => by
    rw [i32le] at a b
    exact Int32.toInt_inj.mp (by rw [show (0 : Int32).toInt = 0 from rfl] at *; omega)
  show Ex 208 0 [some (.ref 152), some (.int i), some (.int k), none, none] [] (amSH L) I J R _
  refine LA0 e208_0 ?_
  refine Ki e208_1 kiconst_0 ?_
  refine LI1 e208_2 ?_
  refine Ki e208_3 kiconst_0 ?_
  refine Cv3p e208_4 c208_196 (o152 L) (Nat.le_of_ble_eq_true rfl) (Nat.le_of_ble_eq_true rfl) (m_fences (t := 0) hR (by decide) hM (by decide) hf) ?_
  rintro _ I1 J1 R1 ⟨rfl, hR1, hF1, hG1, hD⟩
  have hR1 := hR1.symm
  subst hR1
  rcases hD with ⟨s, hs, hFI, hI1, e1, e2, e3, e4⟩ | ⟨hs, hI1⟩
  · have hI1 := hI1.symm
    subst hI1
    have hs1 : FnM J1 s := ⟨e1, e2, e3, e4⟩
    have hFPs := fnc_FP hs (by omega)
    have bs := tA_le lg (feU s) (feV s)
    refine LA0 e208_7 ?_
    refine Gi e208_8 (o152 L) (amGi_of f777 (by decide)) ?_
    rw [hf]
    refine B_eq e208_11 t208_11 (fun _ => ?_) (fun q => absurd (rfl) q)
    refine LA0 e208_16 ?_
    refine Cv0p e208_17 c208_207 (o152 L) (Nat.le_of_ble_eq_true rfl) (Nat.le_of_ble_eq_true rfl) (m_keeps e1 e2 e3 e4) ?_
    rintro _ I2 J2 R2 ⟨rfl, hI2, hR2, hF2, hk2, k1, k2, k3, k4⟩
    have hI2 := hI2.symm
    subst hI2
    have hR2 := hR2.symm
    subst hR2
    have hs2 : FnM J2 s := ⟨by rw [hk2 18 (by decide)]; exact e1, by rw [hk2 19 (by decide)]; exact e2, by rw [hk2 20 (by decide)]; exact e3, by rw [hk2 21 (by decide)]; exact e4⟩
    have hMg2 := hMg.fr0 (J' := J2) rfl (fun y g1 g2 => by rw [hF2 y (by omega), hF1 y (by omega)]) (by decide)
    refine LA0 e208_20 ?_
    refine Ki e208_21 kiconst_2 ?_
    refine Cv1 e208_22 c208_199 (o152 L) (Nat.le_of_ble_eq_true rfl) (Nat.le_of_ble_eq_true rfl) ((m_within hR (by decide) hMg2 hs2)) ?_
    refine B_le e208_25 t208_25 (fun h25 => ?_) (fun h25 => ?_)
    · refine Ki e208_32 kiconst_0 ?_
      refine SI3 e208_33 rfl ?_
      refine LA0 e208_34 ?_
      refine Ki e208_35 kiconst_2 ?_
      refine LA0 e208_36 ?_
      refine Gj e208_37 (o152 L) f788 ?_
      rw [show J2 152 20 = oI (feU s) from by rw [hk2 20 (by decide)]; exact e3]
      refine LA0 e208_40 ?_
      refine Gj e208_41 (o152 L) f789 ?_
      rw [show J2 152 21 = oI (feV s) from by rw [hk2 21 (by decide)]; exact e4]
      refine Cv3 e208_44 c208_186 (o152 L) (Nat.le_of_ble_eq_true rfl) (Nat.le_of_ble_eq_true rfl) ((m_chgAt (u := feU s) (v := feV s) hR (by decide) hMg2)) ?_
      refine SI4 e208_47 rfl ?_
      refine LA0 e208_49 ?_
      refine Ki e208_50 kiconst_1 ?_
      refine LI2 e208_51 ?_
      refine Ki e208_52 kiconst_0 ?_
      refine Cv3p e208_53 c208_196 (o152 L) (Nat.le_of_ble_eq_true rfl) (Nat.le_of_ble_eq_true rfl) (m_fences (t := 0) hR (by decide) (hMq.fr0 rfl (fun y g1 g2 => by rw [hF2 y (by omega), hF1 y (by omega)]) (by decide)) (by decide) hf) ?_
      rintro _ I3 J3 R3 ⟨rfl, hR3, hF3, hG3, hD⟩
      have hR3 := hR3.symm
      subst hR3
      have hJ3 : ∀ y, y ≠ 152 → J3 y = J y := fun y hy => by rw [hF3 y hy, hF2 y hy, hF1 y hy]
      rcases hD with ⟨z, hz, hFIz, hI3, g1, g2, g3, g4⟩ | ⟨hz, hI3⟩
      · have hI3 := hI3.symm
        subst hI3
        have hz3 : FnM J3 z := ⟨g1, g2, g3, g4⟩
        have bz := tA_le lg (feU z) (feV z)
        refine LA0 e208_56 ?_
        refine Gi e208_57 (o152 L) (amGi_of f777 (by decide)) ?_
        rw [hf]
        refine B_eq e208_60 t208_60 (fun _ => ?_) (fun q => absurd (rfl) q)
        refine LI3 e208_65 ?_
        refine B_eq e208_66 t208_66 (fun _ => ?_) (fun q => absurd (rfl) q)
        refine Ki e208_99 kiconst_0 ?_
        exact Rz e208_100 rt208 (by decide) (by
        have ed : bI (decide (alK lg s z)) = 0 := by
          rw [decide_eq_false (fun x : alK lg s z => by
            first
              | exact x.1 (hno s (hnn s (Or.inl hs)) h25)
              | exact x.2.1 (hno z (hnn z (Or.inr hz)) h74)
              | exact h92 x.2.2)]
          rfl
        exact ⟨rfl, hJ3, Or.inl ⟨s, z, hs, hz, rfl, by rw [ed]⟩⟩)
      · have hI3 := hI3.symm
        subst hI3
        refine LA0 e208_56 ?_
        refine Gi e208_57 (o152 L) (amGi_of f777 (by decide)) ?_
        rw [amU_same]
        refine B_eq e208_60 t208_60 (fun q => absurd q (by decide)) (fun _ => ?_)
        refine Ki e208_63 kiconst_0 ?_
        exact Rz e208_64 rt208 (by decide) (⟨rfl, hJ3, Or.inr ⟨Or.inr hz, rfl, rfl⟩⟩)
    · refine Ki e208_28 kiconst_1 ?_
      refine Go e208_29 t208_29 ?_
      refine SI3 e208_33 rfl ?_
      refine LA0 e208_34 ?_
      refine Ki e208_35 kiconst_2 ?_
      refine LA0 e208_36 ?_
      refine Gj e208_37 (o152 L) f788 ?_
      rw [show J2 152 20 = oI (feU s) from by rw [hk2 20 (by decide)]; exact e3]
      refine LA0 e208_40 ?_
      refine Gj e208_41 (o152 L) f789 ?_
      rw [show J2 152 21 = oI (feV s) from by rw [hk2 21 (by decide)]; exact e4]
      refine Cv3 e208_44 c208_186 (o152 L) (Nat.le_of_ble_eq_true rfl) (Nat.le_of_ble_eq_true rfl) ((m_chgAt (u := feU s) (v := feV s) hR (by decide) hMg2)) ?_
      refine SI4 e208_47 rfl ?_
      refine LA0 e208_49 ?_
      refine Ki e208_50 kiconst_1 ?_
      refine LI2 e208_51 ?_
      refine Ki e208_52 kiconst_0 ?_
      refine Cv3p e208_53 c208_196 (o152 L) (Nat.le_of_ble_eq_true rfl) (Nat.le_of_ble_eq_true rfl) (m_fences (t := 0) hR (by decide) (hMq.fr0 rfl (fun y g1 g2 => by rw [hF2 y (by omega), hF1 y (by omega)]) (by decide)) (by decide) hf) ?_
      rintro _ I3 J3 R3 ⟨rfl, hR3, hF3, hG3, hD⟩
      have hR3 := hR3.symm
      subst hR3
      have hJ3 : ∀ y, y ≠ 152 → J3 y = J y := fun y hy => by rw [hF3 y hy, hF2 y hy, hF1 y hy]
      rcases hD with ⟨z, hz, hFIz, hI3, g1, g2, g3, g4⟩ | ⟨hz, hI3⟩
      · have hI3 := hI3.symm
        subst hI3
        have hz3 : FnM J3 z := ⟨g1, g2, g3, g4⟩
        have bz := tA_le lg (feU z) (feV z)
        refine LA0 e208_56 ?_
        refine Gi e208_57 (o152 L) (amGi_of f777 (by decide)) ?_
        rw [hf]
        refine B_eq e208_60 t208_60 (fun _ => ?_) (fun q => absurd (rfl) q)
        refine LI3 e208_65 ?_
        refine B_eq e208_66 t208_66 (fun q => absurd q (by decide)) (fun _ => ?_)
        refine LA0 e208_69 ?_
        refine Ki e208_70 kiconst_2 ?_
        refine Cv1 e208_71 c208_199 (o152 L) (Nat.le_of_ble_eq_true rfl) (Nat.le_of_ble_eq_true rfl) ((m_within hR (by decide) (hMg.fr0 rfl (fun y g1 g2 => hJ3 y (by omega)) (by decide)) hz3)) ?_
        refine B_le e208_74 t208_74 (fun h74 => ?_) (fun h74 => ?_)
        · refine Ki e208_99 kiconst_0 ?_
          exact Rz e208_100 rt208 (by decide) (by
          have ed : bI (decide (alK lg s z)) = 0 := by
            rw [decide_eq_false (fun x : alK lg s z => by
              first
                | exact x.1 (hno s (hnn s (Or.inl hs)) h25)
                | exact x.2.1 (hno z (hnn z (Or.inr hz)) h74)
                | exact h92 x.2.2)]
            rfl
          exact ⟨rfl, hJ3, Or.inl ⟨s, z, hs, hz, rfl, by rw [ed]⟩⟩)
        · refine LI4 e208_77 ?_
          refine LA0 e208_79 ?_
          refine Ki e208_80 kiconst_2 ?_
          refine LA0 e208_81 ?_
          refine Gj e208_82 (o152 L) f788 ?_
          rw [g3]
          refine LA0 e208_85 ?_
          refine Gj e208_86 (o152 L) f789 ?_
          rw [g4]
          refine Cv3 e208_89 c208_186 (o152 L) (Nat.le_of_ble_eq_true rfl) (Nat.le_of_ble_eq_true rfl) ((m_chgAt (u := feU z) (v := feV z) hR (by decide) (hMg.fr0 rfl (fun y g1 g2 => hJ3 y (by omega)) (by decide)))) ?_
          refine CN_ne (a := (tA lg (feU s) (feV s))) (b := (tA lg (feU z) (feV z))) e208_92 t208_92 rfl rfl (by omega) (by omega) (fun h92 => ?_) (fun h92 => ?_)
          · refine Ki e208_99 kiconst_0 ?_
            exact Rz e208_100 rt208 (by decide) (by
            have ed : bI (decide (alK lg s z)) = 0 := by
              rw [decide_eq_false (fun x : alK lg s z => by
                first
                  | exact x.1 (hno s (hnn s (Or.inl hs)) h25)
                  | exact x.2.1 (hno z (hnn z (Or.inr hz)) h74)
                  | exact h92 x.2.2)]
              rfl
            exact ⟨rfl, hJ3, Or.inl ⟨s, z, hs, hz, rfl, by rw [ed]⟩⟩)
          · refine Ki e208_95 kiconst_1 ?_
            refine Go e208_96 t208_96 ?_
            exact Rz e208_100 rt208 (by decide) (by
            have ed : bI (decide (alK lg s z)) = 1 := by rw [decide_eq_true (show alK lg s z from ⟨fun x => h25 (by rw [x]; decide), fun x => h74 (by rw [x]; decide), by first | exact h92 | exact Decidable.not_not.mp h92⟩)]; rfl
            exact ⟨rfl, hJ3, Or.inl ⟨s, z, hs, hz, rfl, by rw [ed]⟩⟩)
      · have hI3 := hI3.symm
        subst hI3
        refine LA0 e208_56 ?_
        refine Gi e208_57 (o152 L) (amGi_of f777 (by decide)) ?_
        rw [amU_same]
        refine B_eq e208_60 t208_60 (fun q => absurd q (by decide)) (fun _ => ?_)
        refine Ki e208_63 kiconst_0 ?_
        exact Rz e208_64 rt208 (by decide) (⟨rfl, hJ3, Or.inr ⟨Or.inr hz, rfl, rfl⟩⟩)
  · have hI1 := hI1.symm
    subst hI1
    refine LA0 e208_7 ?_
    refine Gi e208_8 (o152 L) (amGi_of f777 (by decide)) ?_
    rw [amU_same]
    refine B_eq e208_11 t208_11 (fun q => absurd q (by decide)) (fun _ => ?_)
    refine Ki e208_14 kiconst_0 ?_
    exact Rz e208_15 rt208 (by decide) (⟨rfl, hF1, Or.inr ⟨Or.inl hs, rfl, rfl⟩⟩)
set_option maxHeartbeats 2000000 in
theorem m_wh_lp {i k : Int32} {y5 : Int32} (hR : amRok R) (hl1 : l.length ≤ 5) (hl2 : lq.length ≤ 5) : ∀ (f t : Nat) (s z : Fs) (I : amI) (J : amJ), t + f = 10 → (∃ t0, t0 ≤ t ∧ fnc l i t0 = some s) → (∃ t0, t0 ≤ t ∧ fnc lq k t0 = some z) → MI I J 0 l → MI I J 1 lq → I 152 9 = 0 → Ex 209 97 [some (.ref 152), some (.int (nI a)), some (.int i), some (.int (nI b)), some (.int k), some (.int y5), some (.int (nI t))] [] (amSH L) I J R (LgP I J R (orN l lq i k f t s z)) := by
  intro f
  induction f with
  | zero =>
    intro t s z I J ht hs hz hM hMq hf
    have e : t = 10 := by omega
    subst e
    refine LI6 e209_97 ?_
    refine Ki e209_99 kbipush_9 ?_
    refine CN_gt (a := 10) (b := 9) e209_101 t209_101 rfl (by decide) (by omega) (by omega) (fun _ => ?_) (fun q => by omega)
    refine Kd e209_203 kj4 ?_
    exact Rj e209_206 rt209 (⟨rfl, rfl, FlI.rf, fun _ _ => rfl⟩)
  | succ f ih =>
    intro t s z I J ht hs hz hM hMq hf
    obtain ⟨t0, ht0, hs0⟩ := hs
    obtain ⟨t1, ht1, hz0⟩ := hz
    rw [orN, fnc_from (by omega) ht0 hs0, fnc_from (by omega) ht1 hz0]
    refine LI6 e209_97 ?_
    refine Ki e209_99 kbipush_9 ?_
    refine CN_gt (a := t) (b := 9) e209_101 t209_101 rfl (by decide) (by omega) (by omega) (fun q => absurd q (by omega)) (fun _ => ?_)
    refine LA0 e209_104 ?_
    refine Ki e209_105 kiconst_0 ?_
    refine LI2 e209_106 ?_
    refine LI6 e209_107 ?_
    refine Cv3p e209_109 c209_196 (o152 L) (Nat.le_of_ble_eq_true rfl) (Nat.le_of_ble_eq_true rfl) (m_fences (t := t) hR (by decide) hM (by omega) hf) ?_
    rintro _ I1 J1 R1 ⟨rfl, hR1, hF1, hG1, hD⟩
    have hR1 := hR1.symm
    subst hR1
    rcases hD with ⟨s1, hs1, hFI, hI1, e1, e2, e3, e4⟩ | ⟨hs1, hI1⟩
    · have hI1 := hI1.symm
      subst hI1
      rw [hs1]
      dsimp only
      have hFPs := fnc_FP hs1 (by omega)
      refine LA0 e209_112 ?_
      refine Gi e209_113 (o152 L) (amGi_of f777 (by decide)) ?_
      rw [hf]
      refine B_eq e209_116 t209_116 (fun _ => ?_) (fun q => absurd (rfl) q)
      refine LA0 e209_123 ?_
      refine Cv0p e209_124 c209_207 (o152 L) (Nat.le_of_ble_eq_true rfl) (Nat.le_of_ble_eq_true rfl) (m_keeps e1 e2 e3 e4) ?_
      rintro _ I2 J2 R2 ⟨rfl, hI2, hR2, hF2, hk2, k1, k2, k3, k4⟩
      have hI2 := hI2.symm
      subst hI2
      have hR2 := hR2.symm
      subst hR2
      refine LA0 e209_127 ?_
      refine Ki e209_128 kiconst_1 ?_
      refine LI4 e209_129 ?_
      refine LI6 e209_131 ?_
      refine Cv3p e209_133 c209_196 (o152 L) (Nat.le_of_ble_eq_true rfl) (Nat.le_of_ble_eq_true rfl) (m_fences (t := t) hR (by decide) (hMq.fr0 rfl (fun y g1 g2 => by rw [hF2 y (by omega), hF1 y (by omega)]) (by decide)) (by omega) hf) ?_
      rintro _ I3 J3 R3 ⟨rfl, hR3, hF3, hG3, hD⟩
      have hR3 := hR3.symm
      subst hR3
      have hJ3 : ∀ y, y ≠ 152 → J3 y = J y := fun y hy => by rw [hF3 y hy, hF2 y hy, hF1 y hy]
      rcases hD with ⟨z1, hz1, hFIz, hI3, g1, g2, g3, g4⟩ | ⟨hz1, hI3⟩
      · have hI3 := hI3.symm
        subst hI3
        rw [hz1]
        dsimp only
        have hFPz := fnc_FP hz1 (by omega)
        have k1 := (hG3 25 (by decide)).trans k1
        have k2 := (hG3 26 (by decide)).trans k2
        have k3 := (hG3 27 (by decide)).trans k3
        have k4 := (hG3 28 (by decide)).trans k4
        refine LA0 e209_136 ?_
        refine Gi e209_137 (o152 L) (amGi_of f777 (by decide)) ?_
        rw [hf]
        refine B_eq e209_140 t209_140 (fun _ => ?_) (fun q => absurd (rfl) q)
        refine LA0 e209_147 ?_
        refine Gj e209_148 (o152 L) f795 ?_
        rw [k3]
        refine LA0 e209_151 ?_
        refine Gj e209_152 (o152 L) f787 ?_
        rw [g2]
        refine Lmul e209_155 ?_
        rw [oI_mul]
        refine LA0 e209_156 ?_
        refine Gj e209_157 (o152 L) f786 ?_
        rw [g1]
        refine LA0 e209_160 ?_
        refine Gj e209_161 (o152 L) f796 ?_
        rw [k4]
        refine Lmul e209_164 ?_
        rw [oI_mul]
        refine D_gt e209_165 e209_166 t209_166 (fun h165 => ?_) (fun h165 => ?_)
        · rw [if_neg (fun x => absurd ((or_le hFI hFIz hFPs hFPz).mpr x) (by first | exact h165 | exact Int64.not_le.mpr h165))]
          refine LA0 e209_173 ?_
          refine Gj e209_174 (o152 L) f788 ?_
          rw [g3]
          refine LA0 e209_177 ?_
          refine Gj e209_178 (o152 L) f794 ?_
          rw [k2]
          refine Lmul e209_181 ?_
          rw [oI_mul]
          refine LA0 e209_182 ?_
          refine Gj e209_183 (o152 L) f793 ?_
          rw [k1]
          refine LA0 e209_186 ?_
          refine Gj e209_187 (o152 L) f789 ?_
          rw [g4]
          refine Lmul e209_190 ?_
          rw [oI_mul]
          refine D_gt e209_191 e209_192 t209_192 (fun h191 => ?_) (fun h191 => ?_)
          · rw [if_neg (fun x => absurd ((or_le hFIz hFI hFPz hFPs).mpr x) (by first | exact h191 | exact Int64.not_le.mpr h191))]
            refine IncN6 (m := t) e209_197 rfl ?_
            refine Go e209_200 t209_200 ?_
            exact (ih (t + 1) s1 z1 _ J3 (by omega) ⟨t, by omega, hs1⟩ ⟨t, by omega, hz1⟩ (hM.fr0 rfl (fun y g1 g2 => hJ3 y (by omega)) (by decide)) (hMq.fr0 rfl (fun y g1 g2 => hJ3 y (by omega)) (by decide)) hf).mono (fun v I' J' R' hp => hp.tr FlI.rf (fun y hy => hJ3 y (by omega)))
          · rw [if_pos ((or_le hFIz hFI hFPz hFPs).mp (by first | exact h191 | exact Int64.not_lt.mp h191))]
            refine K1 e209_195 ?_
            exact Rj e209_196 rt209 (⟨rfl, rfl, FlI.rf, fun y hy => hJ3 y (by omega)⟩)
        · rw [if_pos ((or_le hFI hFIz hFPs hFPz).mp (by first | exact h165 | exact Int64.not_lt.mp h165))]
          refine Kd e209_169 kj2 ?_
          exact Rj e209_172 rt209 (⟨rfl, rfl, FlI.rf, fun y hy => hJ3 y (by omega)⟩)
      · have hI3 := hI3.symm
        subst hI3
        rw [hz1]
        refine LA0 e209_136 ?_
        refine Gi e209_137 (o152 L) (amGi_of f777 (by decide)) ?_
        rw [amU_same]
        refine B_eq e209_140 t209_140 (fun q => absurd q (by decide)) (fun _ => ?_)
        refine Kd e209_143 kj4 ?_
        exact Rj e209_146 rt209 (⟨rfl, rfl, FlI.rf.up, fun y hy => hJ3 y (by omega)⟩)
    · have hI1 := hI1.symm
      subst hI1
      rw [hs1]
      refine LA0 e209_112 ?_
      refine Gi e209_113 (o152 L) (amGi_of f777 (by decide)) ?_
      rw [amU_same]
      refine B_eq e209_116 t209_116 (fun q => absurd q (by decide)) (fun _ => ?_)
      refine Kd e209_119 kj4 ?_
      exact Rj e209_122 rt209 (⟨rfl, rfl, FlI.rf.up, fun y hy => hF1 y (by omega)⟩)
set_option maxHeartbeats 2000000 in
theorem n_which {p y q x : Int32} (h : MSt I J R σ) : Cl 209 [.ref 152, .int p, .int y, .int q, .int x] (amSH L) I J R (MP I J R σ (.long (sWhich σ.1 p y q x))) := by
  obtain ⟨hR, hPl, -, -, -, -, hO⟩ := id h
  have h8 := hO.1.1
  have hk0 : MK I (amU I 152 9 0) J J := ⟨fun y i a b c => by unfold amU; rw [if_neg (by omega)], fun _ _ => rfl⟩
  have h0 : MSt (amU I 152 9 0) J R σ := h.k hk0
  unfold sWhich
  show Ex 209 0 [some (.ref 152), some (.int p), some (.int y), some (.int q), some (.int x), none, none] [] (amSH L) I J R _
  by_cases hp : inP σ.1 p
  · rw [if_pos hp]
    obtain ⟨k, hk, rfl, ek⟩ := hp.of h8
    rw [ek]
    have hok := hO.1.2 k hk
    have ei : bI (decide (inP σ.1 (nI k))) = 1 := by rw [decide_eq_true hp]; rfl
    by_cases hq : inP σ.1 q
    · rw [if_pos hq]
      obtain ⟨m, hm, rfl, em⟩ := hq.of h8
      have hokm := hO.1.2 m hm
      rw [em]
      have ei2 : bI (decide (inP σ.1 (nI m))) = 1 := by rw [decide_eq_true hq]; rfl
      refine LA0 e209_0 ?_
      refine LI1 e209_1 ?_
      refine Cv1 e209_2 c209_157 (o152 L) (Nat.le_of_ble_eq_true rfl) (Nat.le_of_ble_eq_true rfl) ((m_isPoly h8 hPl.1)) ?_
      rw [ei]
      refine B_eq e209_5 t209_5 (fun q => absurd q (by decide)) (fun _ => ?_)
      refine LA0 e209_8 ?_
      refine LI3 e209_9 ?_
      refine Cv1 e209_10 c209_157 (o152 L) (Nat.le_of_ble_eq_true rfl) (Nat.le_of_ble_eq_true rfl) ((m_isPoly h8 hPl.1)) ?_
      rw [ei2]
      refine B_ne e209_13 t209_13 (fun _ => ?_) (fun q => absurd (by decide) q)
      refine LA0 e209_20 ?_
      refine Cv0p e209_21 c209_189 (o152 L) (Nat.le_of_ble_eq_true rfl) (Nat.le_of_ble_eq_true rfl) (m_opens) ?_
      rintro _ I1 J1 R1 ⟨rfl, hI1, hJ1, hR1⟩
      have hI1 := hI1.symm
      subst hI1
      have hJ1 := hJ1.symm
      subst hJ1
      have hR1 := hR1.symm
      subst hR1
      refine LA0 e209_24 ?_
      refine Ki e209_25 kiconst_0 ?_
      refine LI1 e209_26 ?_
      refine LI2 e209_27 ?_
      refine Cv3p e209_28 c209_197 (o152 L) (Nat.le_of_ble_eq_true rfl) (Nat.le_of_ble_eq_true rfl) (m_isRoot (k := y) h0 (by decide) hk amU_same) ?_
      rintro v2 I2 J2 R2 ⟨hR2, hk2, hoth2, hD⟩
      have hR2 := hR2.symm
      subst hR2
      rcases hD with ⟨l, hll, hf2, hM, rfl⟩ | ⟨hll, hf2, rfl⟩
      · rw [hll]
        dsimp only
        by_cases hh : hasR l y
        · have hl1 := hM.2.2.1
          rw [decide_eq_true hh]
          rw [show bI true = 1 from rfl]
          refine B_eq e209_31 t209_31 (fun q => absurd q (by decide)) (fun _ => ?_)
          refine LA0 e209_34 ?_
          refine Ki e209_35 kiconst_1 ?_
          refine LI3 e209_36 ?_
          refine LI4 e209_37 ?_
          refine Cv3p e209_39 c209_197 (o152 L) (Nat.le_of_ble_eq_true rfl) (Nat.le_of_ble_eq_true rfl) (m_isRoot (B := 1) (k := x) (h0.k hk2) (by decide) hm hf2) ?_
          rintro v3 I3 J3 R3 ⟨hR3, hk3, hoth3, hD⟩
          have hR3 := hR3.symm
          subst hR3
          have hk3a : MK I I3 J J3 := hk0.tr (hk2.tr hk3)
          have hM3 := hoth3 0 (by decide) (by decide) l hM
          rcases hD with ⟨lq, hlq, hf3, hMq, rfl⟩ | ⟨hlq, hf3, rfl⟩
          · rw [hlq]
            dsimp only
            by_cases hx : hasR lq x
            · rw [if_pos ⟨hh, hx⟩]
              have hl2 := hMq.2.2.1
              rw [decide_eq_true hx]
              rw [show bI true = 1 from rfl]
              refine B_ne e209_42 t209_42 (fun _ => ?_) (fun q => absurd (by decide) q)
              refine LA0 e209_49 ?_
              refine Ki e209_50 kiconst_2 ?_
              refine LI1 e209_51 ?_
              refine LI3 e209_52 ?_
              refine Cv3p e209_53 c209_202 (o152 L) (Nat.le_of_ble_eq_true rfl) (Nat.le_of_ble_eq_true rfl) (m_commonOf (B := 2) (p := k) (r := m) (h.k hk3a) (by decide) hk hm hf3) ?_
              rintro _ I4 J4 R4 ⟨rfl, hR4, hk4, hJ4, hoth4, hD⟩
              have hR4 := hR4.symm
              subst hR4
              unfold cmc at hD
              have hk4a : MK I I4 J J4 := hk3a.tr hk4
              have hM4 := hoth4 0 (by decide) (by decide) l hM3
              have hMq4 := hoth4 1 (by decide) (by decide) lq hMq
              rcases hD with ⟨lg, hlg, hf4, hMg⟩ | ⟨hlg, hf4⟩
              · obtain ⟨g, hc, hlg⟩ : ∃ g, com (σ.1.getD k zP) (σ.1.getD m zP) = some g ∧ chn g = some lg := by
                  cases hc : com (σ.1.getD k zP) (σ.1.getD m zP) with
                  | none => rw [hc] at hlg; cases hlg
                  | some g =>
                    rw [hc] at hlg
                    exact ⟨g, rfl, hlg⟩
                rw [hc]
                dsimp only
                rw [hlg]
                dsimp only
                have hgz := com_sz hc hok.2.1 hok.2.2 hokm.2.1 hokm.2.2
                have hl3 := hMg.2.2.1
                refine LA0 e209_56 ?_
                refine Gi e209_57 (o152 L) (amGi_of f777 (by decide)) ?_
                rw [hf4]
                refine B_eq e209_60 t209_60 (fun _ => ?_) (fun q => absurd (rfl) q)
                refine LA0 e209_67 ?_
                refine LI2 e209_68 ?_
                refine LI4 e209_69 ?_
                refine Cv2p e209_71 c209_208 (o152 L) (Nat.le_of_ble_eq_true rfl) (Nat.le_of_ble_eq_true rfl) (m_areAlike (i := y) (k := x) hR hM4 hMq4 hMg hf4 (fun s hs => by
                  rcases hs with hs | hs
                  · exact fHo_nn hlg hgz.1 hgz.2 (by omega) (fnc_FI hs (by omega)) (fnc_FP hs (by omega))
                  · exact fHo_nn hlg hgz.1 hgz.2 (by omega) (fnc_FI hs (by omega)) (fnc_FP hs (by omega)))) ?_
                rintro v5 I5 J5 R5 ⟨hR5, hJ5, hD⟩
                have hR5 := hR5.symm
                subst hR5
                rcases hD with ⟨s, z, hs, hz, hI5, rfl⟩ | ⟨hn, hI5, rfl⟩
                · have hI5 := hI5.symm
                  subst hI5
                  rw [hs]
                  dsimp only
                  rw [hz]
                  dsimp only
                  have hk5 : MK I _ J J5 := hk4a.tr ⟨fun _ _ _ _ _ => rfl, fun y hy => hJ5 y (by omega)⟩
                  by_cases hal : alK lg s z
                  · rw [if_pos hal]
                    refine SI5 e209_74 rfl ?_
                    refine LA0 e209_76 ?_
                    refine Gi e209_77 (o152 L) (amGi_of f777 (by decide)) ?_
                    rw [hf4]
                    refine B_eq e209_80 t209_80 (fun _ => ?_) (fun q => absurd (rfl) q)
                    refine LI5 e209_87 ?_
                    rw [decide_eq_true hal]
                    rw [show bI true = 1 from rfl]
                    refine B_eq e209_89 t209_89 (fun q => absurd q (by decide)) (fun _ => ?_)
                    refine K0 e209_92 ?_
                    exact Rj e209_93 rt209 (MP.k h hk5)
                  · rw [if_neg hal]
                    refine SI5 e209_74 rfl ?_
                    refine LA0 e209_76 ?_
                    refine Gi e209_77 (o152 L) (amGi_of f777 (by decide)) ?_
                    rw [hf4]
                    refine B_eq e209_80 t209_80 (fun _ => ?_) (fun q => absurd (rfl) q)
                    refine LI5 e209_87 ?_
                    rw [decide_eq_false hal]
                    rw [show bI false = 0 from rfl]
                    refine B_eq e209_89 t209_89 (fun _ => ?_) (fun q => absurd (rfl) q)
                    refine Ki e209_94 kiconst_0 ?_
                    refine SI6 e209_95 rfl ?_
                    exact (m_wh_lp hR hl1 hl2 10 0 s z _ J5 (by omega) ⟨0, by omega, hs⟩ ⟨0, by omega, hz⟩ (hM4.fr0 rfl (fun y g1 g2 => hJ5 y (by omega)) (by decide)) (hMq4.fr0 rfl (fun y g1 g2 => hJ5 y (by omega)) (by decide)) hf4).mono (fun v I' J' R' hp => lg_fin h hk5 hp)
                · have hI5 := hI5.symm
                  subst hI5
                  refine SI5 e209_74 rfl ?_
                  refine LA0 e209_76 ?_
                  refine Gi e209_77 (o152 L) (amGi_of f777 (by decide)) ?_
                  rw [amU_same]
                  refine B_eq e209_80 t209_80 (fun q => absurd q (by decide)) (fun _ => ?_)
                  refine Kd e209_83 kj4 ?_
                  exact Rj e209_86 rt209 (by
                  have hfin : MP I J R σ (.long NOv) (some (.long NOv)) (amU I4 152 9 1) J5 R := MP.k h (hk4a.tr ⟨fun y i a b c => by unfold amU; rw [if_neg (by omega)], fun y hy => hJ5 y (by omega)⟩)
                  rcases hn with hn | hn
                  · rw [hn]
                    exact hfin
                  · cases fnc l y 0 with
                    | none => exact hfin
                    | some s =>
                      dsimp only
                      rw [hn]
                      exact hfin)
              · skip
                refine LA0 e209_56 ?_
                refine Gi e209_57 (o152 L) (amGi_of f777 (by decide)) ?_
                rw [hf4]
                refine B_eq e209_60 t209_60 (fun q => absurd q (by decide)) (fun _ => ?_)
                refine Kd e209_63 kj4 ?_
                exact Rj e209_66 rt209 (by
                cases fnc l y 0 with
                | none => exact MP.k h hk4a
                | some s =>
                  dsimp only
                  cases fnc lq x 0 with
                  | none => exact MP.k h hk4a
                  | some z =>
                    dsimp only
                    cases hc : com (σ.1.getD k zP) (σ.1.getD m zP) with
                    | none => exact MP.k h hk4a
                    | some g =>
                      rw [hc] at hlg
                      dsimp only at hlg ⊢
                      rw [hlg]
                      exact MP.k h hk4a)
            · rw [if_neg (fun z => hx z.2)]
              rw [decide_eq_false hx]
              rw [show bI false = 0 from rfl]
              refine B_ne e209_42 t209_42 (fun q => absurd q ((fun z => z rfl))) (fun _ => ?_)
              refine Kd e209_45 kj4 ?_
              exact Rj e209_48 rt209 (MP.k h hk3a)
          · rw [hlq]
            refine B_ne e209_42 t209_42 (fun q => absurd q ((fun z => z rfl))) (fun _ => ?_)
            refine Kd e209_45 kj4 ?_
            exact Rj e209_48 rt209 (MP.k h hk3a)
        · have hh2 := hh
          rw [decide_eq_false hh]
          rw [show bI false = 0 from rfl]
          refine B_eq e209_31 t209_31 (fun _ => ?_) (fun q => absurd (rfl) q)
          refine Kd e209_45 kj4 ?_
          exact Rj e209_48 rt209 (by
          cases chn (σ.1.getD m zP) with
          | none => exact MP.k h (hk0.tr hk2)
          | some lq =>
            dsimp only
            rw [if_neg (fun z => hh z.1)]
            exact MP.k h (hk0.tr hk2))
      · rw [hll]
        refine B_eq e209_31 t209_31 (fun _ => ?_) (fun q => absurd (rfl) q)
        refine Kd e209_45 kj4 ?_
        exact Rj e209_48 rt209 (MP.k h (hk0.tr hk2))
    · rw [if_neg hq]
      refine LA0 e209_0 ?_
      refine LI1 e209_1 ?_
      refine Cv1 e209_2 c209_157 (o152 L) (Nat.le_of_ble_eq_true rfl) (Nat.le_of_ble_eq_true rfl) ((m_isPoly h8 hPl.1)) ?_
      rw [ei]
      refine B_eq e209_5 t209_5 (fun q => absurd q (by decide)) (fun _ => ?_)
      refine LA0 e209_8 ?_
      refine LI3 e209_9 ?_
      refine Cv1 e209_10 c209_157 (o152 L) (Nat.le_of_ble_eq_true rfl) (Nat.le_of_ble_eq_true rfl) ((m_isPoly h8 hPl.1)) ?_
      rw [show bI (decide (inP σ.1 q)) = 0 from by rw [decide_eq_false hq]; rfl]
      refine B_ne e209_13 t209_13 (fun q => absurd q ((fun z => z rfl))) (fun _ => ?_)
      refine Kd e209_16 kj4 ?_
      exact Rj e209_19 rt209 (MP.rf h)
  · rw [if_neg hp]
    refine LA0 e209_0 ?_
    refine LI1 e209_1 ?_
    refine Cv1 e209_2 c209_157 (o152 L) (Nat.le_of_ble_eq_true rfl) (Nat.le_of_ble_eq_true rfl) ((m_isPoly h8 hPl.1)) ?_
    rw [show bI (decide (inP σ.1 p)) = 0 from by rw [decide_eq_false hp]; rfl]
    refine B_eq e209_5 t209_5 (fun _ => ?_) (fun q => absurd (rfl) q)
    refine Kd e209_16 kj4 ?_
    exact Rj e209_19 rt209 (MP.rf h)
end REF25
