/-! the reference: partsOf (printed by wip/whole/t99.py) -/
theorem prow {R : amR} (hR : amRok R) : ∀ k, k < 6 → R 190 k = some (191 + k) := fun k hk => by
  have key : ∀ k, k < 6 → amRT 190 k = some (191 + k) := by decide
  exact hR 190 k _ (key k hk)
theorem pro {L : Nat} : ∀ k, k < 6 → amA (amSH L) (191 + k) 1 9 := fun k hk => by
  have key : ∀ k, k < 6 → amKl.getD (190 + k) (.inr (9, 0)) = .inr (1, 9) := by decide
  refine ⟨by omega, by show 191 + k ≤ 202; omega, ?_⟩
  have e : 191 + k = (190 + k) + 1 := by omega
  show amKK L (191 + k) = _
  rw [e]
  exact key k hk
/-- the rows hold the D -/
def PD (J : amJ) (ds : List Po) : Prop := ∀ k, k < ds.length → JP J (191 + k) (ds.getD k zP)
def DOk (ds : List Po) : Prop := ∀ k, k < ds.length → PB 1000000 (ds.getD k zP) ∧ 0 < sz (ds.getD k zP) ∧ sz (ds.getD k zP) ≤ 5
theorem PD.snoc {J J' : amJ} {ds : List Po} {g : Po} (h : PD J ds) (hF : ∀ y, 191 ≤ y → y < 191 + ds.length → J' y = J y) (hg : JP J' (191 + ds.length) g) : PD J' (ds ++ [g]) := fun k hk => by
  rw [List.length_append, List.length_singleton] at hk
  by_cases e : k = ds.length
  · subst e
    rw [gd_r]
    exact hg
  · rw [gd_l (by omega)]
    intro i hi
    rw [hF _ (by omega) (by omega)]
    exact h k (by omega) i hi
theorem DOk.snoc {ds : List Po} {g : Po} (h : DOk ds) (hg : PB 1000000 g ∧ 0 < sz g ∧ sz g ≤ 5) : DOk (ds ++ [g]) := fun k hk => by
  rw [List.length_append, List.length_singleton] at hk
  by_cases e : k = ds.length
  · subst e
    rw [gd_r]
    exact hg
  · rw [gd_l (by omega)]
    exact h k (by omega)
/-- what the loop over the D may change -/
def FrD (J J' : amJ) : Prop := ∀ y, y < 152 → J' y = J y
theorem spN_step {d : Po} {n : Nat} (h : 0 < sz d) (h1 : sz d = 1) : spN (n + 1) d = (spN n oneP).map (oneP :: ·) := by
  rw [spN, if_pos (by rw [der_szz h, h1])]
theorem spN_step2 {d g : Po} {n : Nat} (h : 1 < sz d) (hg : com d (der d) = some g) : spN (n + 1) d = (spN n g).map (g :: ·) := by
  rw [spN, if_neg (by rw [der_szz (by omega)]; omega), hg]
theorem spN_none {d : Po} {n : Nat} (h : 1 < sz d) (hg : com d (der d) = none) : spN (n + 1) d = none := by
  rw [spN, if_neg (by rw [der_szz (by omega)]; omega), hg]
/-- PART m as the reference makes it -/
noncomputable def ptF (p : Po) (m : Nat) : Option Po := match spN (m + 1) (up (cln p)) with
  | none => none
  | some t => pfm ([up (cln p)] ++ t) m
section REF33
variable {L : Nat} {I : amI} {J : amJ} {R : amR} {Q : amQ} {σ : PS} {p : Po} {ds : List Po} {m : Nat}
set_option maxHeartbeats 2000000 in
theorem m_pt_lp (hR : amRok R) (hm4 : m ≤ 4) : ∀ (n i : Nat) (ds : List Po) (I : amI) (J : amJ), i + n = m + 2 → 1 ≤ i → ds.length = i → PD J ds → DOk ds → I 152 9 = 0 → (∀ I' J', FlI I I' → FrD J J' → I' 152 9 = 1 → (spN n (ds.getD (i - 1) zP)) = none → Q none I' J' R) → (∀ t I' J', (spN n (ds.getD (i - 1) zP)) = some t → FlI I I' → FrD J J' → I' 152 9 = 0 → PD J' (ds ++ t) → DOk (ds ++ t) → Ex 217 127 [some (.ref 152), some (.int (nI m)), some (.int (nI (m + 2)))] [] (amSH L) I' J' R Q) → Ex 217 34 [some (.ref 152), some (.int (nI m)), some (.int (nI i))] [] (amSH L) I J R Q := by
  intro n
  induction n with
  | zero =>
    intro i ds I J hi h1 hl hP hO hf _ hQ
    have e : i = m + 2 := by omega
    subst e
    refine LI2 e217_34 ?_
    refine LI1 e217_35 ?_
    refine Ki e217_36 kiconst_1 ?_
    refine IaddN (a := m) (b := 1) e217_37 rfl (by decide) ?_
    refine CN_gt (a := (m + 2)) (b := (m + 1)) e217_38 t217_38 rfl rfl (by omega) (by omega) (fun _ => ?_) (fun q => by omega)
    refine hQ [] _ _ rfl FlI.rf (fun _ _ => rfl) hf ?_ ?_
    · rw [List.append_nil]
      exact hP
    · rw [List.append_nil]
      exact hO
  | succ n ih =>
    intro i ds I J hi h1 hl hP hO hf hQ0 hQ1
    have hd := hP (i - 1) (by omega)
    have hdo := hO (i - 1) (by omega)
    generalize hdd : ds.getD (i - 1) zP = d at *
    have ha : amA (amSH L) (191 + (i - 1)) 1 9 := pro _ (by omega)
    have hb : amA (amSH L) (191 + i) 1 9 := pro _ (by omega)
    have hlast : ∀ g, (ds ++ [g]).getD (i + 1 - 1) zP = g := fun g => by rw [Nat.add_sub_cancel, ← hl]; exact gd_r
    have hdB : PB 4000000000000000000 d := hdo.1.mono (by decide)
    by_cases e1 : sz d = 1
    · rw [spN_step hdo.2.1 e1] at hQ0 hQ1
      refine LI2 e217_34 ?_
      refine LI1 e217_35 ?_
      refine Ki e217_36 kiconst_1 ?_
      refine IaddN (a := m) (b := 1) e217_37 rfl (by decide) ?_
      refine CN_gt (a := i) (b := (m + 1)) e217_38 t217_38 rfl rfl (by omega) (by omega) (fun q => absurd q (by omega)) (fun _ => ?_)
      refine LA0 e217_41 ?_
      refine Gr e217_42 (o152 L) (hR 152 32 190 rfl) f800 ?_
      refine LI2 e217_45 ?_
      refine Ki e217_46 kiconst_1 ?_
      refine IsubN (a := i) (b := 1) e217_47 rfl (by decide) (by omega) ?_
      refine ArN (k := (i - 1)) e217_48 (o190 L) (by decide) rfl (by omega) (by decide) (prow hR (i - 1) (by omega)) ?_
      refine Cs1 e217_49 c217_173 (Nat.le_of_ble_eq_true rfl) (Nat.le_of_ble_eq_true rfl) ((m_degree ha hd hdB)) ?_
      rw [e1]
      rw [show dI 1 = 0 from rfl]
      refine B_ne e217_52 t217_52 (fun q => absurd q (fun z => z rfl)) (fun _ => ?_)
      refine LA0 e217_55 ?_
      refine Gr e217_56 (o152 L) (hR 152 32 190 rfl) f800 ?_
      refine LI2 e217_59 ?_
      refine ArN (k := i) e217_60 (o190 L) (by decide) rfl (by omega) (by decide) (prow hR i (by omega)) ?_
      refine Cs1p e217_61 c217_171 (Nat.le_of_ble_eq_true rfl) (Nat.le_of_ble_eq_true rfl) (m_empties hb) ?_
      rintro _ I1 J1 R1 ⟨rfl, hI1, hR1, hF1, hP1⟩
      have hI1 := hI1.symm
      subst hI1
      have hR1 := hR1.symm
      subst hR1
      refine LA0 e217_64 ?_
      refine Gr e217_65 (o152 L) (hR 152 32 190 rfl) f800 ?_
      refine LI2 e217_68 ?_
      refine ArN (k := i) e217_69 (o190 L) (by decide) rfl (by omega) (by decide) (prow hR i (by omega)) ?_
      refine Ki e217_70 kiconst_0 ?_
      refine K1 e217_71 ?_
      refine WjN (k := 0) e217_72 hb (by decide) (by omega) (by decide) ?_
      refine Go e217_73 t217_73 ?_
      refine IncN2 (m := i) e217_121 rfl ?_
      refine Go e217_124 t217_124 ?_
      have hP2 : JP (amU J1 (191 + i) 0 1) (191 + i) oneP := (JP.st (v := 1) hP1).cg (fun k _ => by
        unfold pU oneP
        rfl)
      have hF2 : Fr J (amU J1 (191 + i) 0 1) (191 + i) := Fr.up hF1
      refine ih (i + 1) (ds ++ [oneP]) I _ (by omega) (by omega) (by rw [List.length_append, List.length_singleton, hl]) (hP.snoc (fun y g1 g2 => hF2 y (by omega)) (by rw [hl]; exact hP2)) (hO.snoc ⟨one_PB, by rw [one_sz]; decide, by rw [one_sz]; decide⟩) hf ?_ ?_
      · intro I' J' g1 g2 g3 g4
        rw [hlast] at g4
        exact hQ0 I' J' g1 (fun y hy => (g2 y hy).trans (hF2 y (by omega))) g3 (by rw [g4]; rfl)
      · intro t I' J' g4 g1 g2 g3 g5 g6
        rw [hlast] at g4
        rw [List.append_assoc] at g5 g6
        exact hQ1 (oneP :: t) I' J' (by rw [g4]; rfl) g1 (fun y hy => (g2 y hy).trans (hF2 y (by omega))) g3 g5 g6
    · have hz : 1 < sz d := by omega
      have hne : ¬ dI (sz d) = 0 := fun z => by
        have := congrArg Int32.toInt z
        rw [dI_toInt (by omega), show (0 : Int32).toInt = 0 from rfl] at this
        omega
      have hdz := der_szz hdo.2.1
      refine LI2 e217_34 ?_
      refine LI1 e217_35 ?_
      refine Ki e217_36 kiconst_1 ?_
      refine IaddN (a := m) (b := 1) e217_37 rfl (by decide) ?_
      refine CN_gt (a := i) (b := (m + 1)) e217_38 t217_38 rfl rfl (by omega) (by omega) (fun q => absurd q (by omega)) (fun _ => ?_)
      refine LA0 e217_41 ?_
      refine Gr e217_42 (o152 L) (hR 152 32 190 rfl) f800 ?_
      refine LI2 e217_45 ?_
      refine Ki e217_46 kiconst_1 ?_
      refine IsubN (a := i) (b := 1) e217_47 rfl (by decide) (by omega) ?_
      refine ArN (k := (i - 1)) e217_48 (o190 L) (by decide) rfl (by omega) (by decide) (prow hR (i - 1) (by omega)) ?_
      refine Cs1 e217_49 c217_173 (Nat.le_of_ble_eq_true rfl) (Nat.le_of_ble_eq_true rfl) ((m_degree ha hd hdB)) ?_
      refine B_ne e217_52 t217_52 (fun _ => ?_) (fun q => absurd (hne) q)
      refine LA0 e217_76 ?_
      refine Gr e217_77 (o152 L) (hR 152 32 190 rfl) f800 ?_
      refine LI2 e217_80 ?_
      refine Ki e217_81 kiconst_1 ?_
      refine IsubN (a := i) (b := 1) e217_82 rfl (by decide) (by omega) ?_
      refine ArN (k := (i - 1)) e217_83 (o190 L) (by decide) rfl (by omega) (by decide) (prow hR (i - 1) (by omega)) ?_
      refine LA0 e217_84 ?_
      refine Gr e217_85 (o152 L) (hR 152 23 186 rfl) f791 ?_
      refine Cs2p e217_88 c217_178 (Nat.le_of_ble_eq_true rfl) (Nat.le_of_ble_eq_true rfl) (m_derives (o186 L) ha (by omega) hd) ?_
      rintro _ I1 J1 R1 ⟨rfl, hI1, hR1, hF1, hP1⟩
      have hI1 := hI1.symm
      subst hI1
      have hR1 := hR1.symm
      subst hR1
      have hd1 : JP J1 (191 + (i - 1)) d := hd.fr hF1 (by omega)
      refine LA0 e217_91 ?_
      refine LA0 e217_92 ?_
      refine Gr e217_93 (o152 L) (hR 152 32 190 rfl) f800 ?_
      refine LI2 e217_96 ?_
      refine Ki e217_97 kiconst_1 ?_
      refine IsubN (a := i) (b := 1) e217_98 rfl (by decide) (by omega) ?_
      refine ArN (k := (i - 1)) e217_99 (o190 L) (by decide) rfl (by omega) (by decide) (prow hR (i - 1) (by omega)) ?_
      refine LA0 e217_100 ?_
      refine Gr e217_101 (o152 L) (hR 152 23 186 rfl) f791 ?_
      refine LA0 e217_104 ?_
      refine Gr e217_105 (o152 L) (hR 152 32 190 rfl) f800 ?_
      refine LI2 e217_108 ?_
      refine ArN (k := i) e217_109 (o190 L) (by decide) rfl (by omega) (by decide) (prow hR i (by omega)) ?_
      refine Cv3p e217_110 c217_180 (o152 L) (Nat.le_of_ble_eq_true rfl) (Nat.le_of_ble_eq_true rfl) (m_common hR ha (o186 L) hb ⟨by omega, by omega⟩ ⟨by decide, by decide⟩ ⟨by omega, by omega, by omega⟩ hd1 hP1 hdB ((der_PB hdo.1).mono (by decide)) hf) ?_
      rintro _ I2 J2 R2 ⟨rfl, hR2, hG2, hL2, hD⟩
      have hR2 := hR2.symm
      subst hR2
      have hFd : FrD J J2 := fun y hy => by rw [hL2 y (by simp; omega), hF1 y (by omega)]
      rcases hD with ⟨g, hc, hf2, hP2⟩ | ⟨hc, hf2⟩
      · have hc0 := hc
        refine LA0 e217_113 ?_
        refine Gi e217_114 (o152 L) (amGi_of f777 (by decide)) ?_
        rw [hf2]
        refine B_eq e217_117 t217_117 (fun _ => ?_) (fun q => absurd (rfl) q)
        refine IncN2 (m := i) e217_121 rfl ?_
        refine Go e217_124 t217_124 ?_
        have hg9 := com_le hc (by omega)
        refine ih (i + 1) (ds ++ [g]) I2 J2 (by omega) (by omega) (by rw [List.length_append, List.length_singleton, hl]) (hP.snoc (fun y g1 g2 => by rw [hL2 y (by simp; omega), hF1 y (by omega)]) (by rw [hl]; exact hP2)) (hO.snoc ⟨com_PB hc, hg9.1, by omega⟩) hf2 ?_ ?_
        · intro I' J' g1 g2 g3 g4
          rw [hlast] at g4
          exact hQ0 I' J' (hG2.tr g1) (fun y hy => (g2 y hy).trans (hFd y hy)) g3 (by rw [spN_step2 hz hc, g4]; rfl)
        · intro t I' J' g4 g1 g2 g3 g5 g6
          rw [hlast] at g4
          rw [List.append_assoc] at g5 g6
          exact hQ1 (g :: t) I' J' (by rw [spN_step2 hz hc, g4]; rfl) (hG2.tr g1) (fun y hy => (g2 y hy).trans (hFd y hy)) g3 g5 g6
      · have hc0 := hc
        refine LA0 e217_113 ?_
        refine Gi e217_114 (o152 L) (amGi_of f777 (by decide)) ?_
        rw [hf2]
        refine B_eq e217_117 t217_117 (fun q => absurd q (by decide)) (fun _ => ?_)
        exact Rvd e217_120 rt217 (hQ0 I2 J2 hG2 hFd hf2 (spN_none hz hc))
/-- what partsOf leaves: a mark, or what was made -/
theorem pfm_no {l : List Po} {m : Nat} (h : ¬ (fit (quo (l.getD (m - 1) zP) (l.getD m zP)) = true ∧ fit (quo (l.getD m zP) (l.getD (m + 1) zP)) = true)) : pfm l m = none := by
  unfold pfm
  rw [if_neg h]
set_option maxHeartbeats 2000000 in
theorem m_partsOf (hR : amRok R) (hm1 : 1 ≤ m) (hm4 : m ≤ 4) (hp : JP J 157 p) (hpk : Pok p) (hok : ∀ t, spN (m + 1) (up (cln p)) = some t → PfOk ([up (cln p)] ++ t) m) (hf : I 152 9 = 0) : Cl 217 [.ref 152, .int (nI m)] (amSH L) I J R (fun v I' J' R' => v = none ∧ R' = R ∧ MmP I J (ptF p m) I' J') := by
  have hft : fit p = true := fitN_iff.mpr (fun k hk => cln_PB hpk.b6 k hk)
  show Ex 217 0 [some (.ref 152), some (.int (nI m)), none] [] (amSH L) I J R _
  refine LA0 e217_0 ?_
  refine Gr e217_1 (o152 L) (hR 152 7 157 rfl) f775 ?_
  refine LA0 e217_4 ?_
  refine Gr e217_5 (o152 L) (hR 152 32 190 rfl) f800 ?_
  refine Ki e217_8 kiconst_0 ?_
  refine ArN (k := 0) e217_9 (o190 L) (by decide) (by decide) (by omega) (by decide) (hR 190 0 191 rfl) ?_
  refine Cs2p e217_10 c217_172 (Nat.le_of_ble_eq_true rfl) (Nat.le_of_ble_eq_true rfl) (m_copies (o191 L) (o157 L) (by decide) hp) ?_
  rintro _ I1 J1 R1 ⟨rfl, hI1, hR1, hF1, hP1⟩
  have hI1 := hI1.symm
  subst hI1
  have hR1 := hR1.symm
  subst hR1
  refine LA0 e217_13 ?_
  refine LA0 e217_14 ?_
  refine Gr e217_15 (o152 L) (hR 152 32 190 rfl) f800 ?_
  refine Ki e217_18 kiconst_0 ?_
  refine ArN (k := 0) e217_19 (o190 L) (by decide) (by decide) (by omega) (by decide) (hR 190 0 191 rfl) ?_
  refine Cv1p e217_20 c217_175 (o152 L) (Nat.le_of_ble_eq_true rfl) (Nat.le_of_ble_eq_true rfl) (m_cleans (f := false) (o191 L) hP1 hpk.b hf) ?_
  rintro _ I2 J2 R2 ⟨rfl, hR2, hG2, hf2, hF2, hP2⟩
  have hR2 := hR2.symm
  subst hR2
  rw [Bool.false_or, hft] at hf2
  have hf2 : I2 152 9 = 0 := hf2
  refine LA0 e217_23 ?_
  refine Gr e217_24 (o152 L) (hR 152 32 190 rfl) f800 ?_
  refine Ki e217_27 kiconst_0 ?_
  refine ArN (k := 0) e217_28 (o190 L) (by decide) (by decide) (by omega) (by decide) (hR 190 0 191 rfl) ?_
  refine Cs1p e217_29 c217_177 (Nat.le_of_ble_eq_true rfl) (Nat.le_of_ble_eq_true rfl) (m_raises (o191 L) hP2 (cln_PB hpk.b)) ?_
  rintro _ I3 J3 R3 ⟨rfl, hI3, hR3, hF3, hP3⟩
  have hI3 := hI3.symm
  subst hI3
  have hR3 := hR3.symm
  subst hR3
  refine Ki e217_32 kiconst_1 ?_
  refine SI2 e217_33 rfl ?_
  have h0B : PB 1000000 (up (cln p)) := up_PB (cln_PB hpk.b6)
  have h0z : sz (up (cln p)) = sz p := by rw [up_szz, cln_szz]
  have hpz := hpk.2
  have hFd3 : FrD J J3 := fun y hy => by rw [hF3 y (by omega), hF2 y (by omega), hF1 y (by omega)]
  refine m_pt_lp hR hm4 (m + 1) 1 [up (cln p)] I2 J3 (by omega) (Nat.le_refl _) rfl (fun k hk => ?_) (fun k hk => ?_) hf2 ?_ ?_
  · have hk1 : k < 1 := hk
    have e : k = 0 := by omega
    subst e
    exact hP3
  · have hk1 : k < 1 := hk
    have e : k = 0 := by omega
    subst e
    exact ⟨h0B, by show 0 < sz (up (cln p)); omega, by show sz (up (cln p)) ≤ 5; omega⟩
  · intro I' J' g1 g2 g3 g4
    have g4 : spN (m + 1) (up (cln p)) = none := g4
    refine ⟨rfl, rfl, hG2.tr g1, fun y hy => (g2 y hy).trans (hFd3 y hy), Or.inr ⟨?_, g3⟩⟩
    unfold ptF
    rw [g4]
  · intro t I4 J4 g4 hG4 g2 hf4 hPD hDO
    have g4 : spN (m + 1) (up (cln p)) = some t := g4
    have hpt : ptF p m = pfm ([up (cln p)] ++ t) m := by
      unfold ptF
      rw [g4]
    have hG4 := hG2.tr hG4
    have hFd : FrD J J4 := fun y hy => (g2 y hy).trans (hFd3 y hy)
    have hlt := spN_len g4
    have hln : ([up (cln p)] ++ t).length = m + 2 := by rw [List.length_append, hlt, List.length_singleton]; omega
    have hpf := hok t g4
    generalize hds : [up (cln p)] ++ t = D at *
    have hA := hPD (m - 1) (by omega)
    have hB := hPD m (by omega)
    have hC := hPD (m + 1) (by omega)
    have hAo := hDO (m - 1) (by omega)
    have hBo := hDO m (by omega)
    have hCo := hDO (m + 1) (by omega)
    obtain ⟨⟨hzb, hs1⟩, ⟨hzc, hs2⟩, hok3⟩ := hpf
    have hd1 := quo_dv hs1
    have hd2 := quo_dv hs2
    generalize hs_1 : quo (D.getD (m - 1) zP) (D.getD m zP) = s1 at *
    generalize hs_2 : quo (D.getD m zP) (D.getD (m + 1) zP) = s2 at *
    generalize hDa : D.getD (m - 1) zP = a at *
    generalize hDb : D.getD m zP = b at *
    generalize hDc : D.getD (m + 1) zP = c at *
    have hzs2 : 0 < sz s2 := by
      rcases Nat.eq_zero_or_pos (sz s2) with z | z
      · have := (dv_sz hd2 (l := sz c - 1) (by omega)).1 z
        omega
      · exact z
    have haB : PB 4000000000000000000 a := hAo.1.mono (by decide)
    have hbB : PB 4000000000000000000 b := hBo.1.mono (by decide)
    have hcB : PB 4000000000000000000 c := hCo.1.mono (by decide)
    have ha : amA (amSH L) (191 + (m - 1)) 1 9 := pro _ (by omega)
    have hb : amA (amSH L) (191 + m) 1 9 := pro _ (by omega)
    have hc : amA (amSH L) (191 + (m + 1)) 1 9 := pro _ (by omega)
    refine LA0 e217_127 ?_
    refine LA0 e217_128 ?_
    refine Gr e217_129 (o152 L) (hR 152 32 190 rfl) f800 ?_
    refine LI1 e217_132 ?_
    refine Ki e217_133 kiconst_1 ?_
    refine IsubN (a := m) (b := 1) e217_134 rfl (by decide) (by omega) ?_
    refine ArN (k := (m - 1)) e217_135 (o190 L) (by decide) rfl (by omega) (by decide) (prow hR (m - 1) (by omega)) ?_
    refine LA0 e217_136 ?_
    refine Gr e217_137 (o152 L) (hR 152 32 190 rfl) f800 ?_
    refine LI1 e217_140 ?_
    refine ArN (k := m) e217_141 (o190 L) (by decide) rfl (by omega) (by decide) (prow hR m (by omega)) ?_
    refine LA0 e217_142 ?_
    refine Gr e217_143 (o152 L) (hR 152 33 197 rfl) f801 ?_
    refine Cv3p e217_146 c217_181 (o152 L) (Nat.le_of_ble_eq_true rfl) (Nat.le_of_ble_eq_true rfl) (m_divides (l := sz b - 1) hR ha hb (o197 L) (by omega) (by omega) (by omega) (by decide) hA hB haB hbB (by omega) hd1) ?_
    rintro _ I5 J5 R5 ⟨rfl, hR5, hI5, hL5, hP5⟩
    have hR5 := hR5.symm
    subst hR5
    have hI5 := hI5.symm
    subst hI5
    refine LA0 e217_149 ?_
    refine LA0 e217_150 ?_
    refine Gr e217_151 (o152 L) (hR 152 33 197 rfl) f801 ?_
    refine Cv1p e217_154 c217_175 (o152 L) (Nat.le_of_ble_eq_true rfl) (Nat.le_of_ble_eq_true rfl) (m_cleans (f := false) (o197 L) hP5 hd1.2.2.1 hf4) ?_
    rintro _ I6 J6 R6 ⟨rfl, hR6, hG6, hf6, hF6, hP6⟩
    have hR6 := hR6.symm
    subst hR6
    rw [Bool.false_or] at hf6
    refine LA0 e217_157 ?_
    refine LA0 e217_158 ?_
    refine Gr e217_159 (o152 L) (hR 152 32 190 rfl) f800 ?_
    refine LI1 e217_162 ?_
    refine ArN (k := m) e217_163 (o190 L) (by decide) rfl (by omega) (by decide) (prow hR m (by omega)) ?_
    refine LA0 e217_164 ?_
    refine Gr e217_165 (o152 L) (hR 152 32 190 rfl) f800 ?_
    refine LI1 e217_168 ?_
    refine Ki e217_169 kiconst_1 ?_
    refine IaddN (a := m) (b := 1) e217_170 rfl (by decide) ?_
    refine ArN (k := (m + 1)) e217_171 (o190 L) (by decide) rfl (by omega) (by decide) (prow hR (m + 1) (by omega)) ?_
    refine LA0 e217_172 ?_
    refine Gr e217_173 (o152 L) (hR 152 34 198 rfl) f802 ?_
    refine Cv3p e217_176 c217_181 (o152 L) (Nat.le_of_ble_eq_true rfl) (Nat.le_of_ble_eq_true rfl) (m_divides (l := sz c - 1) hR hb hc (o198 L) (by omega) (by omega) (by omega) (by decide) ((hB.fl hL5 (by simp; omega)).fr hF6 (by omega)) ((hC.fl hL5 (by simp; omega)).fr hF6 (by omega)) hbB hcB (by omega) hd2) ?_
    rintro _ I7 J7 R7 ⟨rfl, hR7, hI7, hL7, hP7⟩
    have hR7 := hR7.symm
    subst hR7
    have hI7 := hI7.symm
    subst hI7
    refine LA0 e217_179 ?_
    refine LA0 e217_180 ?_
    refine Gr e217_181 (o152 L) (hR 152 34 198 rfl) f802 ?_
    refine Cv1p e217_184 c217_175 (o152 L) (Nat.le_of_ble_eq_true rfl) (Nat.le_of_ble_eq_true rfl) (m_cleans (f := !fit s1) (o198 L) hP7 hd2.2.2.1 hf6) ?_
    rintro _ I8 J8 R8 ⟨rfl, hR8, hG8, hf8, hF8, hP8⟩
    have hR8 := hR8.symm
    subst hR8
    refine LA0 e217_187 ?_
    refine LA0 e217_188 ?_
    refine Gr e217_189 (o152 L) (hR 152 33 197 rfl) f801 ?_
    refine LA0 e217_192 ?_
    refine Gr e217_193 (o152 L) (hR 152 34 198 rfl) f802 ?_
    refine LA0 e217_196 ?_
    refine Gr e217_197 (o152 L) (hR 152 6 156 rfl) f774 ?_
    have hE : JP J8 197 (cln s1) := (hP6.fl hL7 (by decide)).fr hF8 (by decide)
    have hEB : PB 4000000000000000000 (cln s1) := cln_PB hd1.2.2.1
    have hNB : PB 4000000000000000000 (cln s2) := cln_PB hd2.2.2.1
    have hFD8 : FrD J J8 := fun y hy => by rw [hF8 y (by omega), hL7 y (by simp; omega), hF6 y (by omega), hL5 y (by simp; omega), hFd y hy]
    have hFl8 : FlI I I8 := (hG4.tr hG6).tr hG8
    by_cases hgo : fit s1 = true ∧ fit s2 = true
    · obtain ⟨hz3, hs3⟩ := hok3 hgo.1 hgo.2
      have hd3 := quo_dv hs3
      rw [hgo.1, hgo.2] at hf8
      have hf8 : I8 152 9 = 0 := hf8
      refine Cv3p e217_200 c217_181 (o152 L) (Nat.le_of_ble_eq_true rfl) (Nat.le_of_ble_eq_true rfl) (m_divides (l := sz (cln s2) - 1) hR (o197 L) (o198 L) (o156 L) (by decide) (by decide) (by decide) (by decide) hE hP8 hEB hNB (by omega) hd3) ?_
      rintro _ I9 J9 R9 ⟨rfl, hR9, hI9, hL9, hP9⟩
      have hR9 := hR9.symm
      have hR9 := hR9.symm
      subst hR9
      have hI9 := hI9.symm
      have hI9 := hI9.symm
      subst hI9
      refine LA0 e217_203 ?_
      refine LA0 e217_204 ?_
      refine Gr e217_205 (o152 L) (hR 152 6 156 rfl) f774 ?_
      refine Cv1p e217_208 c217_175 (o152 L) (Nat.le_of_ble_eq_true rfl) (Nat.le_of_ble_eq_true rfl) (m_cleans (f := false) (o156 L) hP9 hd3.2.2.1 hf8) ?_
      rintro _ I10 J10 R10 ⟨rfl, hR10, hG10, hf10, hF10, hP10⟩
      have hR10 := hR10.symm
      subst hR10
      rw [Bool.false_or] at hf10
      exact Rvd e217_211 rt217 (by
      refine ⟨rfl, rfl, hFl8.tr hG10, fun y hy => by rw [hF10 y (by omega), hL9 y (by simp; omega), hFD8 y hy], ?_⟩
      rw [hpt]
      unfold pfm
      rw [hDa, hDb, hDc, hs_1, hs_2, if_pos hgo]
      by_cases g : fit (quo (cln s1) (cln s2)) = true
      · rw [if_pos g]
        rw [g] at hf10
        exact Or.inl ⟨_, rfl, hf10, hP10⟩
      · rw [if_neg g]
        rw [Bool.not_eq_true] at g
        rw [g] at hf10
        exact Or.inr ⟨rfl, hf10⟩)
    · have hf8 : I8 152 9 = 1 := by
        rw [hf8]
        cases x1 : fit s1 <;> cases x2 : fit s2 <;> simp_all [bI]
      refine Cv3p e217_200 c217_181 (o152 L) (Nat.le_of_ble_eq_true rfl) (Nat.le_of_ble_eq_true rfl) (m_divides_any (l := sz (cln s2) - 1) hR (o197 L) (o198 L) (o156 L) (by decide) (by decide) (by decide) (by decide) hE hP8 hEB hNB (by rw [cln_szz]; omega)) ?_
      rintro _ I9 J9 R9 ⟨rfl, hR9, hI9, hL9⟩
      have hR9 := hR9.symm
      have hR9 := hR9.symm
      subst hR9
      have hI9 := hI9.symm
      have hI9 := hI9.symm
      subst hI9
      refine LA0 e217_203 ?_
      refine LA0 e217_204 ?_
      refine Gr e217_205 (o152 L) (hR 152 6 156 rfl) f774 ?_
      refine Cv1p e217_208 c217_175 (o152 L) (Nat.le_of_ble_eq_true rfl) (Nat.le_of_ble_eq_true rfl) (m_cleans_any (o156 L) hf8) ?_
      rintro _ I10 J10 R10 ⟨rfl, hR10, hG10, hf10, hF10⟩
      have hR10 := hR10.symm
      subst hR10
      exact Rvd e217_211 rt217 (by
      refine ⟨rfl, rfl, hFl8.tr hG10, fun y hy => by rw [hF10 y (by omega), hL9 y (by simp; omega), hFD8 y hy], Or.inr ⟨?_, hf10⟩⟩
      rw [hpt]
      exact pfm_no (by rw [hDa, hDb, hDc, hs_1, hs_2]; exact hgo))
end REF33
