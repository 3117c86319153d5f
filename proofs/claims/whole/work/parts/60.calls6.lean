/-! calls: times, sign, which themselves (printed by wip/whole/t60.py) -/
theorem DM.fbb {J J' : amJ} {D : List Po} {h : Nat} (hM : DM J D) (hD : D.length = 6) (hh : CH h) (h2 : FrB h J J') : DM J' D := fun k hk i hi => by
  have l1 := hh.lt
  rw [h2 (51 + 2 * k + 1) (by omega) (by omega) (by omega) (by omega)]
  exact hM k hk i hi
/-- as KP, where references may change -/
def KPr (I : amI) (J : amJ) (R : amR) (val : Value) (v : Option Value) (I' : amI) (J' : amJ) (R' : amR) : Prop := v = some val ∧ FrK I I' J J' ∧ amRok R' ∧ RC R R' ∧ ∃ x y, CO R' x y
theorem KPr.tr {I I1 I' : amI} {J J1 J' : amJ} {R R1 R' : amR} {val : Value} {v : Option Value} (h : KPr I1 J1 R1 val v I' J' R') (h1 : FrK I I1 J J1) (h2 : RC R R1) : KPr I J R val v I' J' R' := ⟨h.1, h1.tr h.2.1, h.2.2.1, h2.tr h.2.2.2.1, h.2.2.2.2⟩
section CALLS6
variable {L : Nat} {I : amI} {J : amJ} {R : amR} {Q : amQ} {σ : PS} {l lq lg D : List Po} {s z : Fs} {a : Nat} {q : Po}
set_option maxHeartbeats 2000000 in
theorem tm_lp {y1 y2 : Int32} {a3 : Nat} (hD6 : D.length = 6) (hDz : ∀ k, k < 6 → 0 < sz (D.getD k zP) ∧ sz (D.getD k zP) ≤ 5) (hLP : LPb D) (hF : FI s) : ∀ (f m c x y : Nat) (I : amI) (J : amJ) (R : amR), m + f = 6 → c ≤ m → amRok R → CO R x y → DM J D → FSm I J 136 s → Ex 123 78 [some (.ref 1), some (.int y1), some (.int y2), some (.ref a3), some (.int (nI c)), some (.int (nI m))] [] (amSH L) I J R (KPr I J R (.int (tmN D s f m c))) := by
  intro f
  induction f with
  | zero =>
    intro m c x y I J R hm hc hR hC hDM hM
    refine LI5 e123_78 ?_
    refine Ki e123_80 kbipush_6 ?_
    refine CN_ge (a := m) (b := 6) e123_82 t123_82 rfl (by decide) (by omega) (by omega) (fun _ => ?_) (fun q => by omega)
    refine LI4 e123_130 ?_
    exact Ri e123_132 rt123 (⟨rfl, FrK.rf, hR, RC.rf, _, _, hC⟩)
  | succ f ih =>
    intro m c x y I J R hm hc hR hC hDM hM
    have hz := hDz m (by omega)
    rw [tmN]
    refine LI5 e123_78 ?_
    refine Ki e123_80 kbipush_6 ?_
    refine CN_ge (a := m) (b := 6) e123_82 t123_82 rfl (by decide) (by omega) (by omega) (fun q => absurd q (by omega)) (fun _ => ?_)
    refine LA0 e123_85 ?_
    refine Gr e123_86 (o1 L) (hR 1 8 88 rfl) f712 ?_
    refine LA0 e123_89 ?_
    refine Gr e123_90 (o1 L) (hR 1 5 47 rfl) f709 ?_
    refine LI5 e123_93 ?_
    refine Cv1 e123_95 c123_45 (o47 L) (Nat.le_of_ble_eq_true rfl) (Nat.le_of_ble_eq_true rfl) ((d_rep hR (k := m) (by omega))) ?_
    refine Cv1p e123_98 c123_29 (o88 L) (Nat.le_of_ble_eq_true rfl) (Nat.le_of_ble_eq_true rfl) (h_build ch88 hR hC (dp hR m (by omega)) (by omega) (hDM m (by omega)) ((hLP m (by omega)).mono (by decide)) (fr_ok hz.2)) ?_
    rintro v1 I1 J1 R1 hBu
    obtain ⟨hfi, hfb, hR, hrc, ⟨x, y, hC⟩, hD⟩ := id hBu
    have hDM := hDM.fbb hD6 ch88 hfb
    have hM := hM.fbb fx136 ch88 hfi hfb
    rcases hD with ⟨l, hl, rfl, hI⟩ | ⟨hl, rfl⟩
    · rw [hl]
      dsimp only
      have hZl := chn_LZ hl hz.1 hz.2
      refine B_ne e123_101 t123_101 (fun _ => ?_) (fun q => absurd (by decide) q)
      refine LA0 e123_107 ?_
      refine Gr e123_108 (o1 L) (hR 1 10 136 rfl) f714 ?_
      refine LA0 e123_111 ?_
      refine Gr e123_112 (o1 L) (hR 1 8 88 rfl) f712 ?_
      refine Cv1 e123_115 c123_68 (o136 L) (Nat.le_of_ble_eq_true rfl) (Nat.le_of_ble_eq_true rfl) ((f_holds fx136 ch88 hR hI hZl hF hM)) ?_
      refine B_le e123_118 t123_118 (fun h118 => ?_) (fun h118 => ?_)
      · refine IncN5 (m := m) e123_124 rfl ?_
        refine Go e123_127 t123_127 ?_
        rw [if_neg (fun z => by rw [i32lt] at z; rw [i32le] at h118; omega)]
        exact (ih (m + 1) c _ _ _ _ _ (by omega) (by omega) hR hC hDM hM).mono (fun v I' J' R' q => q.tr (BuP.k ch88 hBu) hrc)
      · refine IncN4 (m := c) e123_121 rfl ?_
        refine IncN5 (m := m) e123_124 rfl ?_
        refine Go e123_127 t123_127 ?_
        rw [if_pos (by rw [i32lt]; rw [i32le] at h118; omega)]
        exact (ih (m + 1) (c + 1) _ _ _ _ _ (by omega) (by omega) hR hC hDM hM).mono (fun v I' J' R' q => q.tr (BuP.k ch88 hBu) hrc)
    · rw [hl]
      refine B_ne e123_101 t123_101 (fun q => absurd q (fun z => z rfl)) (fun _ => ?_)
      refine Ki e123_104 kbipush_m3 ?_
      exact Ri e123_106 rt123 (⟨rfl, BuP.k ch88 hBu, hR, hrc, _, _, hC⟩)
set_option maxHeartbeats 2000000 in
theorem k_times {p q : Int32} (h : CSt I J R σ) : Cl 123 [.ref 1, .int p, .int q] (amSH L) I J R (CP I J R σ (.int (sTimes σ.1 p q))) := by
  obtain ⟨hR, ⟨x, y, hC⟩, hS, hK, hT, hW, hZ, hO⟩ := id h
  have h8 := hO.1.1
  have h0 := h
  have hfk : FrK I I J J := FrK.rf
  have hrk : RC R R := RC.rf
  unfold sTimes
  show Ex 123 0 [some (.ref 1), some (.int p), some (.int q), none, none, none] [] (amSH L) I J R _
  by_cases hp : inP σ.1 p
  · rw [if_pos hp]
    obtain ⟨k, hk, rfl, ek⟩ := hp.of h8
    have hok := hO.1.2 k hk
    have ha : amPO (amSH L) R (2 + 2 + 2 * k) := (show SH 2 from Or.inl rfl).pm hR k (by omega)
    have hP := hS.2 k hk
    rw [ek]
    have h5 := hok.2.2
    refine LA0 e123_0 ?_
    refine Gr e123_1 (o1 L) (hR 1 0 2 rfl) f704 ?_
    refine LI1 e123_4 ?_
    refine Cv1 e123_5 c123_55 (o2 L) (Nat.le_of_ble_eq_true rfl) (Nat.le_of_ble_eq_true rfl) ((s_pick (s := 2) (Or.inl rfl) hR hS.1 h8 hk)) ?_
    refine SA3 e123_8 rfl ?_
    refine LA3 e123_9 ?_
    refine N_nonnull e123_10 t123_10 ?_
    refine LA0 e123_15 ?_
    refine Gr e123_16 (o1 L) (hR 1 7 64 rfl) f711 ?_
    refine LA3 e123_19 ?_
    refine Cv1p e123_20 c123_29 (o64 L) (Nat.le_of_ble_eq_true rfl) (Nat.le_of_ble_eq_true rfl) (h_build ch64 hR hC ha (by omega) hP (hok.b) (fr_ok h5)) ?_
    rintro v1 I1 J1 R1 hBu
    obtain ⟨hfi, hfb, hR, hrc, ⟨x, y, hC⟩, hD⟩ := id hBu
    have h := h.k (BuP.k ch64 hBu) hR ⟨x, y, hC⟩
    obtain ⟨-, -, hS, -, hT, hW, hZ, -⟩ := id h
    have hfk := hfk.tr (BuP.k ch64 hBu)
    have hrk := hrk.tr hrc
    have ha := ha.rc hrc (by omega)
    have hP := hP.fbb ch64 hfb (by omega)
    rcases hD with ⟨l, hll, rfl, hI⟩ | ⟨hll, rfl⟩
    · rw [hll]
      dsimp only
      have hZl := chn_LZ hll (hok.2.1) (h5)
      have hl9l := hI.2.2.2.1
      refine B_ne e123_23 t123_23 (fun _ => ?_) (fun q => absurd (by decide) q)
      refine LA0 e123_29 ?_
      refine Gr e123_30 (o1 L) (hR 1 7 64 rfl) f711 ?_
      refine LI2 e123_33 ?_
      refine Cv1 e123_34 c123_40 (o64 L) (Nat.le_of_ble_eq_true rfl) (Nat.le_of_ble_eq_true rfl) ((h_hasRoot ch64 hI)) ?_
      refine B_ne e123_37 t123_37 (fun h37 => ?_) (fun h37 => ?_)
      · have hr : hasR l q := bI_t h37
        rw [if_pos hr]
        refine LA0 e123_42 ?_
        refine Gr e123_43 (o1 L) (hR 1 10 136 rfl) f714 ?_
        refine LA0 e123_46 ?_
        refine Gr e123_47 (o1 L) (hR 1 7 64 rfl) f711 ?_
        refine LI2 e123_50 ?_
        refine Ki e123_51 kiconst_0 ?_
        refine Cv3p e123_52 c123_61 (o136 L) (Nat.le_of_ble_eq_true rfl) (Nat.le_of_ble_eq_true rfl) (f_find (t := 0) fx136 ch64 hR hI hZl (by decide)) ?_
        rintro v2 I2 J2 R2 hHv
        obtain ⟨hRe, hfi, hfj, hD⟩ := id hHv
        subst hRe
        have h := h.k (HvP.k fx136 hHv) hR ⟨x, y, hC⟩
        obtain ⟨-, -, hS, -, hT, hW, hZ, -⟩ := id h
        have hfk := hfk.tr (HvP.k fx136 hHv)
        have hP := hP.fr hfj (by rcases fx136 with e | e <;> omega)
        have hI := hI.fx ch64 fx136 hfi hfj
        rcases hD with ⟨s, hfs, rfl, hM⟩ | ⟨hfs, rfl⟩
        · rw [hfs]
          dsimp only
          have hF := fnc_FI hfs hl9l
          refine B_eq e123_55 t123_55 (fun q => absurd q (by decide)) (fun _ => ?_)
          refine LA0 e123_58 ?_
          refine Gr e123_59 (o1 L) (hR 1 5 47 rfl) f709 ?_
          refine LA3 e123_62 ?_
          refine Cv1p e123_63 c123_44 (o47 L) (Nat.le_of_ble_eq_true rfl) (Nat.le_of_ble_eq_true rfl) (d_split hR hC ha (by omega) hP hok.b) ?_
          rintro v3 I3 J3 R3 ⟨hIe, hSp⟩
          subst hIe
          obtain ⟨hfp, hR, hrc, ⟨x, y, hC⟩, hD⟩ := id hSp
          have hk3 : FrK I3 I3 J2 J3 := ⟨fun _ _ => rfl, fun y hy => hfp y (by omega) (by omega) (by omega)⟩
          have hfk := hfk.tr hk3
          have hrk := hrk.tr hrc
          have h := h.k hk3 hR ⟨x, y, hC⟩
          have hM : FSm I3 J3 136 s := by
            unfold FSm
            rw [hfp 136 (by decide) (by decide) (by decide)]
            exact hM
          rcases hD with ⟨D, hsp, rfl, hD6, hDM, hLP⟩ | ⟨hsp, rfl⟩
          · rw [hsp]
            dsimp only
            refine B_ne e123_66 t123_66 (fun _ => ?_) (fun q => absurd (by decide) q)
            refine Ki e123_72 kiconst_1 ?_
            refine SI4 e123_73 rfl ?_
            refine Ki e123_75 kiconst_1 ?_
            refine SI5 e123_76 rfl ?_
            exact (tm_lp hD6 (spl_sz hsp hok.2.1 h5) hLP hF 5 1 1 _ _ _ _ _ rfl (Nat.le_refl _) hR hC hDM hM).mono (fun v I' J' R' ⟨q1, q2, q3, q4, _, _, q5⟩ => q1 ▸ CP.k h0 (hfk.tr q2) q3 ⟨_, _, q5⟩ (hrk.tr q4))
          · rw [hsp]
            refine B_ne e123_66 t123_66 (fun q => absurd q (fun z => z rfl)) (fun _ => ?_)
            refine Ki e123_69 kbipush_m3 ?_
            exact Ri e123_71 rt123 (CP.k h0 hfk hR ⟨_, _, hC⟩ hrk)
        · rw [hfs]
          refine B_eq e123_55 t123_55 (fun _ => ?_) (fun q => absurd (rfl) q)
          refine Ki e123_69 kbipush_m3 ?_
          exact Ri e123_71 rt123 (CP.k h0 hfk hR ⟨_, _, hC⟩ hrk)
      · refine Ki e123_40 kiconst_m1 ?_
        exact Ri e123_41 rt123 (by
        rw [if_neg (bI_f h37)]
        exact CP.k h0 hfk hR ⟨_, _, hC⟩ hrk)
    · rw [hll]
      refine B_ne e123_23 t123_23 (fun q => absurd q (fun z => z rfl)) (fun _ => ?_)
      refine Ki e123_26 kbipush_m3 ?_
      exact Ri e123_28 rt123 (CP.k h0 hfk hR ⟨_, _, hC⟩ hrk)
  · rw [if_neg hp]
    refine LA0 e123_0 ?_
    refine Gr e123_1 (o1 L) (hR 1 0 2 rfl) f704 ?_
    refine LI1 e123_4 ?_
    refine Cv1 e123_5 c123_55 (o2 L) (Nat.le_of_ble_eq_true rfl) (Nat.le_of_ble_eq_true rfl) ((s_pickno (s := 2) (Or.inl rfl) hR hS.1 h8 hp)) ?_
    refine SN3 e123_8 rfl ?_
    refine LN3 e123_9 ?_
    refine Z_nonnull e123_10 t123_10 ?_
    refine Ki e123_13 kiconst_m1 ?_
    exact Ri e123_14 rt123 (CP.rf h)
set_option maxHeartbeats 2000000 in
theorem k_sign {p q e : Int32} (h : CSt I J R σ) : Cl 125 [.ref 1, .int p, .int q, .int e] (amSH L) I J R (CP I J R σ (.long (sSign σ.1 p q e))) := by
  obtain ⟨hR, ⟨x, y, hC⟩, hS, hK, hT, hW, hZ, hO⟩ := id h
  have h8 := hO.1.1
  have h0 := h
  have hfk : FrK I I J J := FrK.rf
  have hrk : RC R R := RC.rf
  unfold sSign
  show Ex 125 0 [some (.ref 1), some (.int p), some (.int q), some (.int e), none, none] [] (amSH L) I J R _
  by_cases hp : inP σ.1 p
  · rw [if_pos hp]
    obtain ⟨k, hk, rfl, ek⟩ := hp.of h8
    have hok := hO.1.2 k hk
    have ha : amPO (amSH L) R (2 + 2 + 2 * k) := (show SH 2 from Or.inl rfl).pm hR k (by omega)
    have hP := hS.2 k hk
    rw [ek]
    have h5 := hok.2.2
    by_cases hq : inP σ.1 e
    · rw [if_pos hq]
      obtain ⟨m, hm, eqm, ekm⟩ := hq.of h8
      subst eqm
      rw [ekm]
      have hokm := hO.1.2 m hm
      have hb : amPO (amSH L) R (2 + 2 + 2 * m) := (show SH 2 from Or.inl rfl).pm hR m (by omega)
      have hPm := hS.2 m hm
      have h5m := hokm.2.2
      refine LA0 e125_0 ?_
      refine Gr e125_1 (o1 L) (hR 1 0 2 rfl) f704 ?_
      refine LI1 e125_4 ?_
      refine Cv1 e125_5 c125_55 (o2 L) (Nat.le_of_ble_eq_true rfl) (Nat.le_of_ble_eq_true rfl) ((s_pick (s := 2) (Or.inl rfl) hR hS.1 h8 hk)) ?_
      refine SA4 e125_8 rfl ?_
      refine LA0 e125_10 ?_
      refine Gr e125_11 (o1 L) (hR 1 0 2 rfl) f704 ?_
      refine LI3 e125_14 ?_
      refine Cv1 e125_15 c125_55 (o2 L) (Nat.le_of_ble_eq_true rfl) (Nat.le_of_ble_eq_true rfl) ((s_pick (s := 2) (Or.inl rfl) hR hS.1 h8 hm)) ?_
      refine SA5 e125_18 rfl ?_
      refine LA4 e125_20 ?_
      refine N_null e125_22 t125_22 ?_
      refine LA5 e125_25 ?_
      refine N_null e125_27 t125_27 ?_
      refine LA0 e125_30 ?_
      refine Gr e125_31 (o1 L) (hR 1 7 64 rfl) f711 ?_
      refine LA4 e125_34 ?_
      refine Cv1p e125_36 c125_29 (o64 L) (Nat.le_of_ble_eq_true rfl) (Nat.le_of_ble_eq_true rfl) (h_build ch64 hR hC ha (by omega) hP (hok.b) (fr_ok h5)) ?_
      rintro v1 I1 J1 R1 hBu
      obtain ⟨hfi, hfb, hR, hrc, ⟨x, y, hC⟩, hD⟩ := id hBu
      have h := h.k (BuP.k ch64 hBu) hR ⟨x, y, hC⟩
      obtain ⟨-, -, hS, -, hT, hW, hZ, -⟩ := id h
      have hfk := hfk.tr (BuP.k ch64 hBu)
      have hrk := hrk.tr hrc
      have ha := ha.rc hrc (by omega)
      have hP := hP.fbb ch64 hfb (by omega)
      have hb := hb.rc hrc (by omega)
      have hPm := hPm.fbb ch64 hfb (by omega)
      rcases hD with ⟨l, hll, rfl, hI⟩ | ⟨hll, rfl⟩
      · rw [hll]
        dsimp only
        have hZl := chn_LZ hll (hok.2.1) (h5)
        have hl9l := hI.2.2.2.1
        refine B_ne e125_39 t125_39 (fun _ => ?_) (fun q => absurd (by decide) q)
        refine LA0 e125_46 ?_
        refine Gr e125_47 (o1 L) (hR 1 7 64 rfl) f711 ?_
        refine LI2 e125_50 ?_
        refine Cv1 e125_51 c125_40 (o64 L) (Nat.le_of_ble_eq_true rfl) (Nat.le_of_ble_eq_true rfl) ((h_hasRoot ch64 hI)) ?_
        refine B_eq e125_54 t125_54 (fun h54 => ?_) (fun h54 => ?_)
        · refine Kd e125_73 kj4 ?_
          exact Rj e125_76 rt125 (by
          rw [if_neg (bI_z h54)]
          exact CP.k h0 hfk hR ⟨_, _, hC⟩ hrk)
        · have hr : hasR l q := bI_t h54
          rw [if_pos hr]
          refine LA0 e125_57 ?_
          refine Gr e125_58 (o1 L) (hR 1 10 136 rfl) f714 ?_
          refine LA0 e125_61 ?_
          refine Gr e125_62 (o1 L) (hR 1 7 64 rfl) f711 ?_
          refine LI2 e125_65 ?_
          refine Ki e125_66 kiconst_0 ?_
          refine Cv3p e125_67 c125_61 (o136 L) (Nat.le_of_ble_eq_true rfl) (Nat.le_of_ble_eq_true rfl) (f_find (t := 0) fx136 ch64 hR hI hZl (by decide)) ?_
          rintro v2 I2 J2 R2 hHv
          obtain ⟨hRe, hfi, hfj, hD⟩ := id hHv
          subst hRe
          have h := h.k (HvP.k fx136 hHv) hR ⟨x, y, hC⟩
          obtain ⟨-, -, hS, -, hT, hW, hZ, -⟩ := id h
          have hfk := hfk.tr (HvP.k fx136 hHv)
          have hP := hP.fr hfj (by rcases fx136 with e | e <;> omega)
          have hPm := hPm.fr hfj (by rcases fx136 with e | e <;> omega)
          have hI := hI.fx ch64 fx136 hfi hfj
          rcases hD with ⟨s, hfs, rfl, hM⟩ | ⟨hfs, rfl⟩
          · rw [hfs]
            dsimp only
            have hF := fnc_FI hfs hl9l
            refine B_ne e125_70 t125_70 (fun _ => ?_) (fun q => absurd (by decide) q)
            refine LA0 e125_77 ?_
            refine Gr e125_78 (o1 L) (hR 1 4 40 rfl) f708 ?_
            refine LA4 e125_81 ?_
            refine LA5 e125_83 ?_
            refine Cv2p e125_85 c125_26 (o40 L) (Nat.le_of_ble_eq_true rfl) (Nat.le_of_ble_eq_true rfl) (c_find hR hC ha hb ⟨by omega, by omega⟩ ⟨by omega, by omega⟩ ⟨by omega, by omega⟩ hP hPm hok.b hokm.b) ?_
            rintro v3 I3 J3 R3 ⟨hIe, hCm⟩
            subst hIe
            obtain ⟨hfl, hR, hrc, x, y, hC, hD⟩ := id hCm
            have h := h.k (CmP.k hCm) hR ⟨x, y, hC⟩
            obtain ⟨-, -, hS, -, hT, hW, hZ, -⟩ := id h
            have hfk := hfk.tr (CmP.k hCm)
            have hrk := hrk.tr hrc
            have ha := ha.rc hrc (by omega)
            have hP := hP.fl hfl (by simp; omega)
            have hb := hb.rc hrc (by omega)
            have hPm := hPm.fl hfl (by simp; omega)
            have hI := hI.fcc ch64 hfl
            have hM := hM.fcc fx136 hfl
            rcases hD with ⟨g, hcg, rfl, hPg⟩ | ⟨hcg, rfl⟩
            · rw [hcg]
              dsimp only
              have hx2 := hC.2.2
              have hg := com_sz hcg (hok.2.1) (h5) (hokm.2.1) (h5m)
              refine B_eq e125_88 t125_88 (fun q => absurd q (by decide)) (fun _ => ?_)
              refine LA0 e125_91 ?_
              refine Gr e125_92 (o1 L) (hR 1 8 88 rfl) f712 ?_
              refine LA0 e125_95 ?_
              refine Gr e125_96 (o1 L) (hR 1 4 40 rfl) f708 ?_
              refine Cv0 e125_99 c125_25 (o40 L) (Nat.le_of_ble_eq_true rfl) (Nat.le_of_ble_eq_true rfl) ((c_result hC)) ?_
              refine Cv1p e125_102 c125_29 (o88 L) (Nat.le_of_ble_eq_true rfl) (Nat.le_of_ble_eq_true rfl) (h_build ch88 hR hC (hC.px hR) (by omega) hPg ((com_PB hcg).mono (by decide)) (fr_ok hg.2)) ?_
              rintro v4 I4 J4 R4 hBu
              obtain ⟨hfi, hfb, hR, hrc, ⟨x, y, hC⟩, hD⟩ := id hBu
              have h := h.k (BuP.k ch88 hBu) hR ⟨x, y, hC⟩
              obtain ⟨-, -, hS, -, hT, hW, hZ, -⟩ := id h
              have hfk := hfk.tr (BuP.k ch88 hBu)
              have hrk := hrk.tr hrc
              have ha := ha.rc hrc (by omega)
              have hP := hP.fbb ch88 hfb (by omega)
              have hb := hb.rc hrc (by omega)
              have hPm := hPm.fbb ch88 hfb (by omega)
              have hI := hI.fbb ch64 ch88 (by decide) hfi hfb
              have hM := hM.fbb fx136 ch88 hfi hfb
              rcases hD with ⟨lg, hllg, rfl, hIg⟩ | ⟨hllg, rfl⟩
              · rw [hllg]
                dsimp only
                have hZlg := chn_LZ hllg (hg.1) (hg.2)
                have hl9lg := hIg.2.2.2.1
                refine B_ne e125_105 t125_105 (fun _ => ?_) (fun q => absurd (by decide) q)
                refine LA0 e125_112 ?_
                refine Gr e125_113 (o1 L) (hR 1 10 136 rfl) f714 ?_
                refine LA0 e125_116 ?_
                refine Gr e125_117 (o1 L) (hR 1 8 88 rfl) f712 ?_
                refine Cv1 e125_120 c125_68 (o136 L) (Nat.le_of_ble_eq_true rfl) (Nat.le_of_ble_eq_true rfl) ((f_holds fx136 ch88 hR hIg hZlg hF hM)) ?_
                refine B_le e125_123 t125_123 (fun h123 => ?_) (fun h123 => ?_)
                · rw [if_neg (fun z => by rw [i32lt] at z; rw [i32le] at h123; omega)]
                  refine LA0 e125_128 ?_
                  refine Gr e125_129 (o1 L) (hR 1 8 88 rfl) f712 ?_
                  refine LA5 e125_132 ?_
                  refine Cv1p e125_134 c125_29 (o88 L) (Nat.le_of_ble_eq_true rfl) (Nat.le_of_ble_eq_true rfl) (h_build ch88 hR hC hb (by omega) hPm (hokm.b) (fr_ok h5m)) ?_
                  rintro v5 I5 J5 R5 hBu
                  obtain ⟨hfi, hfb, hR, hrc, ⟨x, y, hC⟩, hD⟩ := id hBu
                  have h := h.k (BuP.k ch88 hBu) hR ⟨x, y, hC⟩
                  obtain ⟨-, -, hS, -, hT, hW, hZ, -⟩ := id h
                  have hfk := hfk.tr (BuP.k ch88 hBu)
                  have hrk := hrk.tr hrc
                  have ha := ha.rc hrc (by omega)
                  have hP := hP.fbb ch88 hfb (by omega)
                  have hb := hb.rc hrc (by omega)
                  have hPm := hPm.fbb ch88 hfb (by omega)
                  have hI := hI.fbb ch64 ch88 (by decide) hfi hfb
                  have hM := hM.fbb fx136 ch88 hfi hfb
                  rcases hD with ⟨lq, hllq, rfl, hIq⟩ | ⟨hllq, rfl⟩
                  · rw [hllq]
                    dsimp only
                    have hZlq := chn_LZ hllq (hokm.2.1) (h5m)
                    have hl9lq := hIq.2.2.2.1
                    refine B_eq e125_137 t125_137 (fun q => absurd q (by decide)) (fun _ => ?_)
                    refine LA0 e125_140 ?_
                    refine LI2 e125_141 ?_
                    refine LA5 e125_142 ?_
                    refine Cv2p e125_144 c125_147 (o1 L) (Nat.le_of_ble_eq_true rfl) (Nat.le_of_ble_eq_true rfl) (k_sgOut hR hb (by omega) hokm.b h5m hZl hZlq hI hIq hF hM hPm) ?_
                    rintro _ I9 J9 R9 ⟨rfl, hk9, hRe⟩
                    subst hRe
                    have hfk := hfk.tr hk9
                    refine Go e125_147 t125_147 ?_
                    exact Rj e125_153 rt125 (CP.k h0 hfk hR ⟨_, _, hC⟩ hrk)
                  · rw [hllq]
                    refine B_eq e125_137 t125_137 (fun _ => ?_) (fun q => absurd (rfl) q)
                    refine Kd e125_150 kj4 ?_
                    exact Rj e125_153 rt125 (CP.k h0 hfk hR ⟨_, _, hC⟩ hrk)
                · refine K0 e125_126 ?_
                  exact Rj e125_127 rt125 (by
                  rw [if_pos (by rw [i32lt]; rw [i32le] at h123; omega)]
                  exact CP.k h0 hfk hR ⟨_, _, hC⟩ hrk)
              · rw [hllg]
                refine B_ne e125_105 t125_105 (fun q => absurd q (fun z => z rfl)) (fun _ => ?_)
                refine Kd e125_108 kj4 ?_
                exact Rj e125_111 rt125 (CP.k h0 hfk hR ⟨_, _, hC⟩ hrk)
            · rw [hcg]
              refine B_eq e125_88 t125_88 (fun _ => ?_) (fun q => absurd (rfl) q)
              refine Kd e125_108 kj4 ?_
              exact Rj e125_111 rt125 (CP.k h0 hfk hR ⟨_, _, hC⟩ hrk)
          · rw [hfs]
            refine B_ne e125_70 t125_70 (fun q => absurd q (fun z => z rfl)) (fun _ => ?_)
            refine Kd e125_73 kj4 ?_
            exact Rj e125_76 rt125 (CP.k h0 hfk hR ⟨_, _, hC⟩ hrk)
      · rw [hll]
        refine B_ne e125_39 t125_39 (fun q => absurd q (fun z => z rfl)) (fun _ => ?_)
        refine Kd e125_42 kj4 ?_
        exact Rj e125_45 rt125 (CP.k h0 hfk hR ⟨_, _, hC⟩ hrk)
    · rw [if_neg hq]
      refine LA0 e125_0 ?_
      refine Gr e125_1 (o1 L) (hR 1 0 2 rfl) f704 ?_
      refine LI1 e125_4 ?_
      refine Cv1 e125_5 c125_55 (o2 L) (Nat.le_of_ble_eq_true rfl) (Nat.le_of_ble_eq_true rfl) ((s_pick (s := 2) (Or.inl rfl) hR hS.1 h8 hk)) ?_
      refine SA4 e125_8 rfl ?_
      refine LA0 e125_10 ?_
      refine Gr e125_11 (o1 L) (hR 1 0 2 rfl) f704 ?_
      refine LI3 e125_14 ?_
      refine Cv1 e125_15 c125_55 (o2 L) (Nat.le_of_ble_eq_true rfl) (Nat.le_of_ble_eq_true rfl) ((s_pickno (s := 2) (Or.inl rfl) hR hS.1 h8 hq)) ?_
      refine SN5 e125_18 rfl ?_
      refine LA4 e125_20 ?_
      refine N_null e125_22 t125_22 ?_
      refine LN5 e125_25 ?_
      refine Z_null e125_27 t125_27 ?_
      refine Kd e125_42 kj4 ?_
      exact Rj e125_45 rt125 (CP.rf h)
  · rw [if_neg hp]
    by_cases hq : inP σ.1 e
    · obtain ⟨m, hm, eqm, ekm⟩ := hq.of h8
      subst eqm
      refine LA0 e125_0 ?_
      refine Gr e125_1 (o1 L) (hR 1 0 2 rfl) f704 ?_
      refine LI1 e125_4 ?_
      refine Cv1 e125_5 c125_55 (o2 L) (Nat.le_of_ble_eq_true rfl) (Nat.le_of_ble_eq_true rfl) ((s_pickno (s := 2) (Or.inl rfl) hR hS.1 h8 hp)) ?_
      refine SN4 e125_8 rfl ?_
      refine LA0 e125_10 ?_
      refine Gr e125_11 (o1 L) (hR 1 0 2 rfl) f704 ?_
      refine LI3 e125_14 ?_
      refine Cv1 e125_15 c125_55 (o2 L) (Nat.le_of_ble_eq_true rfl) (Nat.le_of_ble_eq_true rfl) ((s_pick (s := 2) (Or.inl rfl) hR hS.1 h8 hm)) ?_
      refine SA5 e125_18 rfl ?_
      refine LN4 e125_20 ?_
      refine Z_null e125_22 t125_22 ?_
      refine Kd e125_42 kj4 ?_
      exact Rj e125_45 rt125 (CP.rf h)
    · show Ex 125 0 [some (.ref 1), some (.int p), some (.int q), some (.int e), none, none] [] (amSH L) I J R _
      refine LA0 e125_0 ?_
      refine Gr e125_1 (o1 L) (hR 1 0 2 rfl) f704 ?_
      refine LI1 e125_4 ?_
      refine Cv1 e125_5 c125_55 (o2 L) (Nat.le_of_ble_eq_true rfl) (Nat.le_of_ble_eq_true rfl) ((s_pickno (s := 2) (Or.inl rfl) hR hS.1 h8 hp)) ?_
      refine SN4 e125_8 rfl ?_
      refine LA0 e125_10 ?_
      refine Gr e125_11 (o1 L) (hR 1 0 2 rfl) f704 ?_
      refine LI3 e125_14 ?_
      refine Cv1 e125_15 c125_55 (o2 L) (Nat.le_of_ble_eq_true rfl) (Nat.le_of_ble_eq_true rfl) ((s_pickno (s := 2) (Or.inl rfl) hR hS.1 h8 hq)) ?_
      refine SN5 e125_18 rfl ?_
      refine LN4 e125_20 ?_
      refine Z_null e125_22 t125_22 ?_
      refine Kd e125_42 kj4 ?_
      exact Rj e125_45 rt125 (CP.rf h)
set_option maxHeartbeats 2000000 in
theorem k_which {p i e q : Int32} (h : CSt I J R σ) : Cl 127 [.ref 1, .int p, .int i, .int e, .int q] (amSH L) I J R (CP I J R σ (.long (sWhich σ.1 p i e q))) := by
  obtain ⟨hR, ⟨x, y, hC⟩, hS, hK, hT, hW, hZ, hO⟩ := id h
  have h8 := hO.1.1
  have h0 := h
  have hfk : FrK I I J J := FrK.rf
  have hrk : RC R R := RC.rf
  unfold sWhich
  show Ex 127 0 [some (.ref 1), some (.int p), some (.int i), some (.int e), some (.int q), none, none] [] (amSH L) I J R _
  by_cases hp : inP σ.1 p
  · rw [if_pos hp]
    obtain ⟨k, hk, rfl, ek⟩ := hp.of h8
    have hok := hO.1.2 k hk
    have ha : amPO (amSH L) R (2 + 2 + 2 * k) := (show SH 2 from Or.inl rfl).pm hR k (by omega)
    have hP := hS.2 k hk
    rw [ek]
    have h5 := hok.2.2
    by_cases hq : inP σ.1 e
    · rw [if_pos hq]
      obtain ⟨m, hm, eqm, ekm⟩ := hq.of h8
      subst eqm
      rw [ekm]
      have hokm := hO.1.2 m hm
      have hb : amPO (amSH L) R (2 + 2 + 2 * m) := (show SH 2 from Or.inl rfl).pm hR m (by omega)
      have hPm := hS.2 m hm
      have h5m := hokm.2.2
      refine LA0 e127_0 ?_
      refine Gr e127_1 (o1 L) (hR 1 0 2 rfl) f704 ?_
      refine LI1 e127_4 ?_
      refine Cv1 e127_5 c127_55 (o2 L) (Nat.le_of_ble_eq_true rfl) (Nat.le_of_ble_eq_true rfl) ((s_pick (s := 2) (Or.inl rfl) hR hS.1 h8 hk)) ?_
      refine SA5 e127_8 rfl ?_
      refine LA0 e127_10 ?_
      refine Gr e127_11 (o1 L) (hR 1 0 2 rfl) f704 ?_
      refine LI3 e127_14 ?_
      refine Cv1 e127_15 c127_55 (o2 L) (Nat.le_of_ble_eq_true rfl) (Nat.le_of_ble_eq_true rfl) ((s_pick (s := 2) (Or.inl rfl) hR hS.1 h8 hm)) ?_
      refine SA6 e127_18 rfl ?_
      refine LA5 e127_20 ?_
      refine N_null e127_22 t127_22 ?_
      refine LA6 e127_25 ?_
      refine N_null e127_27 t127_27 ?_
      refine LA0 e127_30 ?_
      refine Gr e127_31 (o1 L) (hR 1 7 64 rfl) f711 ?_
      refine LA5 e127_34 ?_
      refine Cv1p e127_36 c127_29 (o64 L) (Nat.le_of_ble_eq_true rfl) (Nat.le_of_ble_eq_true rfl) (h_build ch64 hR hC ha (by omega) hP (hok.b) (fr_ok h5)) ?_
      rintro v1 I1 J1 R1 hBu
      obtain ⟨hfi, hfb, hR, hrc, ⟨x, y, hC⟩, hD⟩ := id hBu
      have h := h.k (BuP.k ch64 hBu) hR ⟨x, y, hC⟩
      obtain ⟨-, -, hS, -, hT, hW, hZ, -⟩ := id h
      have hfk := hfk.tr (BuP.k ch64 hBu)
      have hrk := hrk.tr hrc
      have ha := ha.rc hrc (by omega)
      have hP := hP.fbb ch64 hfb (by omega)
      have hb := hb.rc hrc (by omega)
      have hPm := hPm.fbb ch64 hfb (by omega)
      rcases hD with ⟨l, hll, rfl, hI⟩ | ⟨hll, rfl⟩
      · rw [hll]
        dsimp only
        have hZl := chn_LZ hll (hok.2.1) (h5)
        have hl9l := hI.2.2.2.1
        refine B_eq e127_39 t127_39 (fun q => absurd q (by decide)) (fun _ => ?_)
        refine LA0 e127_42 ?_
        refine Gr e127_43 (o1 L) (hR 1 8 88 rfl) f712 ?_
        refine LA6 e127_46 ?_
        refine Cv1p e127_48 c127_29 (o88 L) (Nat.le_of_ble_eq_true rfl) (Nat.le_of_ble_eq_true rfl) (h_build ch88 hR hC hb (by omega) hPm (hokm.b) (fr_ok h5m)) ?_
        rintro v2 I2 J2 R2 hBu
        obtain ⟨hfi, hfb, hR, hrc, ⟨x, y, hC⟩, hD⟩ := id hBu
        have h := h.k (BuP.k ch88 hBu) hR ⟨x, y, hC⟩
        obtain ⟨-, -, hS, -, hT, hW, hZ, -⟩ := id h
        have hfk := hfk.tr (BuP.k ch88 hBu)
        have hrk := hrk.tr hrc
        have ha := ha.rc hrc (by omega)
        have hP := hP.fbb ch88 hfb (by omega)
        have hb := hb.rc hrc (by omega)
        have hPm := hPm.fbb ch88 hfb (by omega)
        have hI := hI.fbb ch64 ch88 (by decide) hfi hfb
        rcases hD with ⟨lq, hllq, rfl, hIq⟩ | ⟨hllq, rfl⟩
        · rw [hllq]
          dsimp only
          have hZlq := chn_LZ hllq (hokm.2.1) (h5m)
          have hl9lq := hIq.2.2.2.1
          refine B_ne e127_51 t127_51 (fun _ => ?_) (fun q => absurd (by decide) q)
          refine LA0 e127_58 ?_
          refine Gr e127_59 (o1 L) (hR 1 7 64 rfl) f711 ?_
          refine LI2 e127_62 ?_
          refine Cv1 e127_63 c127_40 (o64 L) (Nat.le_of_ble_eq_true rfl) (Nat.le_of_ble_eq_true rfl) ((h_hasRoot ch64 hI)) ?_
          refine B_eq e127_66 t127_66 (fun h66 => ?_) (fun h66 => ?_)
          · refine Kd e127_81 kj4 ?_
            exact Rj e127_84 rt127 (by
            rw [if_neg (fun z => by first | exact bI_z h66 z.1 | exact bI_f h78 z.2)]
            exact CP.k h0 hfk hR ⟨_, _, hC⟩ hrk)
          · refine LA0 e127_69 ?_
            refine Gr e127_70 (o1 L) (hR 1 8 88 rfl) f712 ?_
            refine LI4 e127_73 ?_
            refine Cv1 e127_75 c127_40 (o88 L) (Nat.le_of_ble_eq_true rfl) (Nat.le_of_ble_eq_true rfl) ((h_hasRoot ch88 hIq)) ?_
            refine B_ne e127_78 t127_78 (fun h78 => ?_) (fun h78 => ?_)
            · have hr1 : hasR l i := bI_t h66
              have hr2 : hasR lq q := bI_t h78
              rw [if_pos ⟨hr1, hr2⟩]
              refine LA0 e127_85 ?_
              refine Gr e127_86 (o1 L) (hR 1 10 136 rfl) f714 ?_
              refine LA0 e127_89 ?_
              refine Gr e127_90 (o1 L) (hR 1 7 64 rfl) f711 ?_
              refine LI2 e127_93 ?_
              refine Ki e127_94 kiconst_0 ?_
              refine Cv3p e127_95 c127_61 (o136 L) (Nat.le_of_ble_eq_true rfl) (Nat.le_of_ble_eq_true rfl) (f_find (t := 0) fx136 ch64 hR hI hZl (by decide)) ?_
              rintro v3 I3 J3 R3 hHv
              obtain ⟨hRe, hfi, hfj, hD⟩ := id hHv
              subst hRe
              have h := h.k (HvP.k fx136 hHv) hR ⟨x, y, hC⟩
              obtain ⟨-, -, hS, -, hT, hW, hZ, -⟩ := id h
              have hfk := hfk.tr (HvP.k fx136 hHv)
              have hP := hP.fr hfj (by rcases fx136 with e | e <;> omega)
              have hPm := hPm.fr hfj (by rcases fx136 with e | e <;> omega)
              have hI := hI.fx ch64 fx136 hfi hfj
              have hIq := hIq.fx ch88 fx136 hfi hfj
              rcases hD with ⟨s, hfs, rfl, hM⟩ | ⟨hfs, rfl⟩
              · rw [hfs]
                dsimp only
                have hF := fnc_FI hfs hl9l
                refine B_eq e127_98 t127_98 (fun q => absurd q (by decide)) (fun _ => ?_)
                refine LA0 e127_101 ?_
                refine Gr e127_102 (o1 L) (hR 1 11 137 rfl) f715 ?_
                refine LA0 e127_105 ?_
                refine Gr e127_106 (o1 L) (hR 1 8 88 rfl) f712 ?_
                refine LI4 e127_109 ?_
                refine Ki e127_111 kiconst_0 ?_
                refine Cv3p e127_112 c127_61 (o137 L) (Nat.le_of_ble_eq_true rfl) (Nat.le_of_ble_eq_true rfl) (f_find (t := 0) fx137 ch88 hR hIq hZlq (by decide)) ?_
                rintro v4 I4 J4 R4 hHv
                obtain ⟨hRe, hfi, hfj, hD⟩ := id hHv
                subst hRe
                have h := h.k (HvP.k fx137 hHv) hR ⟨x, y, hC⟩
                obtain ⟨-, -, hS, -, hT, hW, hZ, -⟩ := id h
                have hfk := hfk.tr (HvP.k fx137 hHv)
                have hP := hP.fr hfj (by rcases fx137 with e | e <;> omega)
                have hPm := hPm.fr hfj (by rcases fx137 with e | e <;> omega)
                have hI := hI.fx ch64 fx137 hfi hfj
                have hIq := hIq.fx ch88 fx137 hfi hfj
                have hM := hM.fxx (by decide) hfi hfj
                rcases hD with ⟨z, hfz, rfl, hN⟩ | ⟨hfz, rfl⟩
                · rw [hfz]
                  dsimp only
                  have hG := fnc_FI hfz hl9lq
                  refine B_ne e127_115 t127_115 (fun _ => ?_) (fun q => absurd (by decide) q)
                  refine LA0 e127_122 ?_
                  refine Gr e127_123 (o1 L) (hR 1 4 40 rfl) f708 ?_
                  refine LA5 e127_126 ?_
                  refine LA6 e127_128 ?_
                  refine Cv2p e127_130 c127_26 (o40 L) (Nat.le_of_ble_eq_true rfl) (Nat.le_of_ble_eq_true rfl) (c_find hR hC ha hb ⟨by omega, by omega⟩ ⟨by omega, by omega⟩ ⟨by omega, by omega⟩ hP hPm hok.b hokm.b) ?_
                  rintro v5 I5 J5 R5 ⟨hIe, hCm⟩
                  subst hIe
                  obtain ⟨hfl, hR, hrc, x, y, hC, hD⟩ := id hCm
                  have h := h.k (CmP.k hCm) hR ⟨x, y, hC⟩
                  obtain ⟨-, -, hS, -, hT, hW, hZ, -⟩ := id h
                  have hfk := hfk.tr (CmP.k hCm)
                  have hrk := hrk.tr hrc
                  have ha := ha.rc hrc (by omega)
                  have hP := hP.fl hfl (by simp; omega)
                  have hb := hb.rc hrc (by omega)
                  have hPm := hPm.fl hfl (by simp; omega)
                  have hI := hI.fcc ch64 hfl
                  have hIq := hIq.fcc ch88 hfl
                  have hM := hM.fcc fx136 hfl
                  have hN := hN.fcc fx137 hfl
                  rcases hD with ⟨g, hcg, rfl, hPg⟩ | ⟨hcg, rfl⟩
                  · rw [hcg]
                    dsimp only
                    have hx2 := hC.2.2
                    have hg := com_sz hcg (hok.2.1) (h5) (hokm.2.1) (h5m)
                    refine B_eq e127_133 t127_133 (fun q => absurd q (by decide)) (fun _ => ?_)
                    refine LA0 e127_136 ?_
                    refine Gr e127_137 (o1 L) (hR 1 9 112 rfl) f713 ?_
                    refine LA0 e127_140 ?_
                    refine Gr e127_141 (o1 L) (hR 1 4 40 rfl) f708 ?_
                    refine Cv0 e127_144 c127_25 (o40 L) (Nat.le_of_ble_eq_true rfl) (Nat.le_of_ble_eq_true rfl) ((c_result hC)) ?_
                    refine Cv1p e127_147 c127_29 (o112 L) (Nat.le_of_ble_eq_true rfl) (Nat.le_of_ble_eq_true rfl) (h_build ch112 hR hC (hC.px hR) (by omega) hPg ((com_PB hcg).mono (by decide)) (fr_ok hg.2)) ?_
                    rintro v6 I6 J6 R6 hBu
                    obtain ⟨hfi, hfb, hR, hrc, ⟨x, y, hC⟩, hD⟩ := id hBu
                    have h := h.k (BuP.k ch112 hBu) hR ⟨x, y, hC⟩
                    obtain ⟨-, -, hS, -, hT, hW, hZ, -⟩ := id h
                    have hfk := hfk.tr (BuP.k ch112 hBu)
                    have hrk := hrk.tr hrc
                    have ha := ha.rc hrc (by omega)
                    have hP := hP.fbb ch112 hfb (by omega)
                    have hb := hb.rc hrc (by omega)
                    have hPm := hPm.fbb ch112 hfb (by omega)
                    have hI := hI.fbb ch64 ch112 (by decide) hfi hfb
                    have hIq := hIq.fbb ch88 ch112 (by decide) hfi hfb
                    have hM := hM.fbb fx136 ch112 hfi hfb
                    have hN := hN.fbb fx137 ch112 hfi hfb
                    rcases hD with ⟨lg, hllg, rfl, hIg⟩ | ⟨hllg, rfl⟩
                    · rw [hllg]
                      dsimp only
                      have hZlg := chn_LZ hllg (hg.1) (hg.2)
                      have hl9lg := hIg.2.2.2.1
                      refine B_ne e127_150 t127_150 (fun _ => ?_) (fun q => absurd (by decide) q)
                      refine LA0 e127_157 ?_
                      refine Cv0 e127_158 c127_148 (o1 L) (Nat.le_of_ble_eq_true rfl) (Nat.le_of_ble_eq_true rfl) ((k_alike hR hZlg hIg hF hM hG hN)) ?_
                      refine B_eq e127_161 t127_161 (fun h161 => ?_) (fun h161 => ?_)
                      · rw [if_neg (bI_z h161)]
                        refine LA0 e127_168 ?_
                        refine LI2 e127_169 ?_
                        refine LI4 e127_170 ?_
                        refine Cv2p e127_172 c127_149 (o1 L) (Nat.le_of_ble_eq_true rfl) (Nat.le_of_ble_eq_true rfl) (k_order hR hZl hZlq hI hIq hF hM hG hN) ?_
                        rintro _ I9 J9 R9 ⟨rfl, hk9, hRe⟩
                        subst hRe
                        have hfk := hfk.tr hk9
                        exact Rj e127_175 rt127 (CP.k h0 hfk hR ⟨_, _, hC⟩ hrk)
                      · rw [if_pos (bI_t h161)]
                        refine K0 e127_164 ?_
                        refine Go e127_165 t127_165 ?_
                        exact Rj e127_175 rt127 (CP.k h0 hfk hR ⟨_, _, hC⟩ hrk)
                    · rw [hllg]
                      refine B_ne e127_150 t127_150 (fun q => absurd q (fun z => z rfl)) (fun _ => ?_)
                      refine Kd e127_153 kj4 ?_
                      exact Rj e127_156 rt127 (CP.k h0 hfk hR ⟨_, _, hC⟩ hrk)
                  · rw [hcg]
                    refine B_eq e127_133 t127_133 (fun _ => ?_) (fun q => absurd (rfl) q)
                    refine Kd e127_153 kj4 ?_
                    exact Rj e127_156 rt127 (CP.k h0 hfk hR ⟨_, _, hC⟩ hrk)
                · rw [hfz]
                  refine B_ne e127_115 t127_115 (fun q => absurd q (fun z => z rfl)) (fun _ => ?_)
                  refine Kd e127_118 kj4 ?_
                  exact Rj e127_121 rt127 (CP.k h0 hfk hR ⟨_, _, hC⟩ hrk)
              · rw [hfs]
                refine B_eq e127_98 t127_98 (fun _ => ?_) (fun q => absurd (rfl) q)
                refine Kd e127_118 kj4 ?_
                exact Rj e127_121 rt127 (CP.k h0 hfk hR ⟨_, _, hC⟩ hrk)
            · refine Kd e127_81 kj4 ?_
              exact Rj e127_84 rt127 (by
              rw [if_neg (fun z => by first | exact bI_z h66 z.1 | exact bI_f h78 z.2)]
              exact CP.k h0 hfk hR ⟨_, _, hC⟩ hrk)
        · rw [hllq]
          refine B_ne e127_51 t127_51 (fun q => absurd q (fun z => z rfl)) (fun _ => ?_)
          refine Kd e127_54 kj4 ?_
          exact Rj e127_57 rt127 (CP.k h0 hfk hR ⟨_, _, hC⟩ hrk)
      · rw [hll]
        refine B_eq e127_39 t127_39 (fun _ => ?_) (fun q => absurd (rfl) q)
        refine Kd e127_54 kj4 ?_
        exact Rj e127_57 rt127 (CP.k h0 hfk hR ⟨_, _, hC⟩ hrk)
    · rw [if_neg hq]
      refine LA0 e127_0 ?_
      refine Gr e127_1 (o1 L) (hR 1 0 2 rfl) f704 ?_
      refine LI1 e127_4 ?_
      refine Cv1 e127_5 c127_55 (o2 L) (Nat.le_of_ble_eq_true rfl) (Nat.le_of_ble_eq_true rfl) ((s_pick (s := 2) (Or.inl rfl) hR hS.1 h8 hk)) ?_
      refine SA5 e127_8 rfl ?_
      refine LA0 e127_10 ?_
      refine Gr e127_11 (o1 L) (hR 1 0 2 rfl) f704 ?_
      refine LI3 e127_14 ?_
      refine Cv1 e127_15 c127_55 (o2 L) (Nat.le_of_ble_eq_true rfl) (Nat.le_of_ble_eq_true rfl) ((s_pickno (s := 2) (Or.inl rfl) hR hS.1 h8 hq)) ?_
      refine SN6 e127_18 rfl ?_
      refine LA5 e127_20 ?_
      refine N_null e127_22 t127_22 ?_
      refine LN6 e127_25 ?_
      refine Z_null e127_27 t127_27 ?_
      refine Kd e127_54 kj4 ?_
      exact Rj e127_57 rt127 (CP.rf h)
  · rw [if_neg hp]
    by_cases hq : inP σ.1 e
    · obtain ⟨m, hm, eqm, ekm⟩ := hq.of h8
      subst eqm
      refine LA0 e127_0 ?_
      refine Gr e127_1 (o1 L) (hR 1 0 2 rfl) f704 ?_
      refine LI1 e127_4 ?_
      refine Cv1 e127_5 c127_55 (o2 L) (Nat.le_of_ble_eq_true rfl) (Nat.le_of_ble_eq_true rfl) ((s_pickno (s := 2) (Or.inl rfl) hR hS.1 h8 hp)) ?_
      refine SN5 e127_8 rfl ?_
      refine LA0 e127_10 ?_
      refine Gr e127_11 (o1 L) (hR 1 0 2 rfl) f704 ?_
      refine LI3 e127_14 ?_
      refine Cv1 e127_15 c127_55 (o2 L) (Nat.le_of_ble_eq_true rfl) (Nat.le_of_ble_eq_true rfl) ((s_pick (s := 2) (Or.inl rfl) hR hS.1 h8 hm)) ?_
      refine SA6 e127_18 rfl ?_
      refine LN5 e127_20 ?_
      refine Z_null e127_22 t127_22 ?_
      refine Kd e127_54 kj4 ?_
      exact Rj e127_57 rt127 (CP.rf h)
    · show Ex 127 0 [some (.ref 1), some (.int p), some (.int i), some (.int e), some (.int q), none, none] [] (amSH L) I J R _
      refine LA0 e127_0 ?_
      refine Gr e127_1 (o1 L) (hR 1 0 2 rfl) f704 ?_
      refine LI1 e127_4 ?_
      refine Cv1 e127_5 c127_55 (o2 L) (Nat.le_of_ble_eq_true rfl) (Nat.le_of_ble_eq_true rfl) ((s_pickno (s := 2) (Or.inl rfl) hR hS.1 h8 hp)) ?_
      refine SN5 e127_8 rfl ?_
      refine LA0 e127_10 ?_
      refine Gr e127_11 (o1 L) (hR 1 0 2 rfl) f704 ?_
      refine LI3 e127_14 ?_
      refine Cv1 e127_15 c127_55 (o2 L) (Nat.le_of_ble_eq_true rfl) (Nat.le_of_ble_eq_true rfl) ((s_pickno (s := 2) (Or.inl rfl) hR hS.1 h8 hq)) ?_
      refine SN6 e127_18 rfl ?_
      refine LN5 e127_20 ?_
      refine Z_null e127_22 t127_22 ?_
      refine Kd e127_54 kj4 ?_
      exact Rj e127_57 rt127 (CP.rf h)
end CALLS6
