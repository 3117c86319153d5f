/-! calls: fence, shared, fraction (printed by wip/whole/t58.py) -/
theorem fx136 : FX 136 := Or.inl rfl
theorem fx137 : FX 137 := Or.inr rfl
noncomputable def sShared (ps : List Po) (p q : Int32) : Int32 := if inP ps p then (if inP ps q then (match com (plP ps p) (plP ps q) with
    | none => -3
    | some g => match chn g with
      | none => -3
      | some l => nI (tB l) - nI (tU l)) else -1) else -1
/-- the fractions of p, from the least on, and how many -/
noncomputable def frE (p : Po) : Fq × Nat := Classical.epsilon (fun s => FrSt p (fun _ => True) s.1 s.2)
theorem frE_of {p : Po} {F : Fq} {n : Nat} (h : FrSt p (fun _ => True) F n) : n = (frE p).2 ∧ ∀ k, k < n → F k = (frE p).1 k := h.uniq (Classical.epsilon_spec (p := fun s : Fq × Nat => FrSt p (fun _ => True) s.1 s.2) ⟨(F, n), h⟩)
noncomputable def sFraction (ps : List Po) (p k q : Int32) : Int64 := if inP ps p then (if k = -1 then (nI (frE (plP ps p)).2).toInt64 else if (0 ≤ k.toInt ∧ k.toInt < ((frE (plP ps p)).2 : Int)) ∧ 0 ≤ q.toInt ∧ q.toInt ≤ 1 then (if q = 0 then (iI ((frE (plP ps p)).1 k.toInt.toNat).1).toInt64 else (iI ((frE (plP ps p)).1 k.toInt.toNat).2).toInt64) else NOv) else NOv
theorem FrG.k {I I' : amI} {J : amJ} (h : FrG I I') : FrK I I' J J := ⟨fun y hy => h y (by omega), fun _ _ => rfl⟩
section CALLS4
variable {L : Nat} {I : amI} {J : amJ} {R : amR} {Q : amQ} {σ : PS}
set_option maxHeartbeats 2000000 in
theorem k_fence {p q t e : Int32} (h : CSt I J R σ) : Cl 122 [.ref 1, .int p, .int q, .int t, .int e] (amSH L) I J R (CP I J R σ (.long (sFence σ.1 p q t e))) := by
  obtain ⟨hR, ⟨x, y, hC⟩, hS, hK, hT, hW, hZ, hO⟩ := id h
  have h8 := hO.1.1
  have h0 := h
  have hfk : FrK I I J J := FrK.rf
  have hrk : RC R R := RC.rf
  unfold sFence
  show Ex 122 0 [some (.ref 1), some (.int p), some (.int q), some (.int t), some (.int e), none] [] (amSH L) I J R _
  by_cases hp : inP σ.1 p
  · rw [if_pos hp]
    obtain ⟨k, hk, rfl, ek⟩ := hp.of h8
    have hok := hO.1.2 k hk
    have ha : amPO (amSH L) R (2 + 2 + 2 * k) := (show SH 2 from Or.inl rfl).pm hR k (by omega)
    have hP := hS.2 k hk
    rw [ek]
    have h5 := hok.2.2
    by_cases g : 0 ≤ t.toInt ∧ t.toInt ≤ 9
    · rw [if_pos g]
      obtain ⟨i, hi9, rfl⟩ : ∃ i : Nat, i ≤ 9 ∧ t = nI i := ⟨t.toInt.toNat, by omega, by rw [← Int32.toInt_inj, nI_toInt (by omega)]; omega⟩
      have ei : (nI i).toInt.toNat = i := by rw [nI_toInt (by omega)]; omega
      rw [ei]
      refine LA0 e122_0 ?_
      refine Gr e122_1 (o1 L) (hR 1 0 2 rfl) f704 ?_
      refine LI1 e122_4 ?_
      refine Cv1 e122_5 c122_55 (o2 L) (Nat.le_of_ble_eq_true rfl) (Nat.le_of_ble_eq_true rfl) ((s_pick (s := 2) (Or.inl rfl) hR hS.1 h8 hk)) ?_
      refine SA5 e122_8 rfl ?_
      refine LA5 e122_10 ?_
      refine N_null e122_12 t122_12 ?_
      refine LI3 e122_15 ?_
      refine B_lt e122_16 t122_16 (fun q => absurd q (nI_pos (by omega))) (fun _ => ?_)
      refine LI3 e122_19 ?_
      refine Ki e122_20 kbipush_9 ?_
      refine CN_gt (a := i) (b := 9) e122_22 t122_22 rfl (by decide) (by omega) (by omega) (fun q => absurd q (by omega)) (fun _ => ?_)
      refine LA0 e122_25 ?_
      refine Gr e122_26 (o1 L) (hR 1 7 64 rfl) f711 ?_
      refine LA5 e122_29 ?_
      refine Cv1p e122_31 c122_29 (o64 L) (Nat.le_of_ble_eq_true rfl) (Nat.le_of_ble_eq_true rfl) (h_build ch64 hR hC ha (by omega) hP (hok.b) (fr_ok h5)) ?_
      rintro v1 I1 J1 R1 hBu
      obtain ⟨hfi, hfb, hR, hrc, ⟨x, y, hC⟩, hD⟩ := id hBu
      have h := h.k (BuP.k ch64 hBu) hR ⟨x, y, hC⟩
      obtain ⟨-, -, hS, -, hT, hW, hZ, -⟩ := id h
      have hfk := hfk.tr (BuP.k ch64 hBu)
      have hrk := hrk.tr hrc
      have ha := ha.rc hrc (by omega)
      have hP := hP.fbb ch64 hfb (by omega)
      rcases hD with ⟨l, hll, rfl, hI⟩ | ⟨hll, rfl⟩
      · rw [hll]
        dsimp only
        have hZl := chn_LZ hll (hok.2.1) (h5)
        have hl9l := hI.2.2.2.1
        refine B_ne e122_34 t122_34 (fun _ => ?_) (fun q => absurd (by decide) q)
        refine LA0 e122_41 ?_
        refine Gr e122_42 (o1 L) (hR 1 7 64 rfl) f711 ?_
        refine LI2 e122_45 ?_
        refine Cv1 e122_46 c122_40 (o64 L) (Nat.le_of_ble_eq_true rfl) (Nat.le_of_ble_eq_true rfl) ((h_hasRoot ch64 hI)) ?_
        refine B_eq e122_49 t122_49 (fun h49 => ?_) (fun h49 => ?_)
        · refine Kd e122_68 kj4 ?_
          exact Rj e122_71 rt122 (by
          rw [if_neg (bI_z h49)]
          exact CP.k h0 hfk hR ⟨_, _, hC⟩ hrk)
        · have hr : hasR l q := bI_t h49
          rw [if_pos hr]
          refine LA0 e122_52 ?_
          refine Gr e122_53 (o1 L) (hR 1 10 136 rfl) f714 ?_
          refine LA0 e122_56 ?_
          refine Gr e122_57 (o1 L) (hR 1 7 64 rfl) f711 ?_
          refine LI2 e122_60 ?_
          refine LI3 e122_61 ?_
          refine Cv3p e122_62 c122_61 (o136 L) (Nat.le_of_ble_eq_true rfl) (Nat.le_of_ble_eq_true rfl) (f_find fx136 ch64 hR hI hZl hi9) ?_
          rintro v2 I2 J2 R2 hHv
          obtain ⟨hRe, hfi, hfj, hD⟩ := id hHv
          subst hRe
          have h := h.k (HvP.k fx136 hHv) hR ⟨x, y, hC⟩
          obtain ⟨-, -, hS, -, hT, hW, hZ, -⟩ := id h
          have hfk := hfk.tr (HvP.k fx136 hHv)
          have hI := hI.fx ch64 fx136 hfi hfj
          rcases hD with ⟨s, hfs, rfl, hM⟩ | ⟨hfs, rfl⟩
          · rw [hfs]
            dsimp only
            have hF := fnc_FI hfs hl9l
            refine B_ne e122_65 t122_65 (fun _ => ?_) (fun q => absurd (by decide) q)
            refine LI4 e122_72 ?_
            by_cases q0 : e = 0
            · subst q0
              rw [if_pos rfl]
              refine Tin e122_74 0 rfl (by decide) rfl (show amTg 74 30 = some 104 from by decide) ?_
              refine LA0 e122_104 ?_
              refine Gr e122_105 (o1 L) (hR 1 10 136 rfl) f714 ?_
              refine Cv0 e122_108 c122_64 (o136 L) (Nat.le_of_ble_eq_true rfl) (Nat.le_of_ble_eq_true rfl) ((f_beginU fx136 hF hM)) ?_
              refine I2l e122_111 ?_
              exact Rj e122_112 rt122 (CP.k h0 hfk hR ⟨_, _, hC⟩ hrk)
            by_cases q1 : e = 1
            · subst q1
              rw [if_neg (by decide), if_pos rfl]
              refine Tin e122_74 1 rfl (by decide) rfl (show amTg 74 39 = some 113 from by decide) ?_
              refine LA0 e122_113 ?_
              refine Gr e122_114 (o1 L) (hR 1 10 136 rfl) f714 ?_
              refine Cv0 e122_117 c122_65 (o136 L) (Nat.le_of_ble_eq_true rfl) (Nat.le_of_ble_eq_true rfl) ((f_beginV fx136 hF hM)) ?_
              refine I2l e122_120 ?_
              exact Rj e122_121 rt122 (CP.k h0 hfk hR ⟨_, _, hC⟩ hrk)
            by_cases q2 : e = 2
            · subst q2
              rw [if_neg (by decide), if_neg (by decide), if_pos rfl]
              refine Tin e122_74 2 rfl (by decide) rfl (show amTg 74 48 = some 122 from by decide) ?_
              refine LA0 e122_122 ?_
              refine Gr e122_123 (o1 L) (hR 1 10 136 rfl) f714 ?_
              refine Cv0 e122_126 c122_66 (o136 L) (Nat.le_of_ble_eq_true rfl) (Nat.le_of_ble_eq_true rfl) ((f_endU fx136 hF hM)) ?_
              refine I2l e122_129 ?_
              exact Rj e122_130 rt122 (CP.k h0 hfk hR ⟨_, _, hC⟩ hrk)
            by_cases q3 : e = 3
            · subst q3
              rw [if_neg (by decide), if_neg (by decide), if_neg (by decide), if_pos rfl]
              refine Tin e122_74 3 rfl (by decide) rfl (show amTg 74 57 = some 131 from by decide) ?_
              refine LA0 e122_131 ?_
              refine Gr e122_132 (o1 L) (hR 1 10 136 rfl) f714 ?_
              refine Cv0 e122_135 c122_67 (o136 L) (Nat.le_of_ble_eq_true rfl) (Nat.le_of_ble_eq_true rfl) ((f_endV fx136 hF hM)) ?_
              refine I2l e122_138 ?_
              exact Rj e122_139 rt122 (CP.k h0 hfk hR ⟨_, _, hC⟩ hrk)
            rw [if_neg q0, if_neg q1, if_neg q2, if_neg q3]
            refine Tout e122_74 (show amTg 74 66 = some 140 from by decide) ?_ ?_
            · simp only [← Int32.toInt_inj, show (0 : Int32).toInt = 0 from rfl, show (1 : Int32).toInt = 1 from rfl, show (2 : Int32).toInt = 2 from rfl, show (3 : Int32).toInt = 3 from rfl] at q0 q1 q2 q3
              omega
            refine Kd e122_140 kj4 ?_
            exact Rj e122_143 rt122 (CP.k h0 hfk hR ⟨_, _, hC⟩ hrk)
            
          · rw [hfs]
            refine B_ne e122_65 t122_65 (fun q => absurd q (fun z => z rfl)) (fun _ => ?_)
            refine Kd e122_68 kj4 ?_
            exact Rj e122_71 rt122 (CP.k h0 hfk hR ⟨_, _, hC⟩ hrk)
      · rw [hll]
        refine B_ne e122_34 t122_34 (fun q => absurd q (fun z => z rfl)) (fun _ => ?_)
        refine Kd e122_37 kj4 ?_
        exact Rj e122_40 rt122 (CP.k h0 hfk hR ⟨_, _, hC⟩ hrk)
    · rw [if_neg g]
      refine LA0 e122_0 ?_
      refine Gr e122_1 (o1 L) (hR 1 0 2 rfl) f704 ?_
      refine LI1 e122_4 ?_
      refine Cv1 e122_5 c122_55 (o2 L) (Nat.le_of_ble_eq_true rfl) (Nat.le_of_ble_eq_true rfl) ((s_pick (s := 2) (Or.inl rfl) hR hS.1 h8 hk)) ?_
      refine SA5 e122_8 rfl ?_
      refine LA5 e122_10 ?_
      refine N_null e122_12 t122_12 ?_
      refine LI3 e122_15 ?_
      refine B_lt e122_16 t122_16 (fun hh16 => ?_) (fun hh16 => ?_)
      · refine Kd e122_37 kj4 ?_
        exact Rj e122_40 rt122 (CP.rf h)
      · refine LI3 e122_19 ?_
        refine Ki e122_20 kbipush_9 ?_
        refine C_gt e122_22 t122_22 (fun hh22 => ?_) (fun hh22 => ?_)
        · refine Kd e122_37 kj4 ?_
          exact Rj e122_40 rt122 (CP.rf h)
        · exact (g (by simp only [i32lt, show (0 : Int32).toInt = 0 from rfl, show (9 : Int32).toInt = 9 from rfl] at hh16 hh22; omega)).elim
  · rw [if_neg hp]
    refine LA0 e122_0 ?_
    refine Gr e122_1 (o1 L) (hR 1 0 2 rfl) f704 ?_
    refine LI1 e122_4 ?_
    refine Cv1 e122_5 c122_55 (o2 L) (Nat.le_of_ble_eq_true rfl) (Nat.le_of_ble_eq_true rfl) ((s_pickno (s := 2) (Or.inl rfl) hR hS.1 h8 hp)) ?_
    refine SN5 e122_8 rfl ?_
    refine LN5 e122_10 ?_
    refine Z_null e122_12 t122_12 ?_
    refine Kd e122_37 kj4 ?_
    exact Rj e122_40 rt122 (CP.rf h)
set_option maxHeartbeats 2000000 in
theorem k_shared {p q : Int32} (h : CSt I J R σ) : Cl 124 [.ref 1, .int p, .int q] (amSH L) I J R (CP I J R σ (.int (sShared σ.1 p q))) := by
  obtain ⟨hR, ⟨x, y, hC⟩, hS, hK, hT, hW, hZ, hO⟩ := id h
  have h8 := hO.1.1
  have h0 := h
  have hfk : FrK I I J J := FrK.rf
  have hrk : RC R R := RC.rf
  unfold sShared
  show Ex 124 0 [some (.ref 1), some (.int p), some (.int q), none, none] [] (amSH L) I J R _
  by_cases hp : inP σ.1 p
  · rw [if_pos hp]
    obtain ⟨k, hk, rfl, ek⟩ := hp.of h8
    have hok := hO.1.2 k hk
    have ha : amPO (amSH L) R (2 + 2 + 2 * k) := (show SH 2 from Or.inl rfl).pm hR k (by omega)
    have hP := hS.2 k hk
    rw [ek]
    have h5 := hok.2.2
    by_cases hq : inP σ.1 q
    · rw [if_pos hq]
      obtain ⟨m, hm, rfl, ekm⟩ := hq.of h8
      rw [ekm]
      have hokm := hO.1.2 m hm
      have hb : amPO (amSH L) R (2 + 2 + 2 * m) := (show SH 2 from Or.inl rfl).pm hR m (by omega)
      have hPm := hS.2 m hm
      have h5m := hokm.2.2
      refine LA0 e124_0 ?_
      refine Gr e124_1 (o1 L) (hR 1 0 2 rfl) f704 ?_
      refine LI1 e124_4 ?_
      refine Cv1 e124_5 c124_55 (o2 L) (Nat.le_of_ble_eq_true rfl) (Nat.le_of_ble_eq_true rfl) ((s_pick (s := 2) (Or.inl rfl) hR hS.1 h8 hk)) ?_
      refine SA3 e124_8 rfl ?_
      refine LA0 e124_9 ?_
      refine Gr e124_10 (o1 L) (hR 1 0 2 rfl) f704 ?_
      refine LI2 e124_13 ?_
      refine Cv1 e124_14 c124_55 (o2 L) (Nat.le_of_ble_eq_true rfl) (Nat.le_of_ble_eq_true rfl) ((s_pick (s := 2) (Or.inl rfl) hR hS.1 h8 hm)) ?_
      refine SA4 e124_17 rfl ?_
      refine LA3 e124_19 ?_
      refine N_null e124_20 t124_20 ?_
      refine LA4 e124_23 ?_
      refine N_nonnull e124_25 t124_25 ?_
      refine LA0 e124_30 ?_
      refine Gr e124_31 (o1 L) (hR 1 4 40 rfl) f708 ?_
      refine LA3 e124_34 ?_
      refine LA4 e124_35 ?_
      refine Cv2p e124_37 c124_26 (o40 L) (Nat.le_of_ble_eq_true rfl) (Nat.le_of_ble_eq_true rfl) (c_find hR hC ha hb ⟨by omega, by omega⟩ ⟨by omega, by omega⟩ ⟨by omega, by omega⟩ hP hPm hok.b hokm.b) ?_
      rintro v1 I1 J1 R1 ⟨hIe, hCm⟩
      subst hIe
      obtain ⟨hfl, hR, hrc, x, y, hC, hD⟩ := id hCm
      have h := h.k (CmP.k hCm) hR ⟨x, y, hC⟩
      obtain ⟨-, -, hS, -, hT, hW, hZ, -⟩ := id h
      have hfk := hfk.tr (CmP.k hCm)
      have hrk := hrk.tr hrc
      have ha := ha.rc hrc (by omega)
      have hP := hP.fl hfl (by simp; omega)
      have hb := hb.rc hrc (by omega)
      have hPm := hPm.fl hfl (by simp; omega)
      rcases hD with ⟨g, hcg, rfl, hPg⟩ | ⟨hcg, rfl⟩
      · rw [hcg]
        dsimp only
        have hx2 := hC.2.2
        have hg := com_sz hcg (hok.2.1) (h5) (hokm.2.1) (h5m)
        refine B_eq e124_40 t124_40 (fun q => absurd q (by decide)) (fun _ => ?_)
        refine LA0 e124_43 ?_
        refine Gr e124_44 (o1 L) (hR 1 7 64 rfl) f711 ?_
        refine LA0 e124_47 ?_
        refine Gr e124_48 (o1 L) (hR 1 4 40 rfl) f708 ?_
        refine Cv0 e124_51 c124_25 (o40 L) (Nat.le_of_ble_eq_true rfl) (Nat.le_of_ble_eq_true rfl) ((c_result hC)) ?_
        refine Cv1p e124_54 c124_29 (o64 L) (Nat.le_of_ble_eq_true rfl) (Nat.le_of_ble_eq_true rfl) (h_build ch64 hR hC (hC.px hR) (by omega) hPg ((com_PB hcg).mono (by decide)) (fr_ok hg.2)) ?_
        rintro v2 I2 J2 R2 hBu
        obtain ⟨hfi, hfb, hR, hrc, ⟨x, y, hC⟩, hD⟩ := id hBu
        have h := h.k (BuP.k ch64 hBu) hR ⟨x, y, hC⟩
        obtain ⟨-, -, hS, -, hT, hW, hZ, -⟩ := id h
        have hfk := hfk.tr (BuP.k ch64 hBu)
        have hrk := hrk.tr hrc
        rcases hD with ⟨l, hll, rfl, hI⟩ | ⟨hll, rfl⟩
        · rw [hll]
          dsimp only
          have hZl := chn_LZ hll (hg.1) (hg.2)
          have hl9l := hI.2.2.2.1
          refine B_ne e124_57 t124_57 (fun _ => ?_) (fun q => absurd (by decide) q)
          refine LA0 e124_63 ?_
          refine Gr e124_64 (o1 L) (hR 1 7 64 rfl) f711 ?_
          refine Cv0 e124_67 c124_39 (o64 L) (Nat.le_of_ble_eq_true rfl) (Nat.le_of_ble_eq_true rfl) ((h_total ch64 hI)) ?_
          exact Ri e124_70 rt124 (CP.k h0 hfk hR ⟨_, _, hC⟩ hrk)
        · rw [hll]
          refine B_ne e124_57 t124_57 (fun q => absurd q (fun z => z rfl)) (fun _ => ?_)
          refine Ki e124_60 kbipush_m3 ?_
          exact Ri e124_62 rt124 (CP.k h0 hfk hR ⟨_, _, hC⟩ hrk)
      · rw [hcg]
        refine B_eq e124_40 t124_40 (fun _ => ?_) (fun q => absurd (rfl) q)
        refine Ki e124_60 kbipush_m3 ?_
        exact Ri e124_62 rt124 (CP.k h0 hfk hR ⟨_, _, hC⟩ hrk)
    · rw [if_neg hq]
      refine LA0 e124_0 ?_
      refine Gr e124_1 (o1 L) (hR 1 0 2 rfl) f704 ?_
      refine LI1 e124_4 ?_
      refine Cv1 e124_5 c124_55 (o2 L) (Nat.le_of_ble_eq_true rfl) (Nat.le_of_ble_eq_true rfl) ((s_pick (s := 2) (Or.inl rfl) hR hS.1 h8 hk)) ?_
      refine SA3 e124_8 rfl ?_
      refine LA0 e124_9 ?_
      refine Gr e124_10 (o1 L) (hR 1 0 2 rfl) f704 ?_
      refine LI2 e124_13 ?_
      refine Cv1 e124_14 c124_55 (o2 L) (Nat.le_of_ble_eq_true rfl) (Nat.le_of_ble_eq_true rfl) ((s_pickno (s := 2) (Or.inl rfl) hR hS.1 h8 hq)) ?_
      refine SN4 e124_17 rfl ?_
      refine LA3 e124_19 ?_
      refine N_null e124_20 t124_20 ?_
      refine LN4 e124_23 ?_
      refine Z_nonnull e124_25 t124_25 ?_
      refine Ki e124_28 kiconst_m1 ?_
      exact Ri e124_29 rt124 (CP.rf h)
  · rw [if_neg hp]
    by_cases hq : inP σ.1 q
    · obtain ⟨m, hm, rfl, ekm⟩ := hq.of h8
      refine LA0 e124_0 ?_
      refine Gr e124_1 (o1 L) (hR 1 0 2 rfl) f704 ?_
      refine LI1 e124_4 ?_
      refine Cv1 e124_5 c124_55 (o2 L) (Nat.le_of_ble_eq_true rfl) (Nat.le_of_ble_eq_true rfl) ((s_pickno (s := 2) (Or.inl rfl) hR hS.1 h8 hp)) ?_
      refine SN3 e124_8 rfl ?_
      refine LA0 e124_9 ?_
      refine Gr e124_10 (o1 L) (hR 1 0 2 rfl) f704 ?_
      refine LI2 e124_13 ?_
      refine Cv1 e124_14 c124_55 (o2 L) (Nat.le_of_ble_eq_true rfl) (Nat.le_of_ble_eq_true rfl) ((s_pick (s := 2) (Or.inl rfl) hR hS.1 h8 hm)) ?_
      refine SA4 e124_17 rfl ?_
      refine LN3 e124_19 ?_
      refine Z_null e124_20 t124_20 ?_
      refine Ki e124_28 kiconst_m1 ?_
      exact Ri e124_29 rt124 (CP.rf h)
    · show Ex 124 0 [some (.ref 1), some (.int p), some (.int q), none, none] [] (amSH L) I J R _
      refine LA0 e124_0 ?_
      refine Gr e124_1 (o1 L) (hR 1 0 2 rfl) f704 ?_
      refine LI1 e124_4 ?_
      refine Cv1 e124_5 c124_55 (o2 L) (Nat.le_of_ble_eq_true rfl) (Nat.le_of_ble_eq_true rfl) ((s_pickno (s := 2) (Or.inl rfl) hR hS.1 h8 hp)) ?_
      refine SN3 e124_8 rfl ?_
      refine LA0 e124_9 ?_
      refine Gr e124_10 (o1 L) (hR 1 0 2 rfl) f704 ?_
      refine LI2 e124_13 ?_
      refine Cv1 e124_14 c124_55 (o2 L) (Nat.le_of_ble_eq_true rfl) (Nat.le_of_ble_eq_true rfl) ((s_pickno (s := 2) (Or.inl rfl) hR hS.1 h8 hq)) ?_
      refine SN4 e124_17 rfl ?_
      refine LN3 e124_19 ?_
      refine Z_null e124_20 t124_20 ?_
      refine Ki e124_28 kiconst_m1 ?_
      exact Ri e124_29 rt124 (CP.rf h)
set_option maxHeartbeats 2000000 in
theorem k_fraction {p q e : Int32} (h : CSt I J R σ) : Cl 128 [.ref 1, .int p, .int q, .int e] (amSH L) I J R (CP I J R σ (.long (sFraction σ.1 p q e))) := by
  obtain ⟨hR, ⟨x, y, hC⟩, hS, hK, hT, hW, hZ, hO⟩ := id h
  have h8 := hO.1.1
  have h0 := h
  have hfk : FrK I I J J := FrK.rf
  have hrk : RC R R := RC.rf
  unfold sFraction
  show Ex 128 0 [some (.ref 1), some (.int p), some (.int q), some (.int e), none] [] (amSH L) I J R _
  by_cases hp : inP σ.1 p
  · rw [if_pos hp]
    obtain ⟨k, hk, rfl, ek⟩ := hp.of h8
    have hok := hO.1.2 k hk
    have ha : amPO (amSH L) R (2 + 2 + 2 * k) := (show SH 2 from Or.inl rfl).pm hR k (by omega)
    have hP := hS.2 k hk
    rw [ek]
    have h5 := hok.2.2
    refine LA0 e128_0 ?_
    refine Gr e128_1 (o1 L) (hR 1 0 2 rfl) f704 ?_
    refine LI1 e128_4 ?_
    refine Cv1 e128_5 c128_55 (o2 L) (Nat.le_of_ble_eq_true rfl) (Nat.le_of_ble_eq_true rfl) ((s_pick (s := 2) (Or.inl rfl) hR hS.1 h8 hk)) ?_
    refine SA4 e128_8 rfl ?_
    refine LA4 e128_10 ?_
    refine N_nonnull e128_12 t128_12 ?_
    refine LA0 e128_19 ?_
    refine Gr e128_20 (o1 L) (hR 1 12 138 rfl) f716 ?_
    refine LA4 e128_23 ?_
    refine Cv1p e128_25 c128_76 (o138 L) (Nat.le_of_ble_eq_true rfl) (Nat.le_of_ble_eq_true rfl) (q_find hR ha hP hok.1 hok.2.1 h5) ?_
    rintro _ I1 J1 R1 ⟨rfl, hJe, hRe, hF1, F, n, hA, hSt⟩
    subst hJe
    subst hRe
    have hn4 := hSt.lt hok.2.1 h5
    have hfk := hfk.tr (FrG.k hF1)
    obtain ⟨en, eF⟩ := frE_of hSt
    rw [← en]
    by_cases e1 : q = -1
    · subst e1
      rw [if_pos rfl]
      refine LI2 e128_28 ?_
      refine Ki e128_29 kiconst_m1 ?_
      refine C_ne e128_30 t128_30 (fun q => absurd q (fun z => z rfl)) (fun _ => ?_)
      refine LA0 e128_33 ?_
      refine Gr e128_34 (o1 L) (hR 1 12 138 rfl) f716 ?_
      refine Cv0 e128_37 c128_73 (o138 L) (Nat.le_of_ble_eq_true rfl) (Nat.le_of_ble_eq_true rfl) ((q_size hA)) ?_
      refine I2l e128_40 ?_
      exact Rj e128_41 rt128 (CP.k h0 hfk hR ⟨_, _, hC⟩ hrk)
    · rw [if_neg e1]
      by_cases gk : 0 ≤ q.toInt ∧ q.toInt < (n : Int)
      · obtain ⟨i, hi, rfl⟩ : ∃ i : Nat, i < n ∧ q = nI i := ⟨q.toInt.toNat, by omega, by rw [← Int32.toInt_inj, nI_toInt (by omega)]; omega⟩
        have ei : (nI i).toInt.toNat = i := by rw [nI_toInt (by omega)]; omega
        rw [ei, ← eF i hi]
        refine LI2 e128_28 ?_
        refine Ki e128_29 kiconst_m1 ?_
        refine C_ne e128_30 t128_30 (fun _ => ?_) (fun q => absurd (e1) q)
        refine LI2 e128_42 ?_
        refine B_lt e128_43 t128_43 (fun q => absurd q (nI_pos (by omega))) (fun _ => ?_)
        refine LI2 e128_46 ?_
        refine LA0 e128_47 ?_
        refine Gr e128_48 (o1 L) (hR 1 12 138 rfl) f716 ?_
        refine Cv0 e128_51 c128_73 (o138 L) (Nat.le_of_ble_eq_true rfl) (Nat.le_of_ble_eq_true rfl) ((q_size hA)) ?_
        refine CN_ge (a := i) (b := n) e128_54 t128_54 rfl rfl (by omega) (by omega) (fun q => absurd q (by omega)) (fun _ => ?_)
        refine LI3 e128_57 ?_
        refine B_lt e128_58 t128_58 (fun hh58 => ?_) (fun hh58 => ?_)
        · refine Kd e128_66 kj4 ?_
          exact Rj e128_69 rt128 (by
          rw [if_neg (fun z => by simp only [i32lt, i32le, show (0 : Int32).toInt = 0 from rfl, show (1 : Int32).toInt = 1 from rfl] at *; omega)]
          exact CP.k h0 hfk hR ⟨_, _, hC⟩ hrk)
        · refine LI3 e128_61 ?_
          refine Ki e128_62 kiconst_1 ?_
          refine C_le e128_63 t128_63 (fun hh63 => ?_) (fun hh63 => ?_)
          · refine LI3 e128_70 ?_
            refine B_ne e128_71 t128_71 (fun hh71 => ?_) (fun hh71 => ?_)
            · refine LA0 e128_86 ?_
              refine Gr e128_87 (o1 L) (hR 1 12 138 rfl) f716 ?_
              refine LI2 e128_90 ?_
              refine Cv1 e128_91 c128_75 (o138 L) (Nat.le_of_ble_eq_true rfl) (Nat.le_of_ble_eq_true rfl) ((q_undr hR hA hn4 hi)) ?_
              refine I2l e128_94 ?_
              exact Rj e128_95 rt128 (by
              simp only [i32lt, i32le, show (0 : Int32).toInt = 0 from rfl, show (1 : Int32).toInt = 1 from rfl] at hh58 hh63
              rw [if_pos ⟨gk, by omega, by omega⟩, if_neg hh71]
              exact CP.k h0 hfk hR ⟨_, _, hC⟩ hrk)
            · refine LA0 e128_74 ?_
              refine Gr e128_75 (o1 L) (hR 1 12 138 rfl) f716 ?_
              refine LI2 e128_78 ?_
              refine Cv1 e128_79 c128_74 (o138 L) (Nat.le_of_ble_eq_true rfl) (Nat.le_of_ble_eq_true rfl) ((q_over hR hA hn4 hi)) ?_
              refine I2l e128_82 ?_
              refine Go e128_83 t128_83 ?_
              exact Rj e128_95 rt128 (by
              simp only [i32lt, i32le, show (0 : Int32).toInt = 0 from rfl, show (1 : Int32).toInt = 1 from rfl] at hh58 hh63
              rw [if_pos ⟨gk, by omega, by omega⟩, if_pos (Decidable.not_not.mp hh71)]
              exact CP.k h0 hfk hR ⟨_, _, hC⟩ hrk)
          · refine Kd e128_66 kj4 ?_
            exact Rj e128_69 rt128 (by
            rw [if_neg (fun z => by simp only [i32lt, i32le, show (0 : Int32).toInt = 0 from rfl, show (1 : Int32).toInt = 1 from rfl] at *; omega)]
            exact CP.k h0 hfk hR ⟨_, _, hC⟩ hrk)
      · rw [if_neg (fun z => gk z.1)]
        refine LI2 e128_28 ?_
        refine Ki e128_29 kiconst_m1 ?_
        refine C_ne e128_30 t128_30 (fun _ => ?_) (fun q => absurd (e1) q)
        refine LI2 e128_42 ?_
        refine B_lt e128_43 t128_43 (fun hh43 => ?_) (fun hh43 => ?_)
        · refine Kd e128_66 kj4 ?_
          exact Rj e128_69 rt128 (CP.k h0 hfk hR ⟨_, _, hC⟩ hrk)
        · refine LI2 e128_46 ?_
          refine LA0 e128_47 ?_
          refine Gr e128_48 (o1 L) (hR 1 12 138 rfl) f716 ?_
          refine Cv0 e128_51 c128_73 (o138 L) (Nat.le_of_ble_eq_true rfl) (Nat.le_of_ble_eq_true rfl) ((q_size hA)) ?_
          refine C_ge e128_54 t128_54 (fun hh54 => ?_) (fun hh54 => ?_)
          · refine Kd e128_66 kj4 ?_
            exact Rj e128_69 rt128 (CP.k h0 hfk hR ⟨_, _, hC⟩ hrk)
          · exact (gk ⟨by simp only [i32lt, show (0 : Int32).toInt = 0 from rfl] at hh43; omega, by simp only [i32le, nI_toInt (show n < 2 ^ 31 by omega)] at hh54; omega⟩).elim
  · rw [if_neg hp]
    refine LA0 e128_0 ?_
    refine Gr e128_1 (o1 L) (hR 1 0 2 rfl) f704 ?_
    refine LI1 e128_4 ?_
    refine Cv1 e128_5 c128_55 (o2 L) (Nat.le_of_ble_eq_true rfl) (Nat.le_of_ble_eq_true rfl) ((s_pickno (s := 2) (Or.inl rfl) hR hS.1 h8 hp)) ?_
    refine SN4 e128_8 rfl ?_
    refine LN4 e128_10 ?_
    refine Z_nonnull e128_12 t128_12 ?_
    refine Kd e128_15 kj4 ?_
    exact Rj e128_18 rt128 (CP.rf h)
end CALLS4
