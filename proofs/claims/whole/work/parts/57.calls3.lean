/-! calls: chain, changes, roots, within, bound, fence, signs (printed by wip/whole/t57.py) -/
theorem ch64 : CH 64 := Or.inl rfl
theorem ch88 : CH 88 := Or.inr (Or.inl rfl)
theorem ch112 : CH 112 := Or.inr (Or.inr rfl)
theorem CH.lt {h : Nat} (hh : CH h) : 64 ≤ h ∧ h ≤ 112 := by rcases hh with e | e | e <;> omega
theorem BuP.k {I I' : amI} {J J' : amJ} {R R' : amR} {h : Nat} {o : Option (List Po)} {v : Option Value} (hh : CH h) (hB : BuP I J R h o v I' J' R') : FrK I I' J J' := by
  have := hh.lt
  exact ⟨fun y hy => hB.1 y (by omega), fun y hy => hB.2.1 y (by omega) (by omega) (by omega) (by omega)⟩
theorem JP.fbb {J J' : amJ} {h y : Nat} {p : Po} (hJ : JP J y p) (hh : CH h) (hf : FrB h J J') (hy : y < 39) : JP J' y p := fun i hi => by
  have := hh.lt
  rw [hf y (by omega) (by omega) (by omega) (by omega)]
  exact hJ i hi
theorem CI.fbb {I I' : amI} {J J' : amJ} {h g : Nat} {l : List Po} (hI : CI I J h l) (hh : CH h) (hg : CH g) (hne : h ≠ g) (h1 : FrI g I I') (h2 : FrB g J J') : CI I' J' h l := by
  obtain ⟨g1, g2, g3, g4, g5, g6, g7⟩ := hI
  have e : I' h = I h := h1 h hne
  have l1 := hh.lt
  refine ⟨fun k hk i hi => ?_, g2, g3, g4, by rw [e]; exact g5, by rw [e]; exact g6, by rw [e]; exact g7⟩
  rw [h2 (h + 4 + 2 * k + 1) (by omega) (by omega) (by omega) (by rcases hh with e | e | e <;> rcases hg with f | f | f <;> omega)]
  exact g1 k hk i hi
theorem CI.fcc {I : amI} {J J' : amJ} {h : Nat} {l : List Po} (hI : CI I J h l) (hh : CH h) (h2 : FrL [42, 44] J J') : CI I J' h l := by
  obtain ⟨g1, g2, g3, g4, g5, g6, g7⟩ := hI
  have l1 := hh.lt
  exact ⟨fun k hk => (g1 k hk).fl h2 (by simp; omega), g2, g3, g4, g5, g6, g7⟩
theorem FSm.fbb {I I' : amI} {J J' : amJ} {x g : Nat} {s : Fs} (hM : FSm I J x s) (hx : FX x) (hg : CH g) (h1 : FrI g I I') (h2 : FrB g J J') : FSm I' J' x s := by
  have l1 := hg.lt
  have l2 : x = 136 ∨ x = 137 := hx
  have e1 : I' x = I x := h1 x (by omega)
  have e2 : J' x = J x := h2 x (by omega) (by omega) (by omega) (by omega)
  unfold FSm
  rw [e1, e2]
  exact hM
theorem FSm.fxx {I I' : amI} {J J' : amJ} {x z : Nat} {s : Fs} (hM : FSm I J x s) (hne : x ≠ z) (h1 : FrI z I I') (h2 : Fr J J' z) : FSm I' J' x s := by
  unfold FSm
  rw [h1 x hne, h2 x hne]
  exact hM
theorem FSm.fcc {I : amI} {J J' : amJ} {x : Nat} {s : Fs} (hM : FSm I J x s) (hx : FX x) (h2 : FrL [42, 44] J J') : FSm I J' x s := by
  have l2 : x = 136 ∨ x = 137 := hx
  unfold FSm
  rw [h2 x (by simp; omega)]
  exact hM
theorem HvP.k {I I' : amI} {J J' : amJ} {R R' : amR} {x : Nat} {o : Option Fs} {v : Option Value} (hx : FX x) (hB : HvP I J R x o v I' J' R') : FrK I I' J J' := by
  have l2 : x = 136 ∨ x = 137 := hx
  exact ⟨fun y hy => hB.2.1 y (by omega), fun y hy => hB.2.2.1 y (by omega)⟩
theorem CmP.k {I : amI} {J J' : amJ} {R R' : amR} {o : Option Po} {v : Option Value} (hB : CmP J R o v J' R') : FrK I I J J' := ⟨fun _ _ => rfl, fun y hy => hB.1 y (by simp; omega)⟩
noncomputable def sChain (ps : List Po) (p k m : Int32) : Int64 := if inP ps p then (match chn (plP ps p) with
    | none => NOv
    | some l => if k = -1 then (nI l.length).toInt64 else if (0 ≤ k.toInt ∧ k.toInt < (l.length : Int)) ∧ 0 ≤ m.toInt ∧ m.toInt ≤ 4 then oI ((l.getD k.toInt.toNat zP) m.toInt.toNat) else NOv) else NOv
noncomputable def sChanges (ps : List Po) (p u v : Int32) : Int32 := if inP ps p then (if isPt u v then (match chn (plP ps p) with
    | none => -3
    | some l => nI (tA l u.toInt v.toInt)) else -1) else -1
noncomputable def sRoots (ps : List Po) (p : Int32) : Int32 := if inP ps p then (match chn (plP ps p) with
    | none => -3
    | some l => nI (tB l) - nI (tU l)) else -1
noncomputable def sWithin (ps : List Po) (p u v t s : Int32) : Int32 := if inP ps p then (if isPt u v ∧ isPt t s ∧ u.toInt * s.toInt < t.toInt * v.toInt then (match chn (plP ps p) with
    | none => -3
    | some l => nI (tA l u.toInt v.toInt) - nI (tA l t.toInt s.toInt)) else -1) else -1
noncomputable def sBound (ps : List Po) (p : Int32) : Int32 := if inP ps p then (match chn (plP ps p) with
    | none => -3
    | some l => if rch l = 0 then -3 else nI (rch l)) else -1
/-- there is such a root -/
abbrev hasR (l : List Po) (k : Int32) : Prop := 0 ≤ k ∧ k < nI (tB l) - nI (tU l)
noncomputable def sFence (ps : List Po) (p k t q : Int32) : Int64 := if inP ps p then (if 0 ≤ t.toInt ∧ t.toInt ≤ 9 then (match chn (plP ps p) with
    | none => NOv
    | some l => if hasR l k then (match fnc l k t.toInt.toNat with
      | none => NOv
      | some s => if q = 0 then (iI (fbU s)).toInt64 else if q = 1 then (iI (fbV s)).toInt64 else if q = 2 then (iI (feU s)).toInt64 else if q = 3 then (iI (feV s)).toInt64 else NOv) else NOv) else NOv) else NOv
noncomputable def sSigns (ps : List Po) (p q : Int32) : Int64 := if inP ps p then (if inP ps q then (match chs (plP ps p) (plP ps q) with
    | none => NOv
    | some l => (nI (tB l) - nI (tU l)).toInt64) else NOv) else NOv
theorem pt_mul {a b : Int32} (ha : -1000 ≤ a.toInt ∧ a.toInt ≤ 1000) (hb : 1 ≤ b.toInt ∧ b.toInt ≤ 1000) : (a * b).toInt = a.toInt * b.toInt := by
  have h := mul_b (x := a.toInt) (y := b.toInt) (B := 1000) (C := 1000) (by omega) (by omega)
  rw [Int32.toInt_mul]
  exact Int.bmod_eq_of_le (by omega) (by omega)
section CALLS3
variable {L : Nat} {I : amI} {J : amJ} {R : amR} {Q : amQ} {σ : PS}
set_option maxHeartbeats 2000000 in
theorem k_chain {p q m : Int32} (h : CSt I J R σ) : Cl 117 [.ref 1, .int p, .int q, .int m] (amSH L) I J R (CP I J R σ (.long (sChain σ.1 p q m))) := by
  obtain ⟨hR, ⟨x, y, hC⟩, hS, hK, hT, hW, hZ, hO⟩ := id h
  have h8 := hO.1.1
  have h0 := h
  have hfk : FrK I I J J := FrK.rf
  have hrk : RC R R := RC.rf
  unfold sChain
  show Ex 117 0 [some (.ref 1), some (.int p), some (.int q), some (.int m), none, none] [] (amSH L) I J R _
  by_cases hp : inP σ.1 p
  · rw [if_pos hp]
    obtain ⟨k, hk, rfl, ek⟩ := hp.of h8
    have hok := hO.1.2 k hk
    have ha : amPO (amSH L) R (2 + 2 + 2 * k) := (show SH 2 from Or.inl rfl).pm hR k (by omega)
    have hP := hS.2 k hk
    rw [ek]
    have h5 := hok.2.2
    refine LA0 e117_0 ?_
    refine Gr e117_1 (o1 L) (hR 1 0 2 rfl) f704 ?_
    refine LI1 e117_4 ?_
    refine Cv1 e117_5 c117_55 (o2 L) (Nat.le_of_ble_eq_true rfl) (Nat.le_of_ble_eq_true rfl) ((s_pick (s := 2) (Or.inl rfl) hR hS.1 h8 hk)) ?_
    refine SA4 e117_8 rfl ?_
    refine LA4 e117_10 ?_
    refine N_null e117_12 t117_12 ?_
    refine LA0 e117_15 ?_
    refine Gr e117_16 (o1 L) (hR 1 7 64 rfl) f711 ?_
    refine LA4 e117_19 ?_
    refine Cv1p e117_21 c117_29 (o64 L) (Nat.le_of_ble_eq_true rfl) (Nat.le_of_ble_eq_true rfl) (h_build ch64 hR hC ha (by omega) hP (hok.b) (fr_ok h5)) ?_
    rintro v1 I1 J1 R1 hBu
    obtain ⟨hfi, hfb, hR, hrc, ⟨x, y, hC⟩, hD⟩ := id hBu
    have h := h.k (BuP.k ch64 hBu) hR ⟨x, y, hC⟩
    obtain ⟨-, -, hS, -, hT, hW, hZ, -⟩ := id h
    have hfk := hfk.tr (BuP.k ch64 hBu)
    have hrk := hrk.tr hrc
    have ha := ha.rc hrc (by omega)
    have hP := hP.fbb ch64 hfb (by omega)
    rcases hD with ⟨l, hll, rfl, hI⟩ | ⟨hll, rfl⟩
    · rw [hll]
      dsimp only
      have hZl := chn_LZ hll (hok.2.1) (h5)
      have hl9l := hI.2.2.2.1
      refine B_ne e117_24 t117_24 (fun _ => ?_) (fun q => absurd (by decide) q)
      by_cases e1 : q = -1
      · subst e1
        rw [if_pos rfl]
        refine LI2 e117_31 ?_
        refine Ki e117_32 kiconst_m1 ?_
        refine C_ne e117_33 t117_33 (fun q => absurd q (fun z => z rfl)) (fun _ => ?_)
        refine LA0 e117_36 ?_
        refine Gr e117_37 (o1 L) (hR 1 7 64 rfl) f711 ?_
        refine Cv0 e117_40 c117_32 (o64 L) (Nat.le_of_ble_eq_true rfl) (Nat.le_of_ble_eq_true rfl) ((h_length ch64 hI)) ?_
        refine I2l e117_43 ?_
        exact Rj e117_44 rt117 (CP.k h0 hfk hR ⟨_, _, hC⟩ hrk)
      · rw [if_neg e1]
        by_cases gk : 0 ≤ q.toInt ∧ q.toInt < (l.length : Int)
        · obtain ⟨i, hi, rfl⟩ : ∃ i : Nat, i < l.length ∧ q = nI i := ⟨q.toInt.toNat, by omega, by rw [← Int32.toInt_inj, nI_toInt (by omega)]; omega⟩
          have ei : (nI i).toInt.toNat = i := by rw [nI_toInt (by omega)]; omega
          rw [ei]
          have gk2 := gk
          have gk : i < l.length := hi
          refine LI2 e117_31 ?_
          refine Ki e117_32 kiconst_m1 ?_
          refine C_ne e117_33 t117_33 (fun _ => ?_) (fun q => absurd (e1) q)
          refine LA0 e117_45 ?_
          refine Gr e117_46 (o1 L) (hR 1 7 64 rfl) f711 ?_
          refine LI2 e117_49 ?_
          refine Cv1 e117_50 c117_33 (o64 L) (Nat.le_of_ble_eq_true rfl) (Nat.le_of_ble_eq_true rfl) ((h_member ch64 hR hI.2.2.2.2.1 (by omega) gk)) ?_
          refine SA5 e117_53 rfl ?_
          refine LA5 e117_55 ?_
          refine N_null e117_57 t117_57 ?_
          refine LI3 e117_60 ?_
          refine B_lt e117_61 t117_61 (fun hh61 => ?_) (fun hh61 => ?_)
          · refine Kd e117_69 kj4 ?_
            exact Rj e117_72 rt117 (by
            simp only [i32lt, i32le, show (0 : Int32).toInt = 0 from rfl, show (4 : Int32).toInt = 4 from rfl] at *
            rw [if_neg (fun z => by omega)]
            exact CP.k h0 hfk hR ⟨_, _, hC⟩ hrk)
          · refine LI3 e117_64 ?_
            refine Ki e117_65 kiconst_4 ?_
            refine C_le e117_66 t117_66 (fun hh66 => ?_) (fun hh66 => ?_)
            · refine LA5 e117_73 ?_
              refine LI3 e117_75 ?_
              refine Cv1 e117_76 c117_3 (ch64.pm hR (L := L) i (by omega)).1 (Nat.le_of_ble_eq_true rfl) (Nat.le_of_ble_eq_true rfl) ((p_at (ch64.pm hR i (by omega)) m)) ?_
              exact Rj e117_79 rt117 (by
              simp only [i32lt, i32le, show (0 : Int32).toInt = 0 from rfl, show (4 : Int32).toInt = 4 from rfl] at *
              rw [if_pos ⟨gk2, by omega, by omega⟩]
              have e : atv J1 (64 + 4 + 2 * i) m = oI ((l.getD i zP) m.toInt.toNat) := by
                unfold atv
                rw [if_pos ⟨by omega, by omega⟩]
                exact hI.1 i hi _ (by omega)
              rw [e]
              exact CP.k h0 hfk hR ⟨_, _, hC⟩ hrk)
            · refine Kd e117_69 kj4 ?_
              exact Rj e117_72 rt117 (by
              simp only [i32lt, i32le, show (0 : Int32).toInt = 0 from rfl, show (4 : Int32).toInt = 4 from rfl] at *
              rw [if_neg (fun z => by omega)]
              exact CP.k h0 hfk hR ⟨_, _, hC⟩ hrk)
        · rw [if_neg (fun z => gk z.1)]
          refine LI2 e117_31 ?_
          refine Ki e117_32 kiconst_m1 ?_
          refine C_ne e117_33 t117_33 (fun _ => ?_) (fun q => absurd (e1) q)
          refine LA0 e117_45 ?_
          refine Gr e117_46 (o1 L) (hR 1 7 64 rfl) f711 ?_
          refine LI2 e117_49 ?_
          refine Cv1 e117_50 c117_33 (o64 L) (Nat.le_of_ble_eq_true rfl) (Nat.le_of_ble_eq_true rfl) ((h_memberno ch64 hR hI.2.2.2.2.1 (by omega) gk)) ?_
          refine SN5 e117_53 rfl ?_
          refine LN5 e117_55 ?_
          refine Z_null e117_57 t117_57 ?_
          refine Kd e117_69 kj4 ?_
          exact Rj e117_72 rt117 (CP.k h0 hfk hR ⟨_, _, hC⟩ hrk)
    · rw [hll]
      refine B_ne e117_24 t117_24 (fun q => absurd q (fun z => z rfl)) (fun _ => ?_)
      refine Kd e117_27 kj4 ?_
      exact Rj e117_30 rt117 (CP.k h0 hfk hR ⟨_, _, hC⟩ hrk)
  · rw [if_neg hp]
    refine LA0 e117_0 ?_
    refine Gr e117_1 (o1 L) (hR 1 0 2 rfl) f704 ?_
    refine LI1 e117_4 ?_
    refine Cv1 e117_5 c117_55 (o2 L) (Nat.le_of_ble_eq_true rfl) (Nat.le_of_ble_eq_true rfl) ((s_pickno (s := 2) (Or.inl rfl) hR hS.1 h8 hp)) ?_
    refine SN4 e117_8 rfl ?_
    refine LN4 e117_10 ?_
    refine Z_null e117_12 t117_12 ?_
    refine Kd e117_27 kj4 ?_
    exact Rj e117_30 rt117 (CP.rf h)
set_option maxHeartbeats 2000000 in
theorem k_changes {p u v : Int32} (h : CSt I J R σ) : Cl 118 [.ref 1, .int p, .int u, .int v] (amSH L) I J R (CP I J R σ (.int (sChanges σ.1 p u v))) := by
  obtain ⟨hR, ⟨x, y, hC⟩, hS, hK, hT, hW, hZ, hO⟩ := id h
  have h8 := hO.1.1
  have h0 := h
  have hfk : FrK I I J J := FrK.rf
  have hrk : RC R R := RC.rf
  unfold sChanges
  show Ex 118 0 [some (.ref 1), some (.int p), some (.int u), some (.int v), none] [] (amSH L) I J R _
  by_cases hp : inP σ.1 p
  · rw [if_pos hp]
    obtain ⟨k, hk, rfl, ek⟩ := hp.of h8
    have hok := hO.1.2 k hk
    have ha : amPO (amSH L) R (2 + 2 + 2 * k) := (show SH 2 from Or.inl rfl).pm hR k (by omega)
    have hP := hS.2 k hk
    rw [ek]
    have h5 := hok.2.2
    refine LA0 e118_0 ?_
    refine Gr e118_1 (o1 L) (hR 1 0 2 rfl) f704 ?_
    refine LI1 e118_4 ?_
    refine Cv1 e118_5 c118_55 (o2 L) (Nat.le_of_ble_eq_true rfl) (Nat.le_of_ble_eq_true rfl) ((s_pick (s := 2) (Or.inl rfl) hR hS.1 h8 hk)) ?_
    refine SA4 e118_8 rfl ?_
    refine LA4 e118_10 ?_
    refine N_null e118_12 t118_12 ?_
    refine LI2 e118_15 ?_
    refine LI3 e118_16 ?_
    refine Cs2 e118_17 c118_146 (Nat.le_of_ble_eq_true rfl) (Nat.le_of_ble_eq_true rfl) (g_badPoint) ?_
    refine B_eq e118_20 t118_20 (fun h20 => ?_) (fun h20 => ?_)
    · have g : isPt u v := Decidable.not_not.mp (bI_z h20)
      rw [if_pos g]
      refine LA0 e118_25 ?_
      refine Gr e118_26 (o1 L) (hR 1 7 64 rfl) f711 ?_
      refine LA4 e118_29 ?_
      refine Cv1p e118_31 c118_29 (o64 L) (Nat.le_of_ble_eq_true rfl) (Nat.le_of_ble_eq_true rfl) (h_build ch64 hR hC ha (by omega) hP (hok.b) (fr_ok h5)) ?_
      rintro v1 I1 J1 R1 hBu
      obtain ⟨hfi, hfb, hR, hrc, ⟨x, y, hC⟩, hD⟩ := id hBu
      have h := h.k (BuP.k ch64 hBu) hR ⟨x, y, hC⟩
      obtain ⟨-, -, hS, -, hT, hW, hZ, -⟩ := id h
      have hfk := hfk.tr (BuP.k ch64 hBu)
      have hrk := hrk.tr hrc
      have ha := ha.rc hrc (by omega)
      have hP := hP.fbb ch64 hfb (by omega)
      rcases hD with ⟨l, hll, rfl, hI⟩ | ⟨hll, rfl⟩
      · rw [hll]
        dsimp only
        have hZl := chn_LZ hll (hok.2.1) (h5)
        have hl9l := hI.2.2.2.1
        refine B_eq e118_34 t118_34 (fun q => absurd q (by decide)) (fun _ => ?_)
        refine LA0 e118_37 ?_
        refine Gr e118_38 (o1 L) (hR 1 7 64 rfl) f711 ?_
        refine LI2 e118_41 ?_
        refine LI3 e118_42 ?_
        refine Cv2 e118_43 c118_34 (o64 L) (Nat.le_of_ble_eq_true rfl) (Nat.le_of_ble_eq_true rfl) ((h_turnsAt ch64 hR hI.2.2.2.2.1 (by omega) hI.1 hI.2.1.lb hZl g.2.1 g.2.2)) ?_
        refine Go e118_46 t118_46 ?_
        exact Ri e118_51 rt118 (CP.k h0 hfk hR ⟨_, _, hC⟩ hrk)
      · rw [hll]
        refine B_eq e118_34 t118_34 (fun _ => ?_) (fun q => absurd (rfl) q)
        refine Ki e118_49 kbipush_m3 ?_
        exact Ri e118_51 rt118 (CP.k h0 hfk hR ⟨_, _, hC⟩ hrk)
    · refine Ki e118_23 kiconst_m1 ?_
      exact Ri e118_24 rt118 (by
      rw [if_neg (bI_t h20)]
      exact CP.rf h)
  · rw [if_neg hp]
    refine LA0 e118_0 ?_
    refine Gr e118_1 (o1 L) (hR 1 0 2 rfl) f704 ?_
    refine LI1 e118_4 ?_
    refine Cv1 e118_5 c118_55 (o2 L) (Nat.le_of_ble_eq_true rfl) (Nat.le_of_ble_eq_true rfl) ((s_pickno (s := 2) (Or.inl rfl) hR hS.1 h8 hp)) ?_
    refine SN4 e118_8 rfl ?_
    refine LN4 e118_10 ?_
    refine Z_null e118_12 t118_12 ?_
    refine Ki e118_23 kiconst_m1 ?_
    exact Ri e118_24 rt118 (CP.rf h)
set_option maxHeartbeats 2000000 in
theorem k_roots {p : Int32} (h : CSt I J R σ) : Cl 119 [.ref 1, .int p] (amSH L) I J R (CP I J R σ (.int (sRoots σ.1 p))) := by
  obtain ⟨hR, ⟨x, y, hC⟩, hS, hK, hT, hW, hZ, hO⟩ := id h
  have h8 := hO.1.1
  have h0 := h
  have hfk : FrK I I J J := FrK.rf
  have hrk : RC R R := RC.rf
  unfold sRoots
  show Ex 119 0 [some (.ref 1), some (.int p), none] [] (amSH L) I J R _
  by_cases hp : inP σ.1 p
  · rw [if_pos hp]
    obtain ⟨k, hk, rfl, ek⟩ := hp.of h8
    have hok := hO.1.2 k hk
    have ha : amPO (amSH L) R (2 + 2 + 2 * k) := (show SH 2 from Or.inl rfl).pm hR k (by omega)
    have hP := hS.2 k hk
    rw [ek]
    have h5 := hok.2.2
    refine LA0 e119_0 ?_
    refine Gr e119_1 (o1 L) (hR 1 0 2 rfl) f704 ?_
    refine LI1 e119_4 ?_
    refine Cv1 e119_5 c119_55 (o2 L) (Nat.le_of_ble_eq_true rfl) (Nat.le_of_ble_eq_true rfl) ((s_pick (s := 2) (Or.inl rfl) hR hS.1 h8 hk)) ?_
    refine SA2 e119_8 rfl ?_
    refine LA2 e119_9 ?_
    refine N_nonnull e119_10 t119_10 ?_
    refine LA0 e119_15 ?_
    refine Gr e119_16 (o1 L) (hR 1 7 64 rfl) f711 ?_
    refine LA2 e119_19 ?_
    refine Cv1p e119_20 c119_29 (o64 L) (Nat.le_of_ble_eq_true rfl) (Nat.le_of_ble_eq_true rfl) (h_build ch64 hR hC ha (by omega) hP (hok.b) (fr_ok h5)) ?_
    rintro v1 I1 J1 R1 hBu
    obtain ⟨hfi, hfb, hR, hrc, ⟨x, y, hC⟩, hD⟩ := id hBu
    have h := h.k (BuP.k ch64 hBu) hR ⟨x, y, hC⟩
    obtain ⟨-, -, hS, -, hT, hW, hZ, -⟩ := id h
    have hfk := hfk.tr (BuP.k ch64 hBu)
    have hrk := hrk.tr hrc
    have ha := ha.rc hrc (by omega)
    have hP := hP.fbb ch64 hfb (by omega)
    rcases hD with ⟨l, hll, rfl, hI⟩ | ⟨hll, rfl⟩
    · rw [hll]
      dsimp only
      have hZl := chn_LZ hll (hok.2.1) (h5)
      have hl9l := hI.2.2.2.1
      refine B_eq e119_23 t119_23 (fun q => absurd q (by decide)) (fun _ => ?_)
      refine LA0 e119_26 ?_
      refine Gr e119_27 (o1 L) (hR 1 7 64 rfl) f711 ?_
      refine Cv0 e119_30 c119_39 (o64 L) (Nat.le_of_ble_eq_true rfl) (Nat.le_of_ble_eq_true rfl) ((h_total ch64 hI)) ?_
      refine Go e119_33 t119_33 ?_
      exact Ri e119_38 rt119 (CP.k h0 hfk hR ⟨_, _, hC⟩ hrk)
    · rw [hll]
      refine B_eq e119_23 t119_23 (fun _ => ?_) (fun q => absurd (rfl) q)
      refine Ki e119_36 kbipush_m3 ?_
      exact Ri e119_38 rt119 (CP.k h0 hfk hR ⟨_, _, hC⟩ hrk)
  · rw [if_neg hp]
    refine LA0 e119_0 ?_
    refine Gr e119_1 (o1 L) (hR 1 0 2 rfl) f704 ?_
    refine LI1 e119_4 ?_
    refine Cv1 e119_5 c119_55 (o2 L) (Nat.le_of_ble_eq_true rfl) (Nat.le_of_ble_eq_true rfl) ((s_pickno (s := 2) (Or.inl rfl) hR hS.1 h8 hp)) ?_
    refine SN2 e119_8 rfl ?_
    refine LN2 e119_9 ?_
    refine Z_nonnull e119_10 t119_10 ?_
    refine Ki e119_13 kiconst_m1 ?_
    exact Ri e119_14 rt119 (CP.rf h)
set_option maxHeartbeats 2000000 in
theorem k_within {p u v t s : Int32} (h : CSt I J R σ) : Cl 120 [.ref 1, .int p, .int u, .int v, .int t, .int s] (amSH L) I J R (CP I J R σ (.int (sWithin σ.1 p u v t s))) := by
  obtain ⟨hR, ⟨x, y, hC⟩, hS, hK, hT, hW, hZ, hO⟩ := id h
  have h8 := hO.1.1
  have h0 := h
  have hfk : FrK I I J J := FrK.rf
  have hrk : RC R R := RC.rf
  unfold sWithin
  show Ex 120 0 [some (.ref 1), some (.int p), some (.int u), some (.int v), some (.int t), some (.int s), none] [] (amSH L) I J R _
  by_cases hp : inP σ.1 p
  · rw [if_pos hp]
    obtain ⟨k, hk, rfl, ek⟩ := hp.of h8
    have hok := hO.1.2 k hk
    have ha : amPO (amSH L) R (2 + 2 + 2 * k) := (show SH 2 from Or.inl rfl).pm hR k (by omega)
    have hP := hS.2 k hk
    rw [ek]
    have h5 := hok.2.2
    refine LA0 e120_0 ?_
    refine Gr e120_1 (o1 L) (hR 1 0 2 rfl) f704 ?_
    refine LI1 e120_4 ?_
    refine Cv1 e120_5 c120_55 (o2 L) (Nat.le_of_ble_eq_true rfl) (Nat.le_of_ble_eq_true rfl) ((s_pick (s := 2) (Or.inl rfl) hR hS.1 h8 hk)) ?_
    refine SA6 e120_8 rfl ?_
    refine LA6 e120_10 ?_
    refine N_null e120_12 t120_12 ?_
    refine LI2 e120_15 ?_
    refine LI3 e120_16 ?_
    refine Cs2 e120_17 c120_146 (Nat.le_of_ble_eq_true rfl) (Nat.le_of_ble_eq_true rfl) (g_badPoint) ?_
    refine B_ne e120_20 t120_20 (fun hh20 => ?_) (fun hh20 => ?_)
    · refine Ki e120_44 kiconst_m1 ?_
      exact Ri e120_45 rt120 (by
      rw [if_neg (fun z => by
        first
          | exact bI_t hh20 z.1
          | exact bI_t hh30 z.2.1
          | (have q := z.2.2
             rw [i32lt, pt_mul z.1.1 z.2.1.2, pt_mul z.2.1.1 z.1.2] at hh41
             omega))]
      exact CP.rf h)
    · refine LI4 e120_23 ?_
      refine LI5 e120_25 ?_
      refine Cs2 e120_27 c120_146 (Nat.le_of_ble_eq_true rfl) (Nat.le_of_ble_eq_true rfl) (g_badPoint) ?_
      refine B_ne e120_30 t120_30 (fun hh30 => ?_) (fun hh30 => ?_)
      · refine Ki e120_44 kiconst_m1 ?_
        exact Ri e120_45 rt120 (by
        rw [if_neg (fun z => by
          first
            | exact bI_t hh20 z.1
            | exact bI_t hh30 z.2.1
            | (have q := z.2.2
               rw [i32lt, pt_mul z.1.1 z.2.1.2, pt_mul z.2.1.1 z.1.2] at hh41
               omega))]
        exact CP.rf h)
      · refine LI2 e120_33 ?_
        refine LI5 e120_34 ?_
        refine Imul e120_36 ?_
        refine LI4 e120_37 ?_
        refine LI3 e120_39 ?_
        refine Imul e120_40 ?_
        refine C_lt e120_41 t120_41 (fun hh41 => ?_) (fun hh41 => ?_)
        · have g : isPt u v := Decidable.not_not.mp (bI_f hh20)
          have g2 : isPt t s := Decidable.not_not.mp (bI_f hh30)
          rw [if_pos ⟨g, g2, by rw [i32lt, pt_mul g.1 g2.2, pt_mul g2.1 g.2] at hh41; exact hh41⟩]
          refine LA0 e120_46 ?_
          refine Gr e120_47 (o1 L) (hR 1 7 64 rfl) f711 ?_
          refine LA6 e120_50 ?_
          refine Cv1p e120_52 c120_29 (o64 L) (Nat.le_of_ble_eq_true rfl) (Nat.le_of_ble_eq_true rfl) (h_build ch64 hR hC ha (by omega) hP (hok.b) (fr_ok h5)) ?_
          rintro v1 I1 J1 R1 hBu
          obtain ⟨hfi, hfb, hR, hrc, ⟨x, y, hC⟩, hD⟩ := id hBu
          have h := h.k (BuP.k ch64 hBu) hR ⟨x, y, hC⟩
          obtain ⟨-, -, hS, -, hT, hW, hZ, -⟩ := id h
          have hfk := hfk.tr (BuP.k ch64 hBu)
          have hrk := hrk.tr hrc
          have ha := ha.rc hrc (by omega)
          have hP := hP.fbb ch64 hfb (by omega)
          rcases hD with ⟨l, hll, rfl, hI⟩ | ⟨hll, rfl⟩
          · rw [hll]
            dsimp only
            have hZl := chn_LZ hll (hok.2.1) (h5)
            have hl9l := hI.2.2.2.1
            refine B_eq e120_55 t120_55 (fun q => absurd q (by decide)) (fun _ => ?_)
            refine LA0 e120_58 ?_
            refine Gr e120_59 (o1 L) (hR 1 7 64 rfl) f711 ?_
            refine LI2 e120_62 ?_
            refine LI3 e120_63 ?_
            refine Cv2 e120_64 c120_34 (o64 L) (Nat.le_of_ble_eq_true rfl) (Nat.le_of_ble_eq_true rfl) ((h_turnsAt ch64 hR hI.2.2.2.2.1 (by omega) hI.1 hI.2.1.lb hZl g.2.1 g.2.2)) ?_
            refine LA0 e120_67 ?_
            refine Gr e120_68 (o1 L) (hR 1 7 64 rfl) f711 ?_
            refine LI4 e120_71 ?_
            refine LI5 e120_73 ?_
            refine Cv2 e120_75 c120_34 (o64 L) (Nat.le_of_ble_eq_true rfl) (Nat.le_of_ble_eq_true rfl) ((h_turnsAt ch64 hR hI.2.2.2.2.1 (by omega) hI.1 hI.2.1.lb hZl g2.2.1 g2.2.2)) ?_
            refine Isub e120_78 ?_
            refine Go e120_79 t120_79 ?_
            exact Ri e120_84 rt120 (CP.k h0 hfk hR ⟨_, _, hC⟩ hrk)
          · rw [hll]
            refine B_eq e120_55 t120_55 (fun _ => ?_) (fun q => absurd (rfl) q)
            refine Ki e120_82 kbipush_m3 ?_
            exact Ri e120_84 rt120 (CP.k h0 hfk hR ⟨_, _, hC⟩ hrk)
        · refine Ki e120_44 kiconst_m1 ?_
          exact Ri e120_45 rt120 (by
          rw [if_neg (fun z => by
            first
              | exact bI_t hh20 z.1
              | exact bI_t hh30 z.2.1
              | (have q := z.2.2
                 rw [i32lt, pt_mul z.1.1 z.2.1.2, pt_mul z.2.1.1 z.1.2] at hh41
                 omega))]
          exact CP.rf h)
  · rw [if_neg hp]
    refine LA0 e120_0 ?_
    refine Gr e120_1 (o1 L) (hR 1 0 2 rfl) f704 ?_
    refine LI1 e120_4 ?_
    refine Cv1 e120_5 c120_55 (o2 L) (Nat.le_of_ble_eq_true rfl) (Nat.le_of_ble_eq_true rfl) ((s_pickno (s := 2) (Or.inl rfl) hR hS.1 h8 hp)) ?_
    refine SN6 e120_8 rfl ?_
    refine LN6 e120_10 ?_
    refine Z_null e120_12 t120_12 ?_
    refine Ki e120_44 kiconst_m1 ?_
    exact Ri e120_45 rt120 (CP.rf h)
set_option maxHeartbeats 2000000 in
theorem k_bound {p : Int32} (h : CSt I J R σ) : Cl 121 [.ref 1, .int p] (amSH L) I J R (CP I J R σ (.int (sBound σ.1 p))) := by
  obtain ⟨hR, ⟨x, y, hC⟩, hS, hK, hT, hW, hZ, hO⟩ := id h
  have h8 := hO.1.1
  have h0 := h
  have hfk : FrK I I J J := FrK.rf
  have hrk : RC R R := RC.rf
  unfold sBound
  show Ex 121 0 [some (.ref 1), some (.int p), none, none] [] (amSH L) I J R _
  by_cases hp : inP σ.1 p
  · rw [if_pos hp]
    obtain ⟨k, hk, rfl, ek⟩ := hp.of h8
    have hok := hO.1.2 k hk
    have ha : amPO (amSH L) R (2 + 2 + 2 * k) := (show SH 2 from Or.inl rfl).pm hR k (by omega)
    have hP := hS.2 k hk
    rw [ek]
    have h5 := hok.2.2
    refine LA0 e121_0 ?_
    refine Gr e121_1 (o1 L) (hR 1 0 2 rfl) f704 ?_
    refine LI1 e121_4 ?_
    refine Cv1 e121_5 c121_55 (o2 L) (Nat.le_of_ble_eq_true rfl) (Nat.le_of_ble_eq_true rfl) ((s_pick (s := 2) (Or.inl rfl) hR hS.1 h8 hk)) ?_
    refine SA2 e121_8 rfl ?_
    refine LA2 e121_9 ?_
    refine N_nonnull e121_10 t121_10 ?_
    refine LA0 e121_15 ?_
    refine Gr e121_16 (o1 L) (hR 1 7 64 rfl) f711 ?_
    refine LA2 e121_19 ?_
    refine Cv1p e121_20 c121_29 (o64 L) (Nat.le_of_ble_eq_true rfl) (Nat.le_of_ble_eq_true rfl) (h_build ch64 hR hC ha (by omega) hP (hok.b) (fr_ok h5)) ?_
    rintro v1 I1 J1 R1 hBu
    obtain ⟨hfi, hfb, hR, hrc, ⟨x, y, hC⟩, hD⟩ := id hBu
    have h := h.k (BuP.k ch64 hBu) hR ⟨x, y, hC⟩
    obtain ⟨-, -, hS, -, hT, hW, hZ, -⟩ := id h
    have hfk := hfk.tr (BuP.k ch64 hBu)
    have hrk := hrk.tr hrc
    have ha := ha.rc hrc (by omega)
    have hP := hP.fbb ch64 hfb (by omega)
    rcases hD with ⟨l, hll, rfl, hI⟩ | ⟨hll, rfl⟩
    · rw [hll]
      dsimp only
      have hZl := chn_LZ hll (hok.2.1) (h5)
      have hl9l := hI.2.2.2.1
      refine B_eq e121_23 t121_23 (fun q => absurd q (by decide)) (fun _ => ?_)
      refine LA0 e121_26 ?_
      refine Gr e121_27 (o1 L) (hR 1 7 64 rfl) f711 ?_
      refine Cv0 e121_30 c121_42 (o64 L) (Nat.le_of_ble_eq_true rfl) (Nat.le_of_ble_eq_true rfl) ((h_reach ch64 hR hI hZl)) ?_
      refine Go e121_33 t121_33 ?_
      refine SI3 e121_37 rfl ?_
      refine LI3 e121_38 ?_
      refine B_le e121_39 t121_39 (fun hh39 => ?_) (fun hh39 => ?_)
      · refine Ki e121_46 kbipush_m3 ?_
        exact Ri e121_48 rt121 (by
        have hr2 : rch l ≤ 512 := rcF_le l (n := 10) (m := 1) rfl
        rw [i32le, nI_toInt (by omega), show (0 : Int32).toInt = 0 from rfl] at hh39
        rw [if_pos (by omega)]
        exact CP.k h0 hfk hR ⟨_, _, hC⟩ hrk)
      · refine LI3 e121_42 ?_
        refine Go e121_43 t121_43 ?_
        exact Ri e121_48 rt121 (by
        have hr2 : rch l ≤ 512 := rcF_le l (n := 10) (m := 1) rfl
        rw [i32le, nI_toInt (by omega), show (0 : Int32).toInt = 0 from rfl] at hh39
        rw [if_neg (by omega)]
        exact CP.k h0 hfk hR ⟨_, _, hC⟩ hrk)
    · rw [hll]
      refine B_eq e121_23 t121_23 (fun _ => ?_) (fun q => absurd (rfl) q)
      refine Ki e121_36 kiconst_0 ?_
      refine SI3 e121_37 rfl ?_
      refine LI3 e121_38 ?_
      refine B_le e121_39 t121_39 (fun _ => ?_) (fun q => absurd (by decide) q)
      refine Ki e121_46 kbipush_m3 ?_
      exact Ri e121_48 rt121 (CP.k h0 hfk hR ⟨_, _, hC⟩ hrk)
  · rw [if_neg hp]
    refine LA0 e121_0 ?_
    refine Gr e121_1 (o1 L) (hR 1 0 2 rfl) f704 ?_
    refine LI1 e121_4 ?_
    refine Cv1 e121_5 c121_55 (o2 L) (Nat.le_of_ble_eq_true rfl) (Nat.le_of_ble_eq_true rfl) ((s_pickno (s := 2) (Or.inl rfl) hR hS.1 h8 hp)) ?_
    refine SN2 e121_8 rfl ?_
    refine LN2 e121_9 ?_
    refine Z_nonnull e121_10 t121_10 ?_
    refine Ki e121_13 kiconst_m1 ?_
    exact Ri e121_14 rt121 (CP.rf h)
set_option maxHeartbeats 2000000 in
theorem k_signs {p q : Int32} (h : CSt I J R σ) : Cl 126 [.ref 1, .int p, .int q] (amSH L) I J R (CP I J R σ (.long (sSigns σ.1 p q))) := by
  obtain ⟨hR, ⟨x, y, hC⟩, hS, hK, hT, hW, hZ, hO⟩ := id h
  have h8 := hO.1.1
  have h0 := h
  have hfk : FrK I I J J := FrK.rf
  have hrk : RC R R := RC.rf
  unfold sSigns
  show Ex 126 0 [some (.ref 1), some (.int p), some (.int q), none, none] [] (amSH L) I J R _
  by_cases hp : inP σ.1 p
  · rw [if_pos hp]
    obtain ⟨k, hk, rfl, ek⟩ := hp.of h8
    have hok := hO.1.2 k hk
    have ha : amPO (amSH L) R (2 + 2 + 2 * k) := (show SH 2 from Or.inl rfl).pm hR k (by omega)
    have hP := hS.2 k hk
    rw [ek]
    have h5 := hok.2.2
    by_cases hq : inP σ.1 q
    · rw [if_pos hq]
      obtain ⟨m, hm, rfl, ekm⟩ := hq.of h8
      rw [ekm]
      have hokm := hO.1.2 m hm
      have hb : amPO (amSH L) R (2 + 2 + 2 * m) := (show SH 2 from Or.inl rfl).pm hR m (by omega)
      have hPm := hS.2 m hm
      refine LA0 e126_0 ?_
      refine Gr e126_1 (o1 L) (hR 1 0 2 rfl) f704 ?_
      refine LI1 e126_4 ?_
      refine Cv1 e126_5 c126_55 (o2 L) (Nat.le_of_ble_eq_true rfl) (Nat.le_of_ble_eq_true rfl) ((s_pick (s := 2) (Or.inl rfl) hR hS.1 h8 hk)) ?_
      refine SA3 e126_8 rfl ?_
      refine LA0 e126_9 ?_
      refine Gr e126_10 (o1 L) (hR 1 0 2 rfl) f704 ?_
      refine LI2 e126_13 ?_
      refine Cv1 e126_14 c126_55 (o2 L) (Nat.le_of_ble_eq_true rfl) (Nat.le_of_ble_eq_true rfl) ((s_pick (s := 2) (Or.inl rfl) hR hS.1 h8 hm)) ?_
      refine SA4 e126_17 rfl ?_
      refine LA3 e126_19 ?_
      refine N_null e126_20 t126_20 ?_
      refine LA4 e126_23 ?_
      refine N_null e126_25 t126_25 ?_
      refine LA0 e126_28 ?_
      refine Gr e126_29 (o1 L) (hR 1 7 64 rfl) f711 ?_
      refine LA3 e126_32 ?_
      refine LA4 e126_33 ?_
      refine Cv2p e126_35 c126_30 (o64 L) (Nat.le_of_ble_eq_true rfl) (Nat.le_of_ble_eq_true rfl) (h_buildSum ch64 hR hC ha (by omega) hb (by omega) ⟨by omega, by omega, by omega⟩ (by omega) hP hok.b hPm (hokm.1.mono (by decide)) (fr_ok h5) (fun f hf => (fre_sz hf hok.2.1 h5).1)) ?_
      rintro v1 I1 J1 R1 hBu
      obtain ⟨hfi, hfb, hR, hrc, ⟨x, y, hC⟩, hD⟩ := id hBu
      have hfk := hfk.tr (BuP.k ch64 hBu)
      have hrk := hrk.tr hrc
      rcases hD with ⟨l, hll, rfl, hI⟩ | ⟨hll, rfl⟩
      · rw [hll]
        dsimp only
        refine B_ne e126_38 t126_38 (fun _ => ?_) (fun q => absurd (by decide) q)
        refine LA0 e126_45 ?_
        refine Gr e126_46 (o1 L) (hR 1 7 64 rfl) f711 ?_
        refine Cv0 e126_49 c126_39 (o64 L) (Nat.le_of_ble_eq_true rfl) (Nat.le_of_ble_eq_true rfl) ((h_total ch64 hI)) ?_
        refine I2l e126_52 ?_
        exact Rj e126_53 rt126 (CP.k h0 hfk hR ⟨_, _, hC⟩ hrk)
      · rw [hll]
        refine B_ne e126_38 t126_38 (fun q => absurd q (fun z => z rfl)) (fun _ => ?_)
        refine Kd e126_41 kj4 ?_
        exact Rj e126_44 rt126 (CP.k h0 hfk hR ⟨_, _, hC⟩ hrk)
    · rw [if_neg hq]
      refine LA0 e126_0 ?_
      refine Gr e126_1 (o1 L) (hR 1 0 2 rfl) f704 ?_
      refine LI1 e126_4 ?_
      refine Cv1 e126_5 c126_55 (o2 L) (Nat.le_of_ble_eq_true rfl) (Nat.le_of_ble_eq_true rfl) ((s_pick (s := 2) (Or.inl rfl) hR hS.1 h8 hk)) ?_
      refine SA3 e126_8 rfl ?_
      refine LA0 e126_9 ?_
      refine Gr e126_10 (o1 L) (hR 1 0 2 rfl) f704 ?_
      refine LI2 e126_13 ?_
      refine Cv1 e126_14 c126_55 (o2 L) (Nat.le_of_ble_eq_true rfl) (Nat.le_of_ble_eq_true rfl) ((s_pickno (s := 2) (Or.inl rfl) hR hS.1 h8 hq)) ?_
      refine SN4 e126_17 rfl ?_
      refine LA3 e126_19 ?_
      refine N_null e126_20 t126_20 ?_
      refine LN4 e126_23 ?_
      refine Z_null e126_25 t126_25 ?_
      refine Kd e126_41 kj4 ?_
      exact Rj e126_44 rt126 (CP.rf h)
  · rw [if_neg hp]
    by_cases hq : inP σ.1 q
    · obtain ⟨m, hm, rfl, ekm⟩ := hq.of h8
      refine LA0 e126_0 ?_
      refine Gr e126_1 (o1 L) (hR 1 0 2 rfl) f704 ?_
      refine LI1 e126_4 ?_
      refine Cv1 e126_5 c126_55 (o2 L) (Nat.le_of_ble_eq_true rfl) (Nat.le_of_ble_eq_true rfl) ((s_pickno (s := 2) (Or.inl rfl) hR hS.1 h8 hp)) ?_
      refine SN3 e126_8 rfl ?_
      refine LA0 e126_9 ?_
      refine Gr e126_10 (o1 L) (hR 1 0 2 rfl) f704 ?_
      refine LI2 e126_13 ?_
      refine Cv1 e126_14 c126_55 (o2 L) (Nat.le_of_ble_eq_true rfl) (Nat.le_of_ble_eq_true rfl) ((s_pick (s := 2) (Or.inl rfl) hR hS.1 h8 hm)) ?_
      refine SA4 e126_17 rfl ?_
      refine LN3 e126_19 ?_
      refine Z_null e126_20 t126_20 ?_
      refine Kd e126_41 kj4 ?_
      exact Rj e126_44 rt126 (CP.rf h)
    · show Ex 126 0 [some (.ref 1), some (.int p), some (.int q), none, none] [] (amSH L) I J R _
      refine LA0 e126_0 ?_
      refine Gr e126_1 (o1 L) (hR 1 0 2 rfl) f704 ?_
      refine LI1 e126_4 ?_
      refine Cv1 e126_5 c126_55 (o2 L) (Nat.le_of_ble_eq_true rfl) (Nat.le_of_ble_eq_true rfl) ((s_pickno (s := 2) (Or.inl rfl) hR hS.1 h8 hp)) ?_
      refine SN3 e126_8 rfl ?_
      refine LA0 e126_9 ?_
      refine Gr e126_10 (o1 L) (hR 1 0 2 rfl) f704 ?_
      refine LI2 e126_13 ?_
      refine Cv1 e126_14 c126_55 (o2 L) (Nat.le_of_ble_eq_true rfl) (Nat.le_of_ble_eq_true rfl) ((s_pickno (s := 2) (Or.inl rfl) hR hS.1 h8 hq)) ?_
      refine SN4 e126_17 rfl ?_
      refine LN3 e126_19 ?_
      refine Z_null e126_20 t126_20 ?_
      refine Kd e126_41 kj4 ?_
      exact Rj e126_44 rt126 (CP.rf h)
end CALLS3
