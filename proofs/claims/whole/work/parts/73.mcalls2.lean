/-! the reference: count, paper, feed, get, set, image, back (printed by wip/whole/t73.py) -/
theorem up_o {I : amI} {z i y j : Nat} {v : Int32} (h : ¬ (y = z ∧ j = i)) : amU I z i v y j = I y j := by
  unfold amU
  rw [if_neg h]
def M3 (I : amI) (o : Option (List Po)) : Prop := (o = none ∧ I 152 4 = -1) ∨ ∃ l, o = some l ∧ MPl I 154 4 l
def M4 (I : amI) (T : Nat → Int32) (n : Nat) : Prop := I 152 36 = nI n ∧ ∀ k, k < n → I 199 k = T k
def M5 (I : amI) (t : List Int32) : Prop := I 152 45 = nI t.length ∧ ∀ k, k < t.length → I 200 k = t.getD k 0
def M6 (I : amI) (rz : Nat → Option Nat) (rc : Nat → Nat → Int32) : Prop := ∀ k, k < 4 → (rz k = none ∧ I 201 k = -1) ∨ ∃ m, rz k = some m ∧ I 201 k = nI m ∧ ∀ i, i < m → I 202 (k * 24 + i) = rc k i
theorem MPl.cg {I I' : amI} {y m : Nat} {ps : List Po} (h : MPl I y m ps) (h1 : I' 152 m = I 152 m) (h2 : ∀ i, I' y i = I y i) : MPl I' y m ps := ⟨h1.trans h.1, fun p k hp hk => (h2 _).trans (h.2 p k hp hk)⟩
theorem M3.cg {I I' : amI} {o : Option (List Po)} (h : M3 I o) (h1 : I' 152 4 = I 152 4) (h2 : ∀ i, I' 154 i = I 154 i) : M3 I' o := by
  rcases h with h | ⟨l, e, h⟩
  · exact Or.inl ⟨h.1, h1.trans h.2⟩
  · exact Or.inr ⟨l, e, h.cg h1 h2⟩
theorem M4.cg {I I' : amI} {T : Nat → Int32} {n : Nat} (h : M4 I T n) (h1 : I' 152 36 = I 152 36) (h2 : ∀ i, I' 199 i = I 199 i) : M4 I' T n := ⟨h1.trans h.1, fun k hk => (h2 k).trans (h.2 k hk)⟩
theorem M5.cg {I I' : amI} {t : List Int32} (h : M5 I t) (h1 : I' 152 45 = I 152 45) (h2 : ∀ i, I' 200 i = I 200 i) : M5 I' t := ⟨h1.trans h.1, fun k hk => (h2 k).trans (h.2 k hk)⟩
theorem M6.cg {I I' : amI} {rz : Nat → Option Nat} {rc : Nat → Nat → Int32} (h : M6 I rz rc) (h1 : ∀ i, I' 201 i = I 201 i) (h2 : ∀ i, I' 202 i = I 202 i) : M6 I' rz rc := fun k hk => by
  rcases h k hk with g | ⟨m, e1, e2, e3⟩
  · exact Or.inl ⟨g.1, (h1 k).trans g.2⟩
  · exact Or.inr ⟨m, e1, (h1 k).trans e2, fun i hi => (h2 _).trans (e3 i hi)⟩
theorem min64 {a b : Int32} {v : Int32} : decide (a.toInt64 ≤ v.toInt64 ∧ v.toInt64 ≤ b.toInt64) = decide (a.toInt ≤ v.toInt ∧ v.toInt ≤ b.toInt) := decide_eq_decide.mpr (by rw [i64_le, i64_le])
theorem nIm1 : ∀ m, m ≤ 24 → (nI m - 1).toInt = (m : Int) - 1 := by decide +kernel
section REF10
variable {L : Nat} {I : amI} {J : amJ} {R : amR} {Q : amQ} {a B : Nat} {q : Po} {ps l : List Po} {σ : PS}
set_option maxHeartbeats 2000000 in
theorem n_count {t : Int32} (h : MSt I J R σ) : Cl 247 [.ref 152, .int t] (amSH L) I J R (MP I J R σ (.int (sCount σ t))) := by
  obtain ⟨hR, hPl, h3, h4, h5, h6, h7⟩ := id h
  have h3 : M3 I σ.2.1 := h3
  have h4 : M4 I σ.2.2.1 σ.2.2.2.1 := h4
  have h5 : M5 I σ.2.2.2.2.1 := h5
  have h6 : M6 I σ.2.2.2.2.2.1 σ.2.2.2.2.2.2 := h6
  have h8 := h7.1.1
  have hn120 := h7.2.2.1
  have hw35 := h7.2.2.2.1
  unfold sCount
  show Ex 247 0 [some (.ref 152), some (.int t)] [] (amSH L) I J R _
  by_cases e0 : t = 0
  · rw [if_pos e0]
    refine LI1 e247_0 ?_
    refine B_ne e247_1 t247_1 (fun q => absurd q (fun z => z e0)) (fun _ => ?_)
    refine LA0 e247_4 ?_
    refine Gi e247_5 (o152 L) (amGi_of f770 (by decide)) ?_
    rw [hPl.1]
    refine Go e247_8 t247_8 ?_
    exact Ri e247_36 rt247 (MP.rf h)
  · rw [if_neg e0]
    by_cases e1 : t = 1
    · rw [if_pos e1]
      refine LI1 e247_0 ?_
      refine B_ne e247_1 t247_1 (fun _ => ?_) (fun q => absurd (e0) q)
      refine LI1 e247_11 ?_
      refine Ki e247_12 kiconst_1 ?_
      refine C_ne e247_13 t247_13 (fun q => absurd q (fun z => z e1)) (fun _ => ?_)
      refine LA0 e247_16 ?_
      refine Gi e247_17 (o152 L) (amGi_of f804 (by decide)) ?_
      rw [h4.1]
      refine Go e247_20 t247_20 ?_
      exact Ri e247_36 rt247 (MP.rf h)
    · rw [if_neg e1]
      by_cases e2 : t = 2
      · rw [if_pos e2]
        refine LI1 e247_0 ?_
        refine B_ne e247_1 t247_1 (fun _ => ?_) (fun q => absurd (e0) q)
        refine LI1 e247_11 ?_
        refine Ki e247_12 kiconst_1 ?_
        refine C_ne e247_13 t247_13 (fun _ => ?_) (fun q => absurd (e1) q)
        refine LI1 e247_23 ?_
        refine Ki e247_24 kiconst_2 ?_
        refine C_ne e247_25 t247_25 (fun q => absurd q (fun z => z e2)) (fun _ => ?_)
        refine LA0 e247_28 ?_
        refine Gi e247_29 (o152 L) (amGi_of f813 (by decide)) ?_
        rw [h5.1]
        refine Go e247_32 t247_32 ?_
        exact Ri e247_36 rt247 (MP.rf h)
      · rw [if_neg e2]
        refine LI1 e247_0 ?_
        refine B_ne e247_1 t247_1 (fun _ => ?_) (fun q => absurd (e0) q)
        refine LI1 e247_11 ?_
        refine Ki e247_12 kiconst_1 ?_
        refine C_ne e247_13 t247_13 (fun _ => ?_) (fun q => absurd (e1) q)
        refine LI1 e247_23 ?_
        refine Ki e247_24 kiconst_2 ?_
        refine C_ne e247_25 t247_25 (fun _ => ?_) (fun q => absurd (e2) q)
        refine Ki e247_35 kiconst_m1 ?_
        exact Ri e247_36 rt247 (MP.rf h)
set_option maxHeartbeats 2000000 in
theorem n_paper {t : Int32} (h : MSt I J R σ) : Cl 235 [.ref 152, .int t] (amSH L) I J R (MP I J R σ (.int (sPaper σ.2.2.2.2.1 t))) := by
  obtain ⟨hR, hPl, h3, h4, h5, h6, h7⟩ := id h
  have h3 : M3 I σ.2.1 := h3
  have h4 : M4 I σ.2.2.1 σ.2.2.2.1 := h4
  have h5 : M5 I σ.2.2.2.2.1 := h5
  have h6 : M6 I σ.2.2.2.2.2.1 σ.2.2.2.2.2.2 := h6
  have h8 := h7.1.1
  have hn120 := h7.2.2.1
  have hw35 := h7.2.2.2.1
  unfold sPaper
  show Ex 235 0 [some (.ref 152), some (.int t)] [] (amSH L) I J R _
  by_cases e0 : t.toInt < 0
  · rw [if_pos e0]
    refine LI1 e235_0 ?_
    refine B_ge e235_1 t235_1 (fun q => absurd q (fun z => by rw [i32le, show (0 : Int32).toInt = 0 from rfl] at z; omega)) (fun _ => ?_)
    refine Ki e235_4 kiconst_m1 ?_
    refine Go e235_5 t235_5 ?_
    exact Ri e235_27 rt235 (MP.rf h)
  · rw [if_neg e0]
    obtain ⟨i, hi, rfl⟩ : ∃ i : Nat, (i : Int) = t.toInt ∧ t = nI i := ⟨t.toInt.toNat, by omega, by rw [← Int32.toInt_inj, nI_toInt (by have := Int32.toInt_lt t; omega)]; omega⟩
    have hi9 : i < 2147483648 := by have := Int32.toInt_lt (nI i); omega
    rw [← hi, Int.toNat_natCast]
    have h1p : (0 : Int32) ≤ nI i := by rw [i32le, show (0 : Int32).toInt = 0 from rfl]; omega
    by_cases e1 : i < σ.2.2.2.2.1.length
    · rw [if_pos (by omega)]
      refine LI1 e235_0 ?_
      refine B_ge e235_1 t235_1 (fun _ => ?_) (fun q => absurd (h1p) q)
      refine LI1 e235_8 ?_
      refine LA0 e235_9 ?_
      refine Gi e235_10 (o152 L) (amGi_of f813 (by decide)) ?_
      rw [h5.1]
      refine CN_ge (a := i) (b := σ.2.2.2.2.1.length) e235_13 t235_13 rfl rfl (by omega) (by omega) (fun q => absurd q (by omega)) (fun _ => ?_)
      refine LA0 e235_16 ?_
      refine Gr e235_17 (o152 L) (hR 152 44 200 rfl) f812 ?_
      refine LI1 e235_20 ?_
      refine AiN (k := i) e235_21 (o200 L) rfl (by omega) (by decide) ?_
      rw [h5.2 i e1]
      refine Go e235_22 t235_22 ?_
      exact Ri e235_27 rt235 (MP.rf h)
    · rw [if_neg (by omega)]
      refine LI1 e235_0 ?_
      refine B_ge e235_1 t235_1 (fun _ => ?_) (fun q => absurd (h1p) q)
      refine LI1 e235_8 ?_
      refine LA0 e235_9 ?_
      refine Gi e235_10 (o152 L) (amGi_of f813 (by decide)) ?_
      rw [h5.1]
      refine CN_ge (a := i) (b := σ.2.2.2.2.1.length) e235_13 t235_13 rfl rfl (by omega) (by omega) (fun _ => ?_) (fun q => by omega)
      refine Ki e235_25 kbipush_m2 ?_
      exact Ri e235_27 rt235 (MP.rf h)
set_option maxHeartbeats 2000000 in
theorem n_feed {v : Int32} (h : MSt I J R σ) : Cl 220 [.ref 152, .int v] (amSH L) I J R (MP I J R (sFeed σ v).2 (.int (sFeed σ v).1)) := by
  obtain ⟨hR, hPl, h3, h4, h5, h6, h7⟩ := id h
  have h3 : M3 I σ.2.1 := h3
  have h4 : M4 I σ.2.2.1 σ.2.2.2.1 := h4
  have h5 : M5 I σ.2.2.2.2.1 := h5
  have h6 : M6 I σ.2.2.2.2.2.1 σ.2.2.2.2.2.2 := h6
  have h8 := h7.1.1
  have hn120 := h7.2.2.1
  have hw35 := h7.2.2.2.1
  unfold sFeed
  show Ex 220 0 [some (.ref 152), some (.int v)] [] (amSH L) I J R _
  by_cases g : 1 ≤ v.toInt ∧ v.toInt ≤ 127
  · rw [if_pos g]
    by_cases e : σ.2.2.2.1 = 120
    · rw [if_pos e]
      refine LI1 e220_0 ?_
      refine I2l e220_1 ?_
      refine K1 e220_2 ?_
      refine Kd e220_3 kj14 ?_
      refine Cs3 e220_6 c220_152 (Nat.le_of_ble_eq_true rfl) (Nat.le_of_ble_eq_true rfl) (m_in) ?_
      rw [show decide ((1 : Int64) ≤ v.toInt64 ∧ v.toInt64 ≤ 127) = decide (1 ≤ v.toInt ∧ v.toInt ≤ 127) from min64 (a := 1) (b := 127), decide_eq_true g]
      rw [show bI true = 1 from rfl]
      refine B_ne e220_9 t220_9 (fun _ => ?_) (fun q => absurd (by decide) q)
      refine LA0 e220_14 ?_
      refine Gi e220_15 (o152 L) (amGi_of f804 (by decide)) ?_
      rw [h4.1, e]
      refine Ki e220_18 kbipush_120 ?_
      refine CN_ne (a := 120) (b := 120) e220_20 t220_20 rfl (by decide) (by omega) (by omega) (fun q => absurd q (by first | rfl | decide)) (fun _ => ?_)
      refine Ki e220_23 kbipush_m3 ?_
      exact Ri e220_25 rt220 (MP.rf h)
    · rw [if_neg e]
      refine LI1 e220_0 ?_
      refine I2l e220_1 ?_
      refine K1 e220_2 ?_
      refine Kd e220_3 kj14 ?_
      refine Cs3 e220_6 c220_152 (Nat.le_of_ble_eq_true rfl) (Nat.le_of_ble_eq_true rfl) (m_in) ?_
      rw [show decide ((1 : Int64) ≤ v.toInt64 ∧ v.toInt64 ≤ 127) = decide (1 ≤ v.toInt ∧ v.toInt ≤ 127) from min64 (a := 1) (b := 127), decide_eq_true g]
      rw [show bI true = 1 from rfl]
      refine B_ne e220_9 t220_9 (fun _ => ?_) (fun q => absurd (by decide) q)
      refine LA0 e220_14 ?_
      refine Gi e220_15 (o152 L) (amGi_of f804 (by decide)) ?_
      rw [h4.1]
      refine Ki e220_18 kbipush_120 ?_
      refine CN_ne (a := σ.2.2.2.1) (b := 120) e220_20 t220_20 rfl (by decide) (by omega) (by omega) (fun _ => ?_) (fun q => by omega)
      refine LA0 e220_26 ?_
      refine Gr e220_27 (o152 L) (hR 152 35 199 rfl) f803 ?_
      refine LA0 e220_30 ?_
      refine Gi e220_31 (o152 L) (amGi_of f804 (by decide)) ?_
      rw [h4.1]
      refine LI1 e220_34 ?_
      refine WiN (k := σ.2.2.2.1) e220_35 (o199 L) rfl (by omega) (by decide) ?_
      refine LA0 e220_36 ?_
      refine Dup e220_37 rfl ?_
      refine Gi e220_38 (o152 L) (amGi_of f804 (by decide)) ?_
      rw [up_o (by omega), h4.1]
      refine Ki e220_41 kiconst_1 ?_
      refine IaddN (a := σ.2.2.2.1) (b := 1) e220_42 rfl (by decide) ?_
      refine Pi e220_43 (o152 L) f804 ?_
      refine LA0 e220_46 ?_
      refine Gi e220_47 (o152 L) (amGi_of f804 (by decide)) ?_
      rw [amU_same]
      exact Ri e220_50 rt220 (by
      refine ⟨rfl, ⟨hR, (hPl.cg (up_o (by omega)) (fun i => up_o (by omega))).cg (up_o (by omega)) (fun i => up_o (by omega)), (h3.cg (up_o (by omega)) (fun i => up_o (by omega))).cg (up_o (by omega)) (fun i => up_o (by omega)), ⟨amU_same, fun k hk => ?_⟩, (h5.cg (up_o (by omega)) (fun i => up_o (by omega))).cg (up_o (by omega)) (fun i => up_o (by omega)), (h6.cg (fun i => up_o (by omega)) (fun i => up_o (by omega))).cg (fun i => up_o (by omega)) (fun i => up_o (by omega)), ⟨h7.1, h7.2.1, (by show σ.2.2.2.1 + 1 ≤ 120; omega), h7.2.2.2⟩⟩, fun y hy => by funext i; rw [up_o (by omega), up_o (by omega)], fun _ _ => rfl, rfl⟩
      have hk2 : k < σ.2.2.2.1 + 1 := hk
      rw [up_o (by omega)]
      show _ = if k = σ.2.2.2.1 then v else σ.2.2.1 k
      by_cases ek : k = σ.2.2.2.1
      · rw [if_pos ek, ek, amU_same]
      · rw [if_neg ek, up_o (by omega)]
        exact h4.2 k (by omega))
  · rw [if_neg g]
    refine LI1 e220_0 ?_
    refine I2l e220_1 ?_
    refine K1 e220_2 ?_
    refine Kd e220_3 kj14 ?_
    refine Cs3 e220_6 c220_152 (Nat.le_of_ble_eq_true rfl) (Nat.le_of_ble_eq_true rfl) (m_in) ?_
    rw [show decide ((1 : Int64) ≤ v.toInt64 ∧ v.toInt64 ≤ 127) = decide (1 ≤ v.toInt ∧ v.toInt ≤ 127) from min64 (a := 1) (b := 127), decide_eq_false g]
    rw [show bI false = 0 from rfl]
    refine B_ne e220_9 t220_9 (fun q => absurd q (fun z => z rfl)) (fun _ => ?_)
    refine Ki e220_12 kiconst_m1 ?_
    exact Ri e220_13 rt220 (MP.rf h)
set_option maxHeartbeats 2000000 in
theorem m_isList {t : Int32} : Rv 240 [.int t] (amSH L) I J R (.int (bI (decide (inL t)))) := by
  intro Q hQ
  have e : decide ((0 : Int64) ≤ t.toInt64 ∧ t.toInt64 ≤ 3) = decide (inL t) := (min64 (a := 0) (b := 3)).trans (decide_eq_decide.mpr (by
    rw [show (0 : Int32).toInt = 0 from rfl, show (3 : Int32).toInt = 3 from rfl]
    omega))
  rw [← e] at hQ
  show Ex 240 0 [some (.int t)] [] (amSH L) I J R _
  refine LI0 e240_0 ?_
  refine I2l e240_1 ?_
  refine K0 e240_2 ?_
  refine Kd e240_3 kj11 ?_
  refine Cs3 e240_6 c240_152 (Nat.le_of_ble_eq_true rfl) (Nat.le_of_ble_eq_true rfl) (m_in) ?_
  exact Rz e240_9 rt240 (bI_01 _) (hQ)
set_option maxHeartbeats 2000000 in
theorem n_get {q i : Int32} (h : MSt I J R σ) : Cl 243 [.ref 152, .int q, .int i] (amSH L) I J R (MP I J R σ (.long (sGet σ q i))) := by
  obtain ⟨hR, hPl, h3, h4, h5, h6, h7⟩ := id h
  have h3 : M3 I σ.2.1 := h3
  have h4 : M4 I σ.2.2.1 σ.2.2.2.1 := h4
  have h5 : M5 I σ.2.2.2.2.1 := h5
  have h6 : M6 I σ.2.2.2.2.2.1 σ.2.2.2.2.2.2 := h6
  have h8 := h7.1.1
  have hn120 := h7.2.2.1
  have hw35 := h7.2.2.2.1
  unfold sGet
  show Ex 243 0 [some (.ref 152), some (.int q), some (.int i)] [] (amSH L) I J R _
  by_cases g : inL q
  · rw [if_pos g]
    obtain ⟨s, hs, rfl⟩ : ∃ s : Nat, s < 4 ∧ q = nI s := ⟨q.toInt.toNat, by omega, by rw [← Int32.toInt_inj, nI_toInt (by omega)]; omega⟩
    have es : (nI s).toInt.toNat = s := by rw [nI_toInt (by omega)]; omega
    rw [es]
    rcases h6 s hs with ⟨e1, e2⟩ | ⟨m, e1, e2, e3⟩
    · rw [e1]
      dsimp only
      refine LI1 e243_0 ?_
      refine Cs1 e243_1 c243_240 (Nat.le_of_ble_eq_true rfl) (Nat.le_of_ble_eq_true rfl) (m_isList) ?_
      rw [decide_eq_true g]
      rw [show bI true = 1 from rfl]
      refine B_eq e243_4 t243_4 (fun q => absurd q (by decide)) (fun _ => ?_)
      refine LI2 e243_7 ?_
      refine I2l e243_8 ?_
      refine K0 e243_9 ?_
      refine LA0 e243_10 ?_
      refine Gr e243_11 (o152 L) (hR 152 47 201 rfl) f815 ?_
      refine LI1 e243_14 ?_
      refine AiN (k := s) e243_15 (o201 L) rfl (by omega) (by decide) ?_
      rw [e2]
      refine Ki e243_16 kiconst_1 ?_
      refine Isub e243_17 ?_
      rw [show (-1 : Int32) - 1 = -2 from by decide]
      refine I2l e243_18 ?_
      refine Cs3 e243_19 c243_152 (Nat.le_of_ble_eq_true rfl) (Nat.le_of_ble_eq_true rfl) (m_in) ?_
      rw [show decide ((0 : Int64) ≤ i.toInt64 ∧ i.toInt64 ≤ ((-2 : Int32)).toInt64) = decide ((0 : Int32).toInt ≤ i.toInt ∧ i.toInt ≤ ((-2 : Int32)).toInt) from min64 (a := 0) (b := (-2 : Int32)), decide_eq_false (fun z => by have z2 := z.2; have z1 := z.1; rw [show (-2 : Int32).toInt = -2 from by decide] at z2; rw [show (0 : Int32).toInt = 0 from rfl] at z1; omega)]
      rw [show bI false = 0 from rfl]
      refine B_eq e243_22 t243_22 (fun _ => ?_) (fun q => absurd (rfl) q)
      refine Kd e243_40 kj4 ?_
      exact Rj e243_43 rt243 (MP.rf h)
    · rw [e1]
      dsimp only
      have hm24 := h7.2.2.2.2 s m e1
      have em := nIm1 m hm24
      by_cases gi : 0 ≤ i.toInt ∧ i.toInt < (m : Int)
      · rw [if_pos gi]
        obtain ⟨t, ht, rfl⟩ : ∃ t : Nat, t < m ∧ i = nI t := ⟨i.toInt.toNat, by omega, by rw [← Int32.toInt_inj, nI_toInt (by omega)]; omega⟩
        have et : (nI t).toInt.toNat = t := by rw [nI_toInt (by omega)]; omega
        rw [et]
        refine LI1 e243_0 ?_
        refine Cs1 e243_1 c243_240 (Nat.le_of_ble_eq_true rfl) (Nat.le_of_ble_eq_true rfl) (m_isList) ?_
        rw [decide_eq_true g]
        rw [show bI true = 1 from rfl]
        refine B_eq e243_4 t243_4 (fun q => absurd q (by decide)) (fun _ => ?_)
        refine LI2 e243_7 ?_
        refine I2l e243_8 ?_
        refine K0 e243_9 ?_
        refine LA0 e243_10 ?_
        refine Gr e243_11 (o152 L) (hR 152 47 201 rfl) f815 ?_
        refine LI1 e243_14 ?_
        refine AiN (k := s) e243_15 (o201 L) rfl (by omega) (by decide) ?_
        rw [e2]
        refine Ki e243_16 kiconst_1 ?_
        refine Isub e243_17 ?_
        refine I2l e243_18 ?_
        refine Cs3 e243_19 c243_152 (Nat.le_of_ble_eq_true rfl) (Nat.le_of_ble_eq_true rfl) (m_in) ?_
        rw [show decide ((0 : Int64) ≤ (nI t).toInt64 ∧ (nI t).toInt64 ≤ (nI m - 1).toInt64) = decide ((0 : Int32).toInt ≤ (nI t).toInt ∧ (nI t).toInt ≤ (nI m - 1).toInt) from min64 (a := 0) (b := nI m - 1), decide_eq_true ⟨by rw [nI_toInt (by omega), show (0 : Int32).toInt = 0 from rfl]; omega, by rw [em, nI_toInt (by omega)]; omega⟩]
        rw [show bI true = 1 from rfl]
        refine B_eq e243_22 t243_22 (fun q => absurd q (by decide)) (fun _ => ?_)
        refine LA0 e243_25 ?_
        refine Gr e243_26 (o152 L) (hR 152 48 202 rfl) f816 ?_
        refine Ki e243_29 kbipush_24 ?_
        refine LI1 e243_31 ?_
        refine ImulN (a := 24) (b := s) e243_32 (by decide) rfl ?_
        refine LI2 e243_33 ?_
        refine IaddN (a := (24 * s)) (b := t) e243_34 rfl rfl ?_
        refine AiN (k := ((24 * s) + t)) e243_35 (o202 L) rfl (by omega) (by decide) ?_
        rw [show 24 * s + t = s * 24 + t from by omega, e3 t ht]
        refine I2l e243_36 ?_
        refine Go e243_37 t243_37 ?_
        exact Rj e243_43 rt243 (MP.rf h)
      · rw [if_neg gi]
        refine LI1 e243_0 ?_
        refine Cs1 e243_1 c243_240 (Nat.le_of_ble_eq_true rfl) (Nat.le_of_ble_eq_true rfl) (m_isList) ?_
        rw [decide_eq_true g]
        rw [show bI true = 1 from rfl]
        refine B_eq e243_4 t243_4 (fun q => absurd q (by decide)) (fun _ => ?_)
        refine LI2 e243_7 ?_
        refine I2l e243_8 ?_
        refine K0 e243_9 ?_
        refine LA0 e243_10 ?_
        refine Gr e243_11 (o152 L) (hR 152 47 201 rfl) f815 ?_
        refine LI1 e243_14 ?_
        refine AiN (k := s) e243_15 (o201 L) rfl (by omega) (by decide) ?_
        rw [e2]
        refine Ki e243_16 kiconst_1 ?_
        refine Isub e243_17 ?_
        refine I2l e243_18 ?_
        refine Cs3 e243_19 c243_152 (Nat.le_of_ble_eq_true rfl) (Nat.le_of_ble_eq_true rfl) (m_in) ?_
        rw [show decide ((0 : Int64) ≤ i.toInt64 ∧ i.toInt64 ≤ (nI m - 1).toInt64) = decide ((0 : Int32).toInt ≤ i.toInt ∧ i.toInt ≤ (nI m - 1).toInt) from min64 (a := 0) (b := nI m - 1), decide_eq_false (fun z => by have z2 := z.2; have z1 := z.1; rw [em] at z2; rw [show (0 : Int32).toInt = 0 from rfl] at z1; omega)]
        rw [show bI false = 0 from rfl]
        refine B_eq e243_22 t243_22 (fun _ => ?_) (fun q => absurd (rfl) q)
        refine Kd e243_40 kj4 ?_
        exact Rj e243_43 rt243 (MP.rf h)
  · rw [if_neg g]
    refine LI1 e243_0 ?_
    refine Cs1 e243_1 c243_240 (Nat.le_of_ble_eq_true rfl) (Nat.le_of_ble_eq_true rfl) (m_isList) ?_
    rw [decide_eq_false g]
    rw [show bI false = 0 from rfl]
    refine B_eq e243_4 t243_4 (fun _ => ?_) (fun q => absurd (rfl) q)
    refine Kd e243_40 kj4 ?_
    exact Rj e243_43 rt243 (MP.rf h)
set_option maxHeartbeats 2000000 in
theorem n_set {q i v : Int32} (h : MSt I J R σ) : Cl 242 [.ref 152, .int q, .int i, .int v] (amSH L) I J R (MP I J R (sSet σ q i v).2 (.int (sSet σ q i v).1)) := by
  obtain ⟨hR, hPl, h3, h4, h5, h6, h7⟩ := id h
  have h3 : M3 I σ.2.1 := h3
  have h4 : M4 I σ.2.2.1 σ.2.2.2.1 := h4
  have h5 : M5 I σ.2.2.2.2.1 := h5
  have h6 : M6 I σ.2.2.2.2.2.1 σ.2.2.2.2.2.2 := h6
  have h8 := h7.1.1
  have hn120 := h7.2.2.1
  have hw35 := h7.2.2.2.1
  unfold sSet
  show Ex 242 0 [some (.ref 152), some (.int q), some (.int i), some (.int v)] [] (amSH L) I J R _
  by_cases g : inL q
  · rw [if_pos g]
    obtain ⟨s, hs, rfl⟩ : ∃ s : Nat, s < 4 ∧ q = nI s := ⟨q.toInt.toNat, by omega, by rw [← Int32.toInt_inj, nI_toInt (by omega)]; omega⟩
    have es : (nI s).toInt.toNat = s := by rw [nI_toInt (by omega)]; omega
    rw [es]
    rcases h6 s hs with ⟨e1, e2⟩ | ⟨m, e1, e2, e3⟩
    · rw [e1]
      dsimp only
      refine LI1 e242_0 ?_
      refine Cs1 e242_1 c242_240 (Nat.le_of_ble_eq_true rfl) (Nat.le_of_ble_eq_true rfl) (m_isList) ?_
      rw [decide_eq_true g]
      rw [show bI true = 1 from rfl]
      refine B_ne e242_4 t242_4 (fun _ => ?_) (fun q => absurd (by decide) q)
      refine LA0 e242_9 ?_
      refine Gr e242_10 (o152 L) (hR 152 47 201 rfl) f815 ?_
      refine LI1 e242_13 ?_
      refine AiN (k := s) e242_14 (o201 L) rfl (by omega) (by decide) ?_
      rw [e2]
      refine B_ge e242_15 t242_15 (fun q => absurd q (by decide)) (fun _ => ?_)
      refine Ki e242_18 kbipush_m11 ?_
      exact Ri e242_20 rt242 (MP.rf h)
    · rw [e1]
      dsimp only
      have hm24 := h7.2.2.2.2 s m e1
      have em := nIm1 m hm24
      have hm0 : (0 : Int32) ≤ nI m := by rw [i32le, nI_toInt (by omega), show (0 : Int32).toInt = 0 from rfl]; omega
      by_cases gi : 0 ≤ i.toInt ∧ i.toInt < (m : Int)
      · rw [if_pos gi]
        obtain ⟨t, ht, rfl⟩ : ∃ t : Nat, t < m ∧ i = nI t := ⟨i.toInt.toNat, by omega, by rw [← Int32.toInt_inj, nI_toInt (by omega)]; omega⟩
        have et : (nI t).toInt.toNat = t := by rw [nI_toInt (by omega)]; omega
        rw [et]
        refine LI1 e242_0 ?_
        refine Cs1 e242_1 c242_240 (Nat.le_of_ble_eq_true rfl) (Nat.le_of_ble_eq_true rfl) (m_isList) ?_
        rw [decide_eq_true g]
        rw [show bI true = 1 from rfl]
        refine B_ne e242_4 t242_4 (fun _ => ?_) (fun q => absurd (by decide) q)
        refine LA0 e242_9 ?_
        refine Gr e242_10 (o152 L) (hR 152 47 201 rfl) f815 ?_
        refine LI1 e242_13 ?_
        refine AiN (k := s) e242_14 (o201 L) rfl (by omega) (by decide) ?_
        rw [e2]
        refine B_ge e242_15 t242_15 (fun _ => ?_) (fun q => absurd (hm0) q)
        refine LI2 e242_21 ?_
        refine I2l e242_22 ?_
        refine K0 e242_23 ?_
        refine LA0 e242_24 ?_
        refine Gr e242_25 (o152 L) (hR 152 47 201 rfl) f815 ?_
        refine LI1 e242_28 ?_
        refine AiN (k := s) e242_29 (o201 L) rfl (by omega) (by decide) ?_
        rw [e2]
        refine Ki e242_30 kiconst_1 ?_
        refine Isub e242_31 ?_
        refine I2l e242_32 ?_
        refine Cs3 e242_33 c242_152 (Nat.le_of_ble_eq_true rfl) (Nat.le_of_ble_eq_true rfl) (m_in) ?_
        rw [show decide ((0 : Int64) ≤ (nI t).toInt64 ∧ (nI t).toInt64 ≤ (nI m - 1).toInt64) = decide ((0 : Int32).toInt ≤ (nI t).toInt ∧ (nI t).toInt ≤ (nI m - 1).toInt) from min64 (a := 0) (b := nI m - 1), decide_eq_true ⟨by rw [nI_toInt (by omega), show (0 : Int32).toInt = 0 from rfl]; omega, by rw [em, nI_toInt (by omega)]; omega⟩]
        rw [show bI true = 1 from rfl]
        refine B_ne e242_36 t242_36 (fun _ => ?_) (fun q => absurd (by decide) q)
        refine LA0 e242_42 ?_
        refine Gr e242_43 (o152 L) (hR 152 48 202 rfl) f816 ?_
        refine Ki e242_46 kbipush_24 ?_
        refine LI1 e242_48 ?_
        refine ImulN (a := 24) (b := s) e242_49 (by decide) rfl ?_
        refine LI2 e242_50 ?_
        refine IaddN (a := (24 * s)) (b := t) e242_51 rfl rfl ?_
        refine LI3 e242_52 ?_
        refine WiN (k := ((24 * s) + t)) e242_53 (o202 L) rfl (by omega) (by decide) ?_
        refine Ki e242_54 kiconst_1 ?_
        exact Ri e242_55 rt242 (by
        refine ⟨rfl, ⟨hR, hPl.cg (up_o (by omega)) (fun i => up_o (by omega)), h3.cg (up_o (by omega)) (fun i => up_o (by omega)), h4.cg (up_o (by omega)) (fun i => up_o (by omega)), h5.cg (up_o (by omega)) (fun i => up_o (by omega)), fun k hk => ?_, h7⟩, fun y hy => by funext i; rw [up_o (by omega)], fun _ _ => rfl, rfl⟩
        rw [up_o (by omega)]
        rcases h6 k hk with g6 | ⟨m6, f1, f2, f3⟩
        · exact Or.inl g6
        · refine Or.inr ⟨m6, f1, f2, fun i hi => ?_⟩
          have hm6 := h7.2.2.2.2 k m6 f1
          show _ = if k = s ∧ i = t then v else σ.2.2.2.2.2.2 k i
          by_cases ek : k = s ∧ i = t
          · rw [if_pos ek, ek.1, ek.2, show s * 24 + t = 24 * s + t from by omega, amU_same]
          · rw [if_neg ek, up_o (by omega)]
            exact f3 i hi)
      · rw [if_neg gi]
        refine LI1 e242_0 ?_
        refine Cs1 e242_1 c242_240 (Nat.le_of_ble_eq_true rfl) (Nat.le_of_ble_eq_true rfl) (m_isList) ?_
        rw [decide_eq_true g]
        rw [show bI true = 1 from rfl]
        refine B_ne e242_4 t242_4 (fun _ => ?_) (fun q => absurd (by decide) q)
        refine LA0 e242_9 ?_
        refine Gr e242_10 (o152 L) (hR 152 47 201 rfl) f815 ?_
        refine LI1 e242_13 ?_
        refine AiN (k := s) e242_14 (o201 L) rfl (by omega) (by decide) ?_
        rw [e2]
        refine B_ge e242_15 t242_15 (fun _ => ?_) (fun q => absurd (hm0) q)
        refine LI2 e242_21 ?_
        refine I2l e242_22 ?_
        refine K0 e242_23 ?_
        refine LA0 e242_24 ?_
        refine Gr e242_25 (o152 L) (hR 152 47 201 rfl) f815 ?_
        refine LI1 e242_28 ?_
        refine AiN (k := s) e242_29 (o201 L) rfl (by omega) (by decide) ?_
        rw [e2]
        refine Ki e242_30 kiconst_1 ?_
        refine Isub e242_31 ?_
        refine I2l e242_32 ?_
        refine Cs3 e242_33 c242_152 (Nat.le_of_ble_eq_true rfl) (Nat.le_of_ble_eq_true rfl) (m_in) ?_
        rw [show decide ((0 : Int64) ≤ i.toInt64 ∧ i.toInt64 ≤ (nI m - 1).toInt64) = decide ((0 : Int32).toInt ≤ i.toInt ∧ i.toInt ≤ (nI m - 1).toInt) from min64 (a := 0) (b := nI m - 1), decide_eq_false (fun z => by have z2 := z.2; have z1 := z.1; rw [em] at z2; rw [show (0 : Int32).toInt = 0 from rfl] at z1; omega)]
        rw [show bI false = 0 from rfl]
        refine B_ne e242_36 t242_36 (fun q => absurd q (fun z => z rfl)) (fun _ => ?_)
        refine Ki e242_39 kbipush_m13 ?_
        exact Ri e242_41 rt242 (MP.rf h)
  · rw [if_neg g]
    refine LI1 e242_0 ?_
    refine Cs1 e242_1 c242_240 (Nat.le_of_ble_eq_true rfl) (Nat.le_of_ble_eq_true rfl) (m_isList) ?_
    rw [decide_eq_false g]
    rw [show bI false = 0 from rfl]
    refine B_ne e242_4 t242_4 (fun q => absurd q (fun z => z rfl)) (fun _ => ?_)
    refine Ki e242_7 kiconst_m1 ?_
    exact Ri e242_8 rt242 (MP.rf h)
end REF10
