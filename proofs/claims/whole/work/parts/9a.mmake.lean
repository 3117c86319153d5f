/-! the reference: isMaking, make (printed by wip/whole/t9a.py) -/
/-- no D further on is the first that doesn't fit -/
theorem spN_more {d : Po} {t : List Po} {m : Nat} (h : spN (m + 1) d = some t) (hm : 1 ≤ m) (h0 : 0 < sz d) (h5 : sz d ≤ 5) (hB : PB 1000000 d) : ∃ u, spN 5 d = some u := spN_moreP h hm h0 h5 hB
theorem spN_take : ∀ {n k : Nat} {d : Po} {u : List Po}, spN (n + k) d = some u → spN n d = some (u.take n)
  | 0, k, d, u, _ => by rw [spN, List.take_zero]
  | n + 1, k, d, u, h => by
    rw [show n + 1 + k = (n + k) + 1 by omega, spN] at h
    rw [spN]
    by_cases e : sz (der d) = 0
    · rw [if_pos e] at h ⊢
      cases hu : spN (n + k) oneP with
      | none => rw [hu] at h; cases h
      | some v =>
        rw [hu] at h
        cases h
        rw [spN_take hu]
        rfl
    · rw [if_neg e] at h ⊢
      cases hg : com d (der d) with
      | none => rw [hg] at h; cases h
      | some g =>
        rw [hg] at h
        dsimp only at h ⊢
        cases hu : spN (n + k) g with
        | none => rw [hu] at h; cases h
        | some v =>
          rw [hu] at h
          cases h
          rw [spN_take hu]
          rfl
theorem gD_take {d : Po} {u : List Po} {n k : Nat} (h : k ≤ n) : ([d] ++ u.take n).getD k zP = ([d] ++ u).getD k zP := by
  cases k with
  | zero => rfl
  | succ k =>
    show (u.take n).getD k zP = u.getD k zP
    rw [List.getD_eq_getElem?_getD, List.getD_eq_getElem?_getD, List.getElem?_take_of_lt (by omega)]
theorem pfm_cg {l l' : List Po} {m : Nat} (h1 : l.getD (m - 1) zP = l'.getD (m - 1) zP) (h2 : l.getD m zP = l'.getD m zP) (h3 : l.getD (m + 1) zP = l'.getD (m + 1) zP) : pfm l m = pfm l' m := by
  unfold pfm
  rw [h1, h2, h3]
theorem PfOk.cg {l l' : List Po} {m : Nat} (h : PfOk l' m) (h1 : l.getD (m - 1) zP = l'.getD (m - 1) zP) (h2 : l.getD m zP = l'.getD m zP) (h3 : l.getD (m + 1) zP = l'.getD (m + 1) zP) : PfOk l m := by
  unfold PfOk at h ⊢
  rw [h1, h2, h3]
  exact h
theorem d0_ok {p : Po} (h : Pok p) : PB 1000000 (up (cln p)) ∧ 0 < sz (up (cln p)) ∧ sz (up (cln p)) ≤ 5 := ⟨up_PB (cln_PB h.b6), by rw [up_szz, cln_szz]; exact h.2.1, by rw [up_szz, cln_szz]; exact h.2.2⟩
theorem spl_of {p : Po} {u : List Po} (hk : Pok p) (h : spN 5 (up (cln p)) = some u) : spl p = some ([up (cln p)] ++ u) := by
  unfold spl
  rw [if_pos (show fit p = true from fitN_iff.mpr (fun k hk2 => cln_PB hk.b6 k hk2)), h]
  rfl
theorem spl_no {p : Po} (h : spN 5 (up (cln p)) = none) : spl p = none := by
  unfold spl
  rw [h]
  split <;> rfl
theorem ptF_ok {p : Po} {m : Nat} (hk : Pok p) (h1 : 1 ≤ m) (h4 : m ≤ 4) : ∀ t, spN (m + 1) (up (cln p)) = some t → PfOk ([up (cln p)] ++ t) m := fun t ht => by
  obtain ⟨a, b, c⟩ := d0_ok hk
  obtain ⟨u, hu⟩ := spN_more ht h1 b c a
  have h2 := spN_take (n := m + 1) (k := 4 - m) (show spN (m + 1 + (4 - m)) (up (cln p)) = some u by rw [show m + 1 + (4 - m) = 5 by omega]; exact hu)
  rw [ht] at h2
  cases h2
  exact (pf_ok (spl_of hk hu) hk.2.1 hk.2.2 h1 h4).cg (gD_take (by omega)) (gD_take (by omega)) (gD_take (by omega))
theorem mkF11 {p q : Po} {m : Nat} (hk : Pok p) (h1 : 1 ≤ m) (h4 : m ≤ 4) : mkF 11 p q (m : Int) = ptF p m := by
  obtain ⟨a, b, c⟩ := d0_ok hk
  show (match spl p with
    | none => none
    | some l => pfm l (m : Int).toNat) = ptF p m
  rw [Int.toNat_natCast]
  unfold ptF
  cases h5 : spN 5 (up (cln p)) with
  | none =>
    rw [spl_no h5]
    cases ht : spN (m + 1) (up (cln p)) with
    | none => rfl
    | some t =>
      obtain ⟨u, hu⟩ := spN_more ht h1 b c a
      rw [h5] at hu
      cases hu
  | some u =>
    have h2 := spN_take (n := m + 1) (k := 4 - m) (show spN (m + 1 + (4 - m)) (up (cln p)) = some u by rw [show m + 1 + (4 - m) = 5 by omega]; exact h5)
    rw [spl_of hk h5, h2]
    exact (pfm_cg (gD_take (by omega)) (gD_take (by omega)) (gD_take (by omega))).symm
theorem tw_iff {t : Int32} (h : 0 ≤ t.toInt) : isTw t ↔ (t ≤ 3 ∨ t = 10) := by
  constructor
  · rintro (rfl | rfl | rfl | rfl | rfl) <;> decide
  · rintro (g | rfl)
    · rw [i32le, show (3 : Int32).toInt = 3 from rfl] at g
      rcases (by omega : t.toInt = 0 ∨ t.toInt = 1 ∨ t.toInt = 2 ∨ t.toInt = 3) with e | e | e | e
      · exact Or.inl (Int32.toInt_inj.mp e)
      · exact Or.inr (Or.inl (Int32.toInt_inj.mp e))
      · exact Or.inr (Or.inr (Or.inl (Int32.toInt_inj.mp e)))
      · exact Or.inr (Or.inr (Or.inr (Or.inl (Int32.toInt_inj.mp e))))
    · exact Or.inr (Or.inr (Or.inr (Or.inr rfl)))
abbrev isNu (t : Int32) : Prop := t = 6 ∨ t = 7 ∨ t = 11
theorem tw_nu {t : Int32} (h : isTw t) : ¬ isNu t := by
  rcases h with rfl | rfl | rfl | rfl | rfl <;> decide
theorem mkF_PB11 {p q g : Po} {k : Int} (h : mkF 11 p q k = some g) : PB 4000000000000000000 g := by
  have h : (match spl p with
    | none => none
    | some l => pfm l k.toNat) = some g := h
  split at h
  · cases h
  · unfold pfm at h
    split at h
    · split at h
      · cases h
        rename_i e
        exact (fit_PB e).mono (by decide)
      · cases h
    · cases h
theorem mkF_PB1 {t k : Int32} {p q g : Po} (hg : mkF t.toInt.toNat p q k.toInt = some g) (hpk : Pok p) (ht : 0 ≤ t.toInt ∧ t.toInt < 12) (htw : ¬ isTw t) (hk : t = 6 ∨ t = 7 → -9 ≤ k.toInt ∧ k.toInt ≤ 9) : PB 4000000000000000000 g := by
  have h9 : sz p ≤ 9 := sz_le p
  have hc : t.toInt = 0 ∨ t.toInt = 1 ∨ t.toInt = 2 ∨ t.toInt = 3 ∨ t.toInt = 4 ∨ t.toInt = 5 ∨ t.toInt = 6 ∨ t.toInt = 7 ∨ t.toInt = 8 ∨ t.toInt = 9 ∨ t.toInt = 10 ∨ t.toInt = 11 := by omega
  rcases hc with e | e | e | e | e | e | e | e | e | e | e | e
  · have e2 : t = 0 := Int32.toInt_inj.mp e
    subst e2
    exact absurd (by decide) htw
  · have e2 : t = 1 := Int32.toInt_inj.mp e
    subst e2
    exact absurd (by decide) htw
  · have e2 : t = 2 := Int32.toInt_inj.mp e
    subst e2
    exact absurd (by decide) htw
  · have e2 : t = 3 := Int32.toInt_inj.mp e
    subst e2
    exact absurd (by decide) htw
  · have e2 : t = 4 := Int32.toInt_inj.mp e
    subst e2
    exact mkF_PB (t := 4) (q := p) (k := 0) hg hpk.1 hpk.1 (by decide) h9
  · have e2 : t = 5 := Int32.toInt_inj.mp e
    subst e2
    exact mkF_PB (t := 5) (q := p) (k := 0) hg hpk.1 hpk.1 (by decide) h9
  · have e2 : t = 6 := Int32.toInt_inj.mp e
    subst e2
    exact mkF_PB (t := 6) (q := p) (k := k.toInt) hg hpk.1 hpk.1 (by have := hk (by decide); omega) h9
  · have e2 : t = 7 := Int32.toInt_inj.mp e
    subst e2
    exact mkF_PB (t := 7) (q := p) (k := k.toInt) hg hpk.1 hpk.1 (by have := hk (by decide); omega) h9
  · have e2 : t = 8 := Int32.toInt_inj.mp e
    subst e2
    exact mkF_PB (t := 8) (q := p) (k := 0) hg hpk.1 hpk.1 (by decide) h9
  · have e2 : t = 9 := Int32.toInt_inj.mp e
    subst e2
    exact mkF_PB (t := 9) (q := p) (k := 0) hg hpk.1 hpk.1 (by decide) h9
  · have e2 : t = 10 := Int32.toInt_inj.mp e
    subst e2
    exact absurd (by decide) htw
  · have e2 : t = 11 := Int32.toInt_inj.mp e
    subst e2
    exact mkF_PB11 hg
section REF34
variable {L : Nat} {I : amI} {J : amJ} {R : amR} {Q : amQ} {σ : PS} {p q : Po}
set_option maxHeartbeats 2000000 in
theorem m_isOfTwo {t : Int32} (h0 : 0 ≤ t.toInt) : Rv 213 [.int t] (amSH L) I J R (.int (bI (decide (isTw t)))) := by
  intro Q hQ
  rw [decide_eq_decide.mpr (tw_iff h0)] at hQ
  show Ex 213 0 [some (.int t)] [] (amSH L) I J R _
  refine LI0 e213_0 ?_
  refine Ki e213_1 kiconst_3 ?_
  refine C_le e213_2 t213_2 (fun h2 => ?_) (fun h2 => ?_)
  · refine Ki e213_11 kiconst_1 ?_
    refine Go e213_12 t213_12 ?_
    exact Rz e213_16 rt213 (by decide) (by
    rw [decide_eq_true (by first | exact Or.inl h2 | exact Or.inr (Decidable.not_not.mp h8) | exact Or.inr h8)] at hQ
    exact hQ)
  · refine LI0 e213_5 ?_
    refine Ki e213_6 kbipush_10 ?_
    refine C_ne e213_8 t213_8 (fun h8 => ?_) (fun h8 => ?_)
    · refine Ki e213_15 kiconst_0 ?_
      exact Rz e213_16 rt213 (by decide) (by
      rw [decide_eq_false (fun z => z.elim h2 h8)] at hQ
      exact hQ)
    · refine Ki e213_11 kiconst_1 ?_
      refine Go e213_12 t213_12 ?_
      exact Rz e213_16 rt213 (by decide) (by
      rw [decide_eq_true (by first | exact Or.inl h2 | exact Or.inr (Decidable.not_not.mp h8) | exact Or.inr h8)] at hQ
      exact hQ)
set_option maxHeartbeats 2000000 in
theorem m_isOfNumber {t : Int32} : Rv 214 [.int t] (amSH L) I J R (.int (bI (decide (isNu t)))) := by
  intro Q hQ
  show Ex 214 0 [some (.int t)] [] (amSH L) I J R _
  refine LI0 e214_0 ?_
  refine Ki e214_1 kbipush_6 ?_
  refine C_eq e214_3 t214_3 (fun h3 => ?_) (fun h3 => ?_)
  · refine Ki e214_18 kiconst_1 ?_
    refine Go e214_19 t214_19 ?_
    exact Rz e214_23 rt214 (by decide) (by
    rw [decide_eq_true (by first | exact Or.inl h3 | exact Or.inr (Or.inl h9) | exact Or.inr (Or.inr (Decidable.not_not.mp h15)) | exact Or.inr (Or.inr h15))] at hQ
    exact hQ)
  · refine LI0 e214_6 ?_
    refine Ki e214_7 kbipush_7 ?_
    refine C_eq e214_9 t214_9 (fun h9 => ?_) (fun h9 => ?_)
    · refine Ki e214_18 kiconst_1 ?_
      refine Go e214_19 t214_19 ?_
      exact Rz e214_23 rt214 (by decide) (by
      rw [decide_eq_true (by first | exact Or.inl h3 | exact Or.inr (Or.inl h9) | exact Or.inr (Or.inr (Decidable.not_not.mp h15)) | exact Or.inr (Or.inr h15))] at hQ
      exact hQ)
    · refine LI0 e214_12 ?_
      refine Ki e214_13 kbipush_11 ?_
      refine C_ne e214_15 t214_15 (fun h15 => ?_) (fun h15 => ?_)
      · refine Ki e214_22 kiconst_0 ?_
        exact Rz e214_23 rt214 (by decide) (by
        rw [decide_eq_false (fun z => z.elim h3 (fun y => y.elim h9 h15))] at hQ
        exact hQ)
      · refine Ki e214_18 kiconst_1 ?_
        refine Go e214_19 t214_19 ?_
        exact Rz e214_23 rt214 (by decide) (by
        rw [decide_eq_true (by first | exact Or.inl h3 | exact Or.inr (Or.inl h9) | exact Or.inr (Or.inr (Decidable.not_not.mp h15)) | exact Or.inr (Or.inr h15))] at hQ
        exact hQ)
/-- a making that may be -/
abbrev mkOk (ps : List Po) (t i k : Int32) : Prop := (0 ≤ t.toInt ∧ t.toInt < 12) ∧ inP ps i ∧ okJ ps t k
set_option maxHeartbeats 2000000 in
theorem m_isMaking {t i k : Int32} (h8 : σ.1.length ≤ 8) (hm : I 152 2 = nI σ.1.length) : Rv 215 [.ref 152, .int t, .int i, .int k] (amSH L) I J R (.int (bI (decide (mkOk σ.1 t i k)))) := by
  intro Q hQ
  show Ex 215 0 [some (.ref 152), some (.int t), some (.int i), some (.int k)] [] (amSH L) I J R _
  by_cases gt : 0 ≤ t.toInt ∧ t.toInt ≤ 11
  · by_cases gi : inP σ.1 i
    · by_cases gw : isTw t
      · have gn := tw_nu gw
        by_cases gj : inP σ.1 k
        · have gg := gj
          refine LI1 e215_0 ?_
          refine I2l e215_1 ?_
          refine K0 e215_2 ?_
          refine Kd e215_3 kj12 ?_
          refine Cs3 e215_6 c215_152 (Nat.le_of_ble_eq_true rfl) (Nat.le_of_ble_eq_true rfl) (m_in) ?_
          rw [show decide ((0 : Int64) ≤ t.toInt64 ∧ t.toInt64 ≤ 11) = decide (0 ≤ t.toInt ∧ t.toInt ≤ 11) from min64 (a := 0) (b := 11), decide_eq_true gt]
          rw [show bI true = 1 from rfl]
          refine B_eq e215_9 t215_9 (fun q => absurd q (by decide)) (fun _ => ?_)
          refine LA0 e215_12 ?_
          refine LI2 e215_13 ?_
          refine Cv1 e215_14 c215_157 (o152 L) (Nat.le_of_ble_eq_true rfl) (Nat.le_of_ble_eq_true rfl) ((m_isPoly h8 hm)) ?_
          rw [decide_eq_true gi]
          rw [show bI true = 1 from rfl]
          refine B_eq e215_17 t215_17 (fun q => absurd q (by decide)) (fun _ => ?_)
          refine LI1 e215_20 ?_
          refine Cs1 e215_21 c215_213 (Nat.le_of_ble_eq_true rfl) (Nat.le_of_ble_eq_true rfl) ((m_isOfTwo gt.1)) ?_
          rw [decide_eq_true gw]
          rw [show bI true = 1 from rfl]
          refine B_eq e215_24 t215_24 (fun q => absurd q (by decide)) (fun _ => ?_)
          refine LA0 e215_27 ?_
          refine LI3 e215_28 ?_
          refine Cv1 e215_29 c215_157 (o152 L) (Nat.le_of_ble_eq_true rfl) (Nat.le_of_ble_eq_true rfl) ((m_isPoly h8 hm)) ?_
          rw [decide_eq_true gj]
          rw [show bI true = 1 from rfl]
          refine B_ne e215_32 t215_32 (fun _ => ?_) (fun q => absurd (by decide) q)
          refine LI1 e215_37 ?_
          refine Cs1 e215_38 c215_214 (Nat.le_of_ble_eq_true rfl) (Nat.le_of_ble_eq_true rfl) (m_isOfNumber) ?_
          rw [decide_eq_false gn]
          rw [show bI false = 0 from rfl]
          refine B_eq e215_41 t215_41 (fun _ => ?_) (fun q => absurd (rfl) q)
          refine Ki e215_79 kiconst_1 ?_
          refine Go e215_80 t215_80 ?_
          exact Rz e215_84 rt215 (by decide) (by
          rw [decide_eq_true (⟨⟨gt.1, by omega⟩, gi, by unfold okJ; rw [if_pos gw]; exact gj⟩)] at hQ
          exact hQ)
        · have gg := gj
          refine LI1 e215_0 ?_
          refine I2l e215_1 ?_
          refine K0 e215_2 ?_
          refine Kd e215_3 kj12 ?_
          refine Cs3 e215_6 c215_152 (Nat.le_of_ble_eq_true rfl) (Nat.le_of_ble_eq_true rfl) (m_in) ?_
          rw [show decide ((0 : Int64) ≤ t.toInt64 ∧ t.toInt64 ≤ 11) = decide (0 ≤ t.toInt ∧ t.toInt ≤ 11) from min64 (a := 0) (b := 11), decide_eq_true gt]
          rw [show bI true = 1 from rfl]
          refine B_eq e215_9 t215_9 (fun q => absurd q (by decide)) (fun _ => ?_)
          refine LA0 e215_12 ?_
          refine LI2 e215_13 ?_
          refine Cv1 e215_14 c215_157 (o152 L) (Nat.le_of_ble_eq_true rfl) (Nat.le_of_ble_eq_true rfl) ((m_isPoly h8 hm)) ?_
          rw [decide_eq_true gi]
          rw [show bI true = 1 from rfl]
          refine B_eq e215_17 t215_17 (fun q => absurd q (by decide)) (fun _ => ?_)
          refine LI1 e215_20 ?_
          refine Cs1 e215_21 c215_213 (Nat.le_of_ble_eq_true rfl) (Nat.le_of_ble_eq_true rfl) ((m_isOfTwo gt.1)) ?_
          rw [decide_eq_true gw]
          rw [show bI true = 1 from rfl]
          refine B_eq e215_24 t215_24 (fun q => absurd q (by decide)) (fun _ => ?_)
          refine LA0 e215_27 ?_
          refine LI3 e215_28 ?_
          refine Cv1 e215_29 c215_157 (o152 L) (Nat.le_of_ble_eq_true rfl) (Nat.le_of_ble_eq_true rfl) ((m_isPoly h8 hm)) ?_
          rw [decide_eq_false gj]
          rw [show bI false = 0 from rfl]
          refine B_ne e215_32 t215_32 (fun q => absurd q (fun z => z rfl)) (fun _ => ?_)
          refine Ki e215_35 kiconst_0 ?_
          exact Rz e215_36 rt215 (by decide) (by
          rw [decide_eq_false (fun z => gj (by have y := z.2.2; unfold okJ at y; rw [if_pos gw] at y; exact y))] at hQ
          exact hQ)
      · by_cases gn : isNu t
        · by_cases g11 : t = 11
          · have n67 : ¬ (t = 6 ∨ t = 7) := by rw [g11]; decide
            by_cases gj : 1 ≤ k.toInt ∧ k.toInt ≤ 4
            · have gg := gj
              refine LI1 e215_0 ?_
              refine I2l e215_1 ?_
              refine K0 e215_2 ?_
              refine Kd e215_3 kj12 ?_
              refine Cs3 e215_6 c215_152 (Nat.le_of_ble_eq_true rfl) (Nat.le_of_ble_eq_true rfl) (m_in) ?_
              rw [show decide ((0 : Int64) ≤ t.toInt64 ∧ t.toInt64 ≤ 11) = decide (0 ≤ t.toInt ∧ t.toInt ≤ 11) from min64 (a := 0) (b := 11), decide_eq_true gt]
              rw [show bI true = 1 from rfl]
              refine B_eq e215_9 t215_9 (fun q => absurd q (by decide)) (fun _ => ?_)
              refine LA0 e215_12 ?_
              refine LI2 e215_13 ?_
              refine Cv1 e215_14 c215_157 (o152 L) (Nat.le_of_ble_eq_true rfl) (Nat.le_of_ble_eq_true rfl) ((m_isPoly h8 hm)) ?_
              rw [decide_eq_true gi]
              rw [show bI true = 1 from rfl]
              refine B_eq e215_17 t215_17 (fun q => absurd q (by decide)) (fun _ => ?_)
              refine LI1 e215_20 ?_
              refine Cs1 e215_21 c215_213 (Nat.le_of_ble_eq_true rfl) (Nat.le_of_ble_eq_true rfl) ((m_isOfTwo gt.1)) ?_
              rw [decide_eq_false gw]
              rw [show bI false = 0 from rfl]
              refine B_eq e215_24 t215_24 (fun _ => ?_) (fun q => absurd (rfl) q)
              refine LI1 e215_37 ?_
              refine Cs1 e215_38 c215_214 (Nat.le_of_ble_eq_true rfl) (Nat.le_of_ble_eq_true rfl) (m_isOfNumber) ?_
              rw [decide_eq_true gn]
              rw [show bI true = 1 from rfl]
              refine B_eq e215_41 t215_41 (fun q => absurd q (by decide)) (fun _ => ?_)
              refine LI1 e215_44 ?_
              refine Ki e215_45 kbipush_11 ?_
              refine C_ne e215_47 t215_47 (fun q => absurd q ((fun z => z g11))) (fun _ => ?_)
              refine LI3 e215_50 ?_
              refine I2l e215_51 ?_
              refine K1 e215_52 ?_
              refine Kd e215_53 kj7 ?_
              refine Cs3 e215_56 c215_152 (Nat.le_of_ble_eq_true rfl) (Nat.le_of_ble_eq_true rfl) (m_in) ?_
              rw [show decide ((1 : Int64) ≤ k.toInt64 ∧ k.toInt64 ≤ 4) = decide (1 ≤ k.toInt ∧ k.toInt ≤ 4) from min64 (a := 1) (b := 4), decide_eq_true gj]
              rw [show bI true = 1 from rfl]
              refine B_eq e215_59 t215_59 (fun q => absurd q (by decide)) (fun _ => ?_)
              refine Go e215_62 t215_62 ?_
              refine Ki e215_79 kiconst_1 ?_
              refine Go e215_80 t215_80 ?_
              exact Rz e215_84 rt215 (by decide) (by
              rw [decide_eq_true (⟨⟨gt.1, by omega⟩, gi, by unfold okJ; rw [if_neg gw, if_neg n67, if_pos g11]; exact gj⟩)] at hQ
              exact hQ)
            · have gg := gj
              refine LI1 e215_0 ?_
              refine I2l e215_1 ?_
              refine K0 e215_2 ?_
              refine Kd e215_3 kj12 ?_
              refine Cs3 e215_6 c215_152 (Nat.le_of_ble_eq_true rfl) (Nat.le_of_ble_eq_true rfl) (m_in) ?_
              rw [show decide ((0 : Int64) ≤ t.toInt64 ∧ t.toInt64 ≤ 11) = decide (0 ≤ t.toInt ∧ t.toInt ≤ 11) from min64 (a := 0) (b := 11), decide_eq_true gt]
              rw [show bI true = 1 from rfl]
              refine B_eq e215_9 t215_9 (fun q => absurd q (by decide)) (fun _ => ?_)
              refine LA0 e215_12 ?_
              refine LI2 e215_13 ?_
              refine Cv1 e215_14 c215_157 (o152 L) (Nat.le_of_ble_eq_true rfl) (Nat.le_of_ble_eq_true rfl) ((m_isPoly h8 hm)) ?_
              rw [decide_eq_true gi]
              rw [show bI true = 1 from rfl]
              refine B_eq e215_17 t215_17 (fun q => absurd q (by decide)) (fun _ => ?_)
              refine LI1 e215_20 ?_
              refine Cs1 e215_21 c215_213 (Nat.le_of_ble_eq_true rfl) (Nat.le_of_ble_eq_true rfl) ((m_isOfTwo gt.1)) ?_
              rw [decide_eq_false gw]
              rw [show bI false = 0 from rfl]
              refine B_eq e215_24 t215_24 (fun _ => ?_) (fun q => absurd (rfl) q)
              refine LI1 e215_37 ?_
              refine Cs1 e215_38 c215_214 (Nat.le_of_ble_eq_true rfl) (Nat.le_of_ble_eq_true rfl) (m_isOfNumber) ?_
              rw [decide_eq_true gn]
              rw [show bI true = 1 from rfl]
              refine B_eq e215_41 t215_41 (fun q => absurd q (by decide)) (fun _ => ?_)
              refine LI1 e215_44 ?_
              refine Ki e215_45 kbipush_11 ?_
              refine C_ne e215_47 t215_47 (fun q => absurd q ((fun z => z g11))) (fun _ => ?_)
              refine LI3 e215_50 ?_
              refine I2l e215_51 ?_
              refine K1 e215_52 ?_
              refine Kd e215_53 kj7 ?_
              refine Cs3 e215_56 c215_152 (Nat.le_of_ble_eq_true rfl) (Nat.le_of_ble_eq_true rfl) (m_in) ?_
              rw [show decide ((1 : Int64) ≤ k.toInt64 ∧ k.toInt64 ≤ 4) = decide (1 ≤ k.toInt ∧ k.toInt ≤ 4) from min64 (a := 1) (b := 4), decide_eq_false gj]
              rw [show bI false = 0 from rfl]
              refine B_eq e215_59 t215_59 (fun _ => ?_) (fun q => absurd (rfl) q)
              refine Ki e215_83 kiconst_0 ?_
              exact Rz e215_84 rt215 (by decide) (by
              rw [decide_eq_false (fun z => gj (by have y := z.2.2; unfold okJ at y; rw [if_neg gw, if_neg n67, if_pos g11] at y; exact y))] at hQ
              exact hQ)
          · have n67 : t = 6 ∨ t = 7 := by
              rcases gn with z | z | z
              · exact Or.inl z
              · exact Or.inr z
              · exact absurd z g11
            by_cases gj : -9 ≤ k.toInt ∧ k.toInt ≤ 9
            · have gg := gj
              refine LI1 e215_0 ?_
              refine I2l e215_1 ?_
              refine K0 e215_2 ?_
              refine Kd e215_3 kj12 ?_
              refine Cs3 e215_6 c215_152 (Nat.le_of_ble_eq_true rfl) (Nat.le_of_ble_eq_true rfl) (m_in) ?_
              rw [show decide ((0 : Int64) ≤ t.toInt64 ∧ t.toInt64 ≤ 11) = decide (0 ≤ t.toInt ∧ t.toInt ≤ 11) from min64 (a := 0) (b := 11), decide_eq_true gt]
              rw [show bI true = 1 from rfl]
              refine B_eq e215_9 t215_9 (fun q => absurd q (by decide)) (fun _ => ?_)
              refine LA0 e215_12 ?_
              refine LI2 e215_13 ?_
              refine Cv1 e215_14 c215_157 (o152 L) (Nat.le_of_ble_eq_true rfl) (Nat.le_of_ble_eq_true rfl) ((m_isPoly h8 hm)) ?_
              rw [decide_eq_true gi]
              rw [show bI true = 1 from rfl]
              refine B_eq e215_17 t215_17 (fun q => absurd q (by decide)) (fun _ => ?_)
              refine LI1 e215_20 ?_
              refine Cs1 e215_21 c215_213 (Nat.le_of_ble_eq_true rfl) (Nat.le_of_ble_eq_true rfl) ((m_isOfTwo gt.1)) ?_
              rw [decide_eq_false gw]
              rw [show bI false = 0 from rfl]
              refine B_eq e215_24 t215_24 (fun _ => ?_) (fun q => absurd (rfl) q)
              refine LI1 e215_37 ?_
              refine Cs1 e215_38 c215_214 (Nat.le_of_ble_eq_true rfl) (Nat.le_of_ble_eq_true rfl) (m_isOfNumber) ?_
              rw [decide_eq_true gn]
              rw [show bI true = 1 from rfl]
              refine B_eq e215_41 t215_41 (fun q => absurd q (by decide)) (fun _ => ?_)
              refine LI1 e215_44 ?_
              refine Ki e215_45 kbipush_11 ?_
              refine C_ne e215_47 t215_47 (fun _ => ?_) (fun q => absurd (g11) q)
              refine LI3 e215_65 ?_
              refine I2l e215_66 ?_
              refine Kd e215_67 kj13 ?_
              refine Kd e215_70 kj10 ?_
              refine Cs3 e215_73 c215_152 (Nat.le_of_ble_eq_true rfl) (Nat.le_of_ble_eq_true rfl) (m_in) ?_
              rw [show decide ((-9 : Int64) ≤ k.toInt64 ∧ k.toInt64 ≤ 9) = decide (-9 ≤ k.toInt ∧ k.toInt ≤ 9) from min64 (a := -9) (b := 9), decide_eq_true gj]
              rw [show bI true = 1 from rfl]
              refine B_eq e215_76 t215_76 (fun q => absurd q (by decide)) (fun _ => ?_)
              refine Ki e215_79 kiconst_1 ?_
              refine Go e215_80 t215_80 ?_
              exact Rz e215_84 rt215 (by decide) (by
              rw [decide_eq_true (⟨⟨gt.1, by omega⟩, gi, by unfold okJ; rw [if_neg gw, if_pos n67]; exact gj⟩)] at hQ
              exact hQ)
            · have gg := gj
              refine LI1 e215_0 ?_
              refine I2l e215_1 ?_
              refine K0 e215_2 ?_
              refine Kd e215_3 kj12 ?_
              refine Cs3 e215_6 c215_152 (Nat.le_of_ble_eq_true rfl) (Nat.le_of_ble_eq_true rfl) (m_in) ?_
              rw [show decide ((0 : Int64) ≤ t.toInt64 ∧ t.toInt64 ≤ 11) = decide (0 ≤ t.toInt ∧ t.toInt ≤ 11) from min64 (a := 0) (b := 11), decide_eq_true gt]
              rw [show bI true = 1 from rfl]
              refine B_eq e215_9 t215_9 (fun q => absurd q (by decide)) (fun _ => ?_)
              refine LA0 e215_12 ?_
              refine LI2 e215_13 ?_
              refine Cv1 e215_14 c215_157 (o152 L) (Nat.le_of_ble_eq_true rfl) (Nat.le_of_ble_eq_true rfl) ((m_isPoly h8 hm)) ?_
              rw [decide_eq_true gi]
              rw [show bI true = 1 from rfl]
              refine B_eq e215_17 t215_17 (fun q => absurd q (by decide)) (fun _ => ?_)
              refine LI1 e215_20 ?_
              refine Cs1 e215_21 c215_213 (Nat.le_of_ble_eq_true rfl) (Nat.le_of_ble_eq_true rfl) ((m_isOfTwo gt.1)) ?_
              rw [decide_eq_false gw]
              rw [show bI false = 0 from rfl]
              refine B_eq e215_24 t215_24 (fun _ => ?_) (fun q => absurd (rfl) q)
              refine LI1 e215_37 ?_
              refine Cs1 e215_38 c215_214 (Nat.le_of_ble_eq_true rfl) (Nat.le_of_ble_eq_true rfl) (m_isOfNumber) ?_
              rw [decide_eq_true gn]
              rw [show bI true = 1 from rfl]
              refine B_eq e215_41 t215_41 (fun q => absurd q (by decide)) (fun _ => ?_)
              refine LI1 e215_44 ?_
              refine Ki e215_45 kbipush_11 ?_
              refine C_ne e215_47 t215_47 (fun _ => ?_) (fun q => absurd (g11) q)
              refine LI3 e215_65 ?_
              refine I2l e215_66 ?_
              refine Kd e215_67 kj13 ?_
              refine Kd e215_70 kj10 ?_
              refine Cs3 e215_73 c215_152 (Nat.le_of_ble_eq_true rfl) (Nat.le_of_ble_eq_true rfl) (m_in) ?_
              rw [show decide ((-9 : Int64) ≤ k.toInt64 ∧ k.toInt64 ≤ 9) = decide (-9 ≤ k.toInt ∧ k.toInt ≤ 9) from min64 (a := -9) (b := 9), decide_eq_false gj]
              rw [show bI false = 0 from rfl]
              refine B_eq e215_76 t215_76 (fun _ => ?_) (fun q => absurd (rfl) q)
              refine Ki e215_83 kiconst_0 ?_
              exact Rz e215_84 rt215 (by decide) (by
              rw [decide_eq_false (fun z => gj (by have y := z.2.2; unfold okJ at y; rw [if_neg gw, if_pos n67] at y; exact y))] at hQ
              exact hQ)
        · have n67 : ¬ (t = 6 ∨ t = 7) := fun z => gn (z.elim Or.inl (fun y => Or.inr (Or.inl y)))
          have n11 : ¬ t = 11 := fun z => gn (Or.inr (Or.inr z))
          refine LI1 e215_0 ?_
          refine I2l e215_1 ?_
          refine K0 e215_2 ?_
          refine Kd e215_3 kj12 ?_
          refine Cs3 e215_6 c215_152 (Nat.le_of_ble_eq_true rfl) (Nat.le_of_ble_eq_true rfl) (m_in) ?_
          rw [show decide ((0 : Int64) ≤ t.toInt64 ∧ t.toInt64 ≤ 11) = decide (0 ≤ t.toInt ∧ t.toInt ≤ 11) from min64 (a := 0) (b := 11), decide_eq_true gt]
          rw [show bI true = 1 from rfl]
          refine B_eq e215_9 t215_9 (fun q => absurd q (by decide)) (fun _ => ?_)
          refine LA0 e215_12 ?_
          refine LI2 e215_13 ?_
          refine Cv1 e215_14 c215_157 (o152 L) (Nat.le_of_ble_eq_true rfl) (Nat.le_of_ble_eq_true rfl) ((m_isPoly h8 hm)) ?_
          rw [decide_eq_true gi]
          rw [show bI true = 1 from rfl]
          refine B_eq e215_17 t215_17 (fun q => absurd q (by decide)) (fun _ => ?_)
          refine LI1 e215_20 ?_
          refine Cs1 e215_21 c215_213 (Nat.le_of_ble_eq_true rfl) (Nat.le_of_ble_eq_true rfl) ((m_isOfTwo gt.1)) ?_
          rw [decide_eq_false gw]
          rw [show bI false = 0 from rfl]
          refine B_eq e215_24 t215_24 (fun _ => ?_) (fun q => absurd (rfl) q)
          refine LI1 e215_37 ?_
          refine Cs1 e215_38 c215_214 (Nat.le_of_ble_eq_true rfl) (Nat.le_of_ble_eq_true rfl) (m_isOfNumber) ?_
          rw [decide_eq_false gn]
          rw [show bI false = 0 from rfl]
          refine B_eq e215_41 t215_41 (fun _ => ?_) (fun q => absurd (rfl) q)
          refine Ki e215_79 kiconst_1 ?_
          refine Go e215_80 t215_80 ?_
          exact Rz e215_84 rt215 (by decide) (by
          rw [decide_eq_true (⟨⟨gt.1, by omega⟩, gi, by unfold okJ; rw [if_neg gw, if_neg n67, if_neg n11]; trivial⟩)] at hQ
          exact hQ)
    · have gg := gi
      refine LI1 e215_0 ?_
      refine I2l e215_1 ?_
      refine K0 e215_2 ?_
      refine Kd e215_3 kj12 ?_
      refine Cs3 e215_6 c215_152 (Nat.le_of_ble_eq_true rfl) (Nat.le_of_ble_eq_true rfl) (m_in) ?_
      rw [show decide ((0 : Int64) ≤ t.toInt64 ∧ t.toInt64 ≤ 11) = decide (0 ≤ t.toInt ∧ t.toInt ≤ 11) from min64 (a := 0) (b := 11), decide_eq_true gt]
      rw [show bI true = 1 from rfl]
      refine B_eq e215_9 t215_9 (fun q => absurd q (by decide)) (fun _ => ?_)
      refine LA0 e215_12 ?_
      refine LI2 e215_13 ?_
      refine Cv1 e215_14 c215_157 (o152 L) (Nat.le_of_ble_eq_true rfl) (Nat.le_of_ble_eq_true rfl) ((m_isPoly h8 hm)) ?_
      rw [decide_eq_false gi]
      rw [show bI false = 0 from rfl]
      refine B_eq e215_17 t215_17 (fun _ => ?_) (fun q => absurd (rfl) q)
      refine Ki e215_35 kiconst_0 ?_
      exact Rz e215_36 rt215 (by decide) (by
      rw [decide_eq_false (fun z => gi z.2.1)] at hQ
      exact hQ)
  · have gg := gt
    refine LI1 e215_0 ?_
    refine I2l e215_1 ?_
    refine K0 e215_2 ?_
    refine Kd e215_3 kj12 ?_
    refine Cs3 e215_6 c215_152 (Nat.le_of_ble_eq_true rfl) (Nat.le_of_ble_eq_true rfl) (m_in) ?_
    rw [show decide ((0 : Int64) ≤ t.toInt64 ∧ t.toInt64 ≤ 11) = decide (0 ≤ t.toInt ∧ t.toInt ≤ 11) from min64 (a := 0) (b := 11), decide_eq_false gt]
    rw [show bI false = 0 from rfl]
    refine B_eq e215_9 t215_9 (fun _ => ?_) (fun q => absurd (rfl) q)
    refine Ki e215_35 kiconst_0 ?_
    exact Rz e215_36 rt215 (by decide) (by
    rw [decide_eq_false (fun z => gt ⟨z.1.1, by omega⟩)] at hQ
    exact hQ)
theorem m_makes2 {t k : Int32} (hR : amRok R) (hp : JP J 157 p) (hq : JP J 158 q) (hpk : Pok p) (hqk : Pok q) (hf : I 152 9 = 0) (htw : isTw t) : Cl 218 [.ref 152, .int t, .int k] (amSH L) I J R (fun v I' J' R' => v = none ∧ R' = R ∧ MmP I J (mkF t.toInt.toNat p q k.toInt) I' J') := by
  rcases htw with rfl | rfl | rfl | rfl | rfl
  · exact m_mk0 hR hp hq hpk hqk hf
  · exact m_mk1 hR hp hq hpk hqk hf
  · exact m_mk2 hR hp hq hpk hqk hf
  · exact m_mk3 hR hp hq hpk hqk hf
  · exact m_mk10 hR hp hq hpk hqk hf
set_option maxHeartbeats 2000000 in
theorem m_mk11 {m : Nat} (hR : amRok R) (hp : JP J 157 p) (hpk : Pok p) (hm1 : 1 ≤ m) (hm4 : m ≤ 4) (hf : I 152 9 = 0) : Cl 218 [.ref 152, .int 11, .int (nI m)] (amSH L) I J R (fun v I' J' R' => v = none ∧ R' = R ∧ MmP I J (ptF p m) I' J') := by
  show Ex 218 0 [some (.ref 152), some (.int 11), some (.int (nI m)), none] [] (amSH L) I J R _
  refine LA0 e218_0 ?_
  refine Gr e218_1 (o152 L) (hR 152 6 156 rfl) f774 ?_
  refine Cs1p e218_4 c218_171 (Nat.le_of_ble_eq_true rfl) (Nat.le_of_ble_eq_true rfl) (m_empties (o156 L)) ?_
  rintro _ I1 J1 R1 ⟨rfl, hI1, hR1, hF1, hP1⟩
  have hI1 := hI1.symm
  subst hI1
  have hR1 := hR1.symm
  subst hR1
  have hp1 := hp.fr hF1 (by decide)
  refine LI1 e218_7 ?_
  refine Tout e218_8 (show amTg 8 334 = some 342 from by decide) (by decide) ?_
  refine LA0 e218_342 ?_
  refine LI2 e218_343 ?_
  refine Cv1p e218_344 c218_217 (o152 L) (Nat.le_of_ble_eq_true rfl) (Nat.le_of_ble_eq_true rfl) (m_partsOf hR hm1 hm4 hp1 hpk (ptF_ok hpk hm1 hm4) hf) ?_
  rintro _ I2 J2 R2 ⟨rfl, hR2, hM⟩
  have hR2 := hR2.symm
  subst hR2
  exact Rvd e218_347 rt218 (⟨rfl, rfl, hM.1, fun y hy => (hM.2.1 y hy).trans (hF1 y (by omega)), hM.2.2⟩)
  
theorem m_makes1 {t k : Int32} (hR : amRok R) (hp : JP J 157 p) (hpk : Pok p) (hf : I 152 9 = 0) (ht : 0 ≤ t.toInt ∧ t.toInt < 12) (htw : ¬ isTw t) (hk : t = 11 → 1 ≤ k.toInt ∧ k.toInt ≤ 4) : Cl 218 [.ref 152, .int t, .int k] (amSH L) I J R (fun v I' J' R' => v = none ∧ R' = R ∧ MmP I J (mkF t.toInt.toNat p q k.toInt) I' J') := by
  have hc : t.toInt = 0 ∨ t.toInt = 1 ∨ t.toInt = 2 ∨ t.toInt = 3 ∨ t.toInt = 4 ∨ t.toInt = 5 ∨ t.toInt = 6 ∨ t.toInt = 7 ∨ t.toInt = 8 ∨ t.toInt = 9 ∨ t.toInt = 10 ∨ t.toInt = 11 := by omega
  rcases hc with e | e | e | e | e | e | e | e | e | e | e | e
  · have e2 : t = 0 := Int32.toInt_inj.mp e
    subst e2
    exact absurd (by decide) htw
  · have e2 : t = 1 := Int32.toInt_inj.mp e
    subst e2
    exact absurd (by decide) htw
  · have e2 : t = 2 := Int32.toInt_inj.mp e
    subst e2
    exact absurd (by decide) htw
  · have e2 : t = 3 := Int32.toInt_inj.mp e
    subst e2
    exact absurd (by decide) htw
  · have e2 : t = 4 := Int32.toInt_inj.mp e
    subst e2
    exact m_mk4 (q := fun k => (J 158 k).toInt) hR hp JP.any hpk hf
  · have e2 : t = 5 := Int32.toInt_inj.mp e
    subst e2
    exact m_mk5 (q := fun k => (J 158 k).toInt) hR hp JP.any hpk hf
  · have e2 : t = 6 := Int32.toInt_inj.mp e
    subst e2
    exact m_mk6 (q := fun k => (J 158 k).toInt) hR hp JP.any hpk hf
  · have e2 : t = 7 := Int32.toInt_inj.mp e
    subst e2
    exact m_mk7 (q := fun k => (J 158 k).toInt) hR hp JP.any hpk hf
  · have e2 : t = 8 := Int32.toInt_inj.mp e
    subst e2
    exact m_mk8 (q := fun k => (J 158 k).toInt) hR hp JP.any hpk hf
  · have e2 : t = 9 := Int32.toInt_inj.mp e
    subst e2
    exact m_mk9 (q := fun k => (J 158 k).toInt) hR hp JP.any hpk hf
  · have e2 : t = 10 := Int32.toInt_inj.mp e
    subst e2
    exact absurd (by decide) htw
  · have e2 : t = 11 := Int32.toInt_inj.mp e
    subst e2
    obtain ⟨h1, h4⟩ := hk rfl
    obtain ⟨m, hm1, hm4, rfl⟩ : ∃ m : Nat, 1 ≤ m ∧ m ≤ 4 ∧ k = nI m := ⟨k.toInt.toNat, by omega, by omega, by rw [← Int32.toInt_inj, nI_toInt (by omega)]; omega⟩
    have h := m_mk11 (L := L) (R := R) hR hp hpk hm1 hm4 hf
    rw [← mkF11 (q := q) hpk hm1 hm4] at h
    rw [nI_toInt (show m < 2 ^ 31 by omega)]
    exact h
set_option maxHeartbeats 2000000 in
theorem n_make {t i q : Int32} (h : MSt I J R σ) : Cl 219 [.ref 152, .int t, .int i, .int q] (amSH L) I J R (MP I J R (sMake σ t i q).2 (.int (sMake σ t i q).1)) := by
  obtain ⟨hR, hPl, -, -, -, -, hO⟩ := id h
  have h8 := hO.1.1
  have hk0 : MK I (amU I 152 9 0) J J := ⟨fun y i a b c => by unfold amU; rw [if_neg (by omega)], fun _ _ => rfl⟩
  unfold sMake
  show Ex 219 0 [some (.ref 152), some (.int t), some (.int i), some (.int q)] [] (amSH L) I J R _
  by_cases gm : mkOk σ.1 t i q
  · obtain ⟨gt, gi, gj⟩ := id gm
    rw [if_pos gm]
    by_cases g8 : σ.1.length = 8
    · rw [if_pos g8]
      refine LA0 e219_0 ?_
      refine LI1 e219_1 ?_
      refine LI2 e219_2 ?_
      refine LI3 e219_3 ?_
      refine Cv3 e219_4 c219_215 (o152 L) (Nat.le_of_ble_eq_true rfl) (Nat.le_of_ble_eq_true rfl) ((m_isMaking h8 hPl.1)) ?_
      rw [decide_eq_true gm]
      rw [show bI true = 1 from rfl]
      refine B_ne e219_7 t219_7 (fun _ => ?_) (fun q => absurd (by decide) q)
      refine LA0 e219_12 ?_
      refine Gi e219_13 (o152 L) (amGi_of f770 (by decide)) ?_
      rw [hPl.1]
      refine Ki e219_16 kbipush_8 ?_
      refine CN_ne (a := σ.1.length) (b := 8) e219_18 t219_18 rfl (by decide) (by omega) (by omega) (fun q => absurd q (fun z => z g8)) (fun _ => ?_)
      refine Ki e219_21 kbipush_m3 ?_
      exact Ri e219_23 rt219 (MP.rf h)
    · rw [if_neg g8]
      obtain ⟨k, hk, rfl, ek⟩ := gi.of h8
      rw [ek]
      have hok := hO.1.2 k hk
      by_cases gw : isTw t
      · have gj2 : inP σ.1 q := by have y := gj; unfold okJ at y; rw [if_pos gw] at y; exact y
        obtain ⟨m, hm, rfl, em⟩ := gj2.of h8
        rw [em]
        have hokm := hO.1.2 m hm
        refine LA0 e219_0 ?_
        refine LI1 e219_1 ?_
        refine LI2 e219_2 ?_
        refine LI3 e219_3 ?_
        refine Cv3 e219_4 c219_215 (o152 L) (Nat.le_of_ble_eq_true rfl) (Nat.le_of_ble_eq_true rfl) ((m_isMaking h8 hPl.1)) ?_
        rw [decide_eq_true gm]
        rw [show bI true = 1 from rfl]
        refine B_ne e219_7 t219_7 (fun _ => ?_) (fun q => absurd (by decide) q)
        refine LA0 e219_12 ?_
        refine Gi e219_13 (o152 L) (amGi_of f770 (by decide)) ?_
        rw [hPl.1]
        refine Ki e219_16 kbipush_8 ?_
        refine CN_ne (a := σ.1.length) (b := 8) e219_18 t219_18 rfl (by decide) (by omega) (by omega) (fun _ => ?_) (fun q => absurd q g8)
        refine LA0 e219_24 ?_
        refine Cv0p e219_25 c219_189 (o152 L) (Nat.le_of_ble_eq_true rfl) (Nat.le_of_ble_eq_true rfl) (m_opens) ?_
        rintro _ I0 J0 R0 ⟨rfl, hI0, hJ0, hR0⟩
        have hI0 := hI0.symm
        subst hI0
        have hJ0 := hJ0.symm
        subst hJ0
        have hR0 := hR0.symm
        subst hR0
        refine LA0 e219_28 ?_
        refine LI2 e219_29 ?_
        refine LA0 e219_30 ?_
        refine Gr e219_31 (o152 L) (hR 152 7 157 rfl) f775 ?_
        refine Cv2p e219_34 c219_163 (o152 L) (Nat.le_of_ble_eq_true rfl) (Nat.le_of_ble_eq_true rfl) (m_loads hR (o157 L) (by omega) (fun k2 hk2 => (hPl.k hk0 (by omega) (by omega)).2 k k2 hk hk2) hok) ?_
        rintro _ I1 J1 R1 ⟨rfl, hI1, hR1, hF1, hP1⟩
        have hI1 := hI1.symm
        subst hI1
        have hR1 := hR1.symm
        subst hR1
        refine LI1 e219_37 ?_
        refine Cs1 e219_38 c219_213 (Nat.le_of_ble_eq_true rfl) (Nat.le_of_ble_eq_true rfl) ((m_isOfTwo gt.1)) ?_
        rw [decide_eq_true gw]
        rw [show bI true = 1 from rfl]
        refine B_eq e219_41 t219_41 (fun q => absurd q (by decide)) (fun _ => ?_)
        refine LA0 e219_44 ?_
        refine LI3 e219_45 ?_
        refine LA0 e219_46 ?_
        refine Gr e219_47 (o152 L) (hR 152 8 158 rfl) f776 ?_
        refine Cv2p e219_50 c219_163 (o152 L) (Nat.le_of_ble_eq_true rfl) (Nat.le_of_ble_eq_true rfl) (m_loads hR (o158 L) (by omega) (fun k2 hk2 => (hPl.k hk0 (by omega) (by omega)).2 m k2 hm hk2) hokm) ?_
        rintro _ I2 J2 R2 ⟨rfl, hI2, hR2, hF2, hP2⟩
        have hI2 := hI2.symm
        subst hI2
        have hR2 := hR2.symm
        subst hR2
        refine LA0 e219_53 ?_
        refine LI1 e219_54 ?_
        refine LI3 e219_55 ?_
        refine Cv2p e219_56 c219_218 (o152 L) (Nat.le_of_ble_eq_true rfl) (Nat.le_of_ble_eq_true rfl) (m_makes2 hR (hP1.fr hF2 (by decide)) hP2 hok hokm amU_same gw) ?_
        rintro _ I3 J3 R3 ⟨rfl, hR3, hG3, hF3, hD⟩
        have hR3 := hR3.symm
        subst hR3
        have hk3 : MK I I3 J J3 := hk0.tr ((hG3.go (B := 0)).k (fun y hy => by rw [hF3 y hy, hF2 y (by omega), hF1 y (by omega)]))
        rcases hD with ⟨g, hg, hf3, hP3⟩ | ⟨hg, hf3⟩
        · rw [hg]
          dsimp only
          have hgB : PB 4000000000000000000 g := mkF_PB hg hok.1 hokm.1 (by rw [nI_toInt (by omega)]; omega) (by have := hok.2.2; omega)
          refine LA0 e219_59 ?_
          refine Cv0p e219_60 c219_158 (o152 L) (Nat.le_of_ble_eq_true rfl) (Nat.le_of_ble_eq_true rfl) (m_comes (h.k hk3) hf3 hP3 hgB) ?_
          rintro v I9 J9 R9 hres
          obtain rfl := hres.1
          exact Ri e219_63 rt219 (hres.tr hk3.lo hk3.2)
        · rw [hg]
          dsimp only
          refine LA0 e219_59 ?_
          refine Cv0p e219_60 c219_158 (o152 L) (Nat.le_of_ble_eq_true rfl) (Nat.le_of_ble_eq_true rfl) (m_comesF (h.k hk3) hf3) ?_
          rintro v I9 J9 R9 hres
          obtain rfl := hres.1
          exact Ri e219_63 rt219 (hres.tr hk3.lo hk3.2)
      · have hkb : ∀ g, mkF t.toInt.toNat (σ.1.getD k zP) (plP σ.1 q) q.toInt = some g → PB 4000000000000000000 g := fun g hg => by
          exact mkF_PB1 hg hok gt gw (fun z => by
            have y := gj
            unfold okJ at y
            rw [if_neg gw, if_pos z] at y
            exact y)
        have h11 : t = 11 → 1 ≤ q.toInt ∧ q.toInt ≤ 4 := fun z => by
          have y := gj
          unfold okJ at y
          rw [if_neg gw, if_neg (by rw [z]; decide), if_pos z] at y
          exact y
        refine LA0 e219_0 ?_
        refine LI1 e219_1 ?_
        refine LI2 e219_2 ?_
        refine LI3 e219_3 ?_
        refine Cv3 e219_4 c219_215 (o152 L) (Nat.le_of_ble_eq_true rfl) (Nat.le_of_ble_eq_true rfl) ((m_isMaking h8 hPl.1)) ?_
        rw [decide_eq_true gm]
        rw [show bI true = 1 from rfl]
        refine B_ne e219_7 t219_7 (fun _ => ?_) (fun q => absurd (by decide) q)
        refine LA0 e219_12 ?_
        refine Gi e219_13 (o152 L) (amGi_of f770 (by decide)) ?_
        rw [hPl.1]
        refine Ki e219_16 kbipush_8 ?_
        refine CN_ne (a := σ.1.length) (b := 8) e219_18 t219_18 rfl (by decide) (by omega) (by omega) (fun _ => ?_) (fun q => absurd q g8)
        refine LA0 e219_24 ?_
        refine Cv0p e219_25 c219_189 (o152 L) (Nat.le_of_ble_eq_true rfl) (Nat.le_of_ble_eq_true rfl) (m_opens) ?_
        rintro _ I0 J0 R0 ⟨rfl, hI0, hJ0, hR0⟩
        have hI0 := hI0.symm
        subst hI0
        have hJ0 := hJ0.symm
        subst hJ0
        have hR0 := hR0.symm
        subst hR0
        refine LA0 e219_28 ?_
        refine LI2 e219_29 ?_
        refine LA0 e219_30 ?_
        refine Gr e219_31 (o152 L) (hR 152 7 157 rfl) f775 ?_
        refine Cv2p e219_34 c219_163 (o152 L) (Nat.le_of_ble_eq_true rfl) (Nat.le_of_ble_eq_true rfl) (m_loads hR (o157 L) (by omega) (fun k2 hk2 => (hPl.k hk0 (by omega) (by omega)).2 k k2 hk hk2) hok) ?_
        rintro _ I1 J1 R1 ⟨rfl, hI1, hR1, hF1, hP1⟩
        have hI1 := hI1.symm
        subst hI1
        have hR1 := hR1.symm
        subst hR1
        refine LI1 e219_37 ?_
        refine Cs1 e219_38 c219_213 (Nat.le_of_ble_eq_true rfl) (Nat.le_of_ble_eq_true rfl) ((m_isOfTwo gt.1)) ?_
        rw [decide_eq_false gw]
        rw [show bI false = 0 from rfl]
        refine B_eq e219_41 t219_41 (fun _ => ?_) (fun q => absurd (rfl) q)
        refine LA0 e219_53 ?_
        refine LI1 e219_54 ?_
        refine LI3 e219_55 ?_
        refine Cv2p e219_56 c219_218 (o152 L) (Nat.le_of_ble_eq_true rfl) (Nat.le_of_ble_eq_true rfl) (m_makes1 (q := plP σ.1 q) hR hP1 hok amU_same gt gw h11) ?_
        rintro _ I3 J3 R3 ⟨rfl, hR3, hG3, hF3, hD⟩
        have hR3 := hR3.symm
        subst hR3
        have hk3 : MK I I3 J J3 := hk0.tr ((hG3.go (B := 0)).k (fun y hy => by rw [hF3 y hy, hF1 y (by omega)]))
        rcases hD with ⟨g, hg, hf3, hP3⟩ | ⟨hg, hf3⟩
        · rw [hg]
          dsimp only
          have hgB : PB 4000000000000000000 g := hkb g hg
          refine LA0 e219_59 ?_
          refine Cv0p e219_60 c219_158 (o152 L) (Nat.le_of_ble_eq_true rfl) (Nat.le_of_ble_eq_true rfl) (m_comes (h.k hk3) hf3 hP3 hgB) ?_
          rintro v I9 J9 R9 hres
          obtain rfl := hres.1
          exact Ri e219_63 rt219 (hres.tr hk3.lo hk3.2)
        · rw [hg]
          dsimp only
          refine LA0 e219_59 ?_
          refine Cv0p e219_60 c219_158 (o152 L) (Nat.le_of_ble_eq_true rfl) (Nat.le_of_ble_eq_true rfl) (m_comesF (h.k hk3) hf3) ?_
          rintro v I9 J9 R9 hres
          obtain rfl := hres.1
          exact Ri e219_63 rt219 (hres.tr hk3.lo hk3.2)
  · rw [if_neg gm]
    refine LA0 e219_0 ?_
    refine LI1 e219_1 ?_
    refine LI2 e219_2 ?_
    refine LI3 e219_3 ?_
    refine Cv3 e219_4 c219_215 (o152 L) (Nat.le_of_ble_eq_true rfl) (Nat.le_of_ble_eq_true rfl) ((m_isMaking h8 hPl.1)) ?_
    rw [decide_eq_false gm]
    rw [show bI false = 0 from rfl]
    refine B_ne e219_7 t219_7 (fun q => absurd q ((fun z => z rfl))) (fun _ => ?_)
    refine Ki e219_10 kiconst_m1 ?_
    exact Ri e219_11 rt219 (MP.rf h)
end REF34
