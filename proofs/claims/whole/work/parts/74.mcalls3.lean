/-! the reference: image, back, list, of (printed by wip/whole/t74.py) -/
section REF11
variable {L : Nat} {I : amI} {J : amJ} {R : amR} {Q : amQ} {a B : Nat} {q : Po} {ps l : List Po} {σ : PS}
set_option maxHeartbeats 2000000 in
theorem m_im_lp (hR : amRok R) (hQ : ∀ I'', (∀ y j, y ≠ 154 → I'' y j = I y j) → (∀ j, j < 40 → I'' 154 j = I 153 j) → Ex 245 26 [some (.ref 152), some (.int (nI 40))] [] (amSH L) I'' J R Q) : ∀ (n i : Nat) (I' : amI), 40 - i < n → i ≤ 40 → (∀ y j, y ≠ 154 → I' y j = I y j) → (∀ j, j < i → I' 154 j = I 153 j) → Ex 245 2 [some (.ref 152), some (.int (nI i))] [] (amSH L) I' J R Q := by
  intro n
  induction n with
  | zero => intro i I' h; omega
  | succ n ih =>
    intro i I' h h9 g1 g2
    refine LI1 e245_2 ?_
    refine Ki e245_3 kbipush_40 ?_
    refine CN_ge (a := i) (b := 40) e245_5 t245_5 rfl (by decide) (by omega) (by omega) (fun h5 => ?_) (fun h5 => ?_)
    · have e9 : i = 40 := by omega
      subst e9
      exact hQ _ g1 g2
    · refine LA0 e245_8 ?_
      refine Gr e245_9 (o152 L) (hR 152 3 154 rfl) f771 ?_
      refine LI1 e245_12 ?_
      refine LA0 e245_13 ?_
      refine Gr e245_14 (o152 L) (hR 152 1 153 rfl) f769 ?_
      refine LI1 e245_17 ?_
      refine AiN (k := i) e245_18 (o153 L) rfl (by omega) (by decide) ?_
      refine WiN (k := i) e245_19 (o154 L) rfl (by omega) (by decide) ?_
      refine IncN1 (m := i) e245_20 rfl ?_
      refine Go e245_23 t245_23 ?_
      refine ih (i + 1) _ (by omega) (by omega) (fun y j hy => by rw [up_o (by omega)]; exact g1 y j hy) (fun j hj => ?_)
      by_cases e : j = i
      · rw [e, amU_same]
        exact g1 153 i (by decide)
      · rw [up_o (by omega)]
        exact g2 j (by omega)
set_option maxHeartbeats 2000000 in
theorem n_image (h : MSt I J R σ) : Cl 245 [.ref 152] (amSH L) I J R (MP I J R (sImage σ).2 (.int (sImage σ).1)) := by
  obtain ⟨hR, hPl, h3, h4, h5, h6, h7⟩ := id h
  have h3 : M3 I σ.2.1 := h3
  have h4 : M4 I σ.2.2.1 σ.2.2.2.1 := h4
  have h5 : M5 I σ.2.2.2.2.1 := h5
  have h6 : M6 I σ.2.2.2.2.2.1 σ.2.2.2.2.2.2 := h6
  have h8 := h7.1.1
  have hn120 := h7.2.2.1
  have hw35 := h7.2.2.2.1
  unfold sImage
  show Ex 245 0 [some (.ref 152), none] [] (amSH L) I J R _
  refine Ki e245_0 kiconst_0 ?_
  refine SI1 e245_1 rfl ?_
  refine m_im_lp hR (fun I1 g1 g2 => ?_) 41 0 I (by omega) (by omega) (fun _ _ _ => rfl) (fun j hj => by omega)
  have hPl1 : MPl I1 153 2 σ.1 := hPl.cg (g1 _ _ (by omega)) (fun i => g1 _ _ (by omega))
  refine LA0 e245_26 ?_
  refine LA0 e245_27 ?_
  refine Gi e245_28 (o152 L) (amGi_of f770 (by decide)) ?_
  rw [hPl1.1]
  refine Pi e245_31 (o152 L) f772 ?_
  refine LA0 e245_34 ?_
  refine Gi e245_35 (o152 L) (amGi_of f770 (by decide)) ?_
  rw [up_o (by omega), hPl1.1]
  exact Ri e245_38 rt245 (by
  refine ⟨rfl, ⟨hR, hPl1.cg (up_o (by omega)) (fun i => up_o (by omega)), Or.inr ⟨σ.1, rfl, amU_same, fun p k hp hk => ?_⟩, h4.cg ((up_o (by omega)).trans (g1 _ _ (by omega))) (fun i => (up_o (by omega)).trans (g1 _ _ (by omega))), h5.cg ((up_o (by omega)).trans (g1 _ _ (by omega))) (fun i => (up_o (by omega)).trans (g1 _ _ (by omega))), h6.cg (fun i => (up_o (by omega)).trans (g1 _ _ (by omega))) (fun i => (up_o (by omega)).trans (g1 _ _ (by omega))), ⟨h7.1, fun l hl => by cases hl; exact h7.1, h7.2.2⟩⟩, fun y hy => by funext i; rw [up_o (by omega), g1 _ _ (by omega)], fun _ _ => rfl, rfl⟩
  have hk40 : 5 * p + k < 40 := by omega
  rw [up_o (by omega), g2 _ hk40]
  exact hPl.2 p k hp hk)
set_option maxHeartbeats 2000000 in
theorem m_bk_lp (hR : amRok R) (hQ : ∀ I'', (∀ y j, y ≠ 153 → I'' y j = I y j) → (∀ j, j < 40 → I'' 153 j = I 154 j) → Ex 246 36 [some (.ref 152), some (.int (nI 40))] [] (amSH L) I'' J R Q) : ∀ (n i : Nat) (I' : amI), 40 - i < n → i ≤ 40 → (∀ y j, y ≠ 153 → I' y j = I y j) → (∀ j, j < i → I' 153 j = I 154 j) → Ex 246 12 [some (.ref 152), some (.int (nI i))] [] (amSH L) I' J R Q := by
  intro n
  induction n with
  | zero => intro i I' h; omega
  | succ n ih =>
    intro i I' h h9 g1 g2
    refine LI1 e246_12 ?_
    refine Ki e246_13 kbipush_40 ?_
    refine CN_ge (a := i) (b := 40) e246_15 t246_15 rfl (by decide) (by omega) (by omega) (fun h15 => ?_) (fun h15 => ?_)
    · have e9 : i = 40 := by omega
      subst e9
      exact hQ _ g1 g2
    · refine LA0 e246_18 ?_
      refine Gr e246_19 (o152 L) (hR 152 1 153 rfl) f769 ?_
      refine LI1 e246_22 ?_
      refine LA0 e246_23 ?_
      refine Gr e246_24 (o152 L) (hR 152 3 154 rfl) f771 ?_
      refine LI1 e246_27 ?_
      refine AiN (k := i) e246_28 (o154 L) rfl (by omega) (by decide) ?_
      refine WiN (k := i) e246_29 (o153 L) rfl (by omega) (by decide) ?_
      refine IncN1 (m := i) e246_30 rfl ?_
      refine Go e246_33 t246_33 ?_
      refine ih (i + 1) _ (by omega) (by omega) (fun y j hy => by rw [up_o (by omega)]; exact g1 y j hy) (fun j hj => ?_)
      by_cases e : j = i
      · rw [e, amU_same]
        exact g1 154 i (by decide)
      · rw [up_o (by omega)]
        exact g2 j (by omega)
set_option maxHeartbeats 2000000 in
theorem n_back (h : MSt I J R σ) : Cl 246 [.ref 152] (amSH L) I J R (MP I J R (sBack σ).2 (.int (sBack σ).1)) := by
  obtain ⟨hR, hPl, h3, h4, h5, h6, h7⟩ := id h
  have h3 : M3 I σ.2.1 := h3
  have h4 : M4 I σ.2.2.1 σ.2.2.2.1 := h4
  have h5 : M5 I σ.2.2.2.2.1 := h5
  have h6 : M6 I σ.2.2.2.2.2.1 σ.2.2.2.2.2.2 := h6
  have h8 := h7.1.1
  have hn120 := h7.2.2.1
  have hw35 := h7.2.2.2.1
  unfold sBack
  show Ex 246 0 [some (.ref 152), none] [] (amSH L) I J R _
  rcases id h3 with ⟨e1, e2⟩ | ⟨l, e1, hl⟩
  · rw [e1]
    dsimp only
    refine LA0 e246_0 ?_
    refine Gi e246_1 (o152 L) (amGi_of f772 (by decide)) ?_
    rw [e2]
    refine B_ge e246_4 t246_4 (fun q => absurd q (by decide)) (fun _ => ?_)
    refine Ki e246_7 kbipush_m6 ?_
    exact Ri e246_9 rt246 (MP.rf h)
  · rw [e1]
    dsimp only
    have hl8 := (h7.2.1 l e1).1
    have hm0 : (0 : Int32) ≤ nI l.length := by rw [i32le, nI_toInt (by omega), show (0 : Int32).toInt = 0 from rfl]; omega
    refine LA0 e246_0 ?_
    refine Gi e246_1 (o152 L) (amGi_of f772 (by decide)) ?_
    rw [hl.1]
    refine B_ge e246_4 t246_4 (fun _ => ?_) (fun q => absurd (hm0) q)
    refine Ki e246_10 kiconst_0 ?_
    refine SI1 e246_11 rfl ?_
    refine m_bk_lp hR (fun I1 g1 g2 => ?_) 41 0 I (by omega) (by omega) (fun _ _ _ => rfl) (fun j hj => by omega)
    have hl1 : I1 152 4 = nI l.length := (g1 _ _ (by omega)).trans hl.1
    refine LA0 e246_36 ?_
    refine LA0 e246_37 ?_
    refine Gi e246_38 (o152 L) (amGi_of f772 (by decide)) ?_
    rw [hl1]
    refine Pi e246_41 (o152 L) f770 ?_
    refine LA0 e246_44 ?_
    refine Gi e246_45 (o152 L) (amGi_of f770 (by decide)) ?_
    rw [amU_same]
    exact Ri e246_48 rt246 (by
    refine ⟨rfl, ⟨hR, ⟨amU_same, fun p k hp hk => ?_⟩, ?_, h4.cg ((up_o (by omega)).trans (g1 _ _ (by omega))) (fun i => (up_o (by omega)).trans (g1 _ _ (by omega))), h5.cg ((up_o (by omega)).trans (g1 _ _ (by omega))) (fun i => (up_o (by omega)).trans (g1 _ _ (by omega))), h6.cg (fun i => (up_o (by omega)).trans (g1 _ _ (by omega))) (fun i => (up_o (by omega)).trans (g1 _ _ (by omega))), ⟨h7.2.1 l e1, fun l2 h2 => h7.2.1 l2 (e1.trans h2), h7.2.2⟩⟩, fun y hy => by funext i; rw [up_o (by omega), g1 _ _ (by omega)], fun _ _ => rfl, rfl⟩
    · have hp2 : p < l.length := hp
      have hk40 : 5 * p + k < 40 := by omega
      rw [up_o (by omega), g2 _ hk40]
      exact hl.2 p k hp2 hk
    · exact Or.inr ⟨l, rfl, (hl.cg (g1 _ _ (by omega)) (fun i => g1 _ _ (by omega))).cg (up_o (by omega)) (fun i => up_o (by omega))⟩)
set_option maxHeartbeats 2000000 in
theorem m_li_lp {s n : Nat} (hR : amRok R) (hs : s < 4) (hQ : ∀ I'', (∀ y j, y ≠ 202 → I'' y j = I y j) → (∀ j, 24 * s ≤ j → j < 24 * s + 24 → I'' 202 j = 0) → (∀ j, (j < 24 * s ∨ 24 * s + 24 ≤ j) → I'' 202 j = I 202 j) → Q (some (.int 1)) I'' J R) : ∀ (m i : Nat) (I' : amI), 24 - i < m → i ≤ 24 → (∀ y j, y ≠ 202 → I' y j = I y j) → (∀ j, 24 * s ≤ j → j < 24 * s + i → I' 202 j = 0) → (∀ j, (j < 24 * s ∨ 24 * s + 24 ≤ j) → I' 202 j = I 202 j) → Ex 241 31 [some (.ref 152), some (.int (nI s)), some (.int (nI n)), some (.int (nI i))] [] (amSH L) I' J R Q := by
  intro m
  induction m with
  | zero => intro i I' h; omega
  | succ m ih =>
    intro i I' h h9 g1 g2 g3
    refine LI3 e241_31 ?_
    refine Ki e241_32 kbipush_24 ?_
    refine CN_ge (a := i) (b := 24) e241_34 t241_34 rfl (by decide) (by omega) (by omega) (fun h34 => ?_) (fun h34 => ?_)
    · refine Ki e241_55 kiconst_1 ?_
      exact Ri e241_56 rt241 (by
      have e9 : i = 24 := by omega
      subst e9
      exact hQ _ g1 g2 g3)
    · refine LA0 e241_37 ?_
      refine Gr e241_38 (o152 L) (hR 152 48 202 rfl) f816 ?_
      refine Ki e241_41 kbipush_24 ?_
      refine LI1 e241_43 ?_
      refine ImulN (a := 24) (b := s) e241_44 (by decide) rfl ?_
      refine LI3 e241_45 ?_
      refine IaddN (a := (24 * s)) (b := i) e241_46 rfl rfl ?_
      refine Ki e241_47 kiconst_0 ?_
      refine WiN (k := ((24 * s) + i)) e241_48 (o202 L) rfl (by omega) (by decide) ?_
      refine IncN3 (m := i) e241_49 rfl ?_
      refine Go e241_52 t241_52 ?_
      refine ih (i + 1) _ (by omega) (by omega) (fun y j hy => by rw [up_o (by omega)]; exact g1 y j hy) (fun j hj1 hj2 => ?_) (fun j hj => by rw [up_o (by omega)]; exact g3 j hj)
      by_cases e : j = 24 * s + i
      · rw [e, amU_same]
      · rw [up_o (by omega)]
        exact g2 j hj1 (by omega)
set_option maxHeartbeats 2000000 in
theorem n_list {q n : Int32} (h : MSt I J R σ) : Cl 241 [.ref 152, .int q, .int n] (amSH L) I J R (MP I J R (sList σ q n).2 (.int (sList σ q n).1)) := by
  obtain ⟨hR, hPl, h3, h4, h5, h6, h7⟩ := id h
  have h3 : M3 I σ.2.1 := h3
  have h4 : M4 I σ.2.2.1 σ.2.2.2.1 := h4
  have h5 : M5 I σ.2.2.2.2.1 := h5
  have h6 : M6 I σ.2.2.2.2.2.1 σ.2.2.2.2.2.2 := h6
  have h8 := h7.1.1
  have hn120 := h7.2.2.1
  have hw35 := h7.2.2.2.1
  unfold sList
  show Ex 241 0 [some (.ref 152), some (.int q), some (.int n), none] [] (amSH L) I J R _
  by_cases g : inL q
  · obtain ⟨s, hs, rfl⟩ : ∃ s : Nat, s < 4 ∧ q = nI s := ⟨q.toInt.toNat, by omega, by rw [← Int32.toInt_inj, nI_toInt (by omega)]; omega⟩
    have es : (nI s).toInt.toNat = s := by rw [nI_toInt (by omega)]; omega
    by_cases g24 : n.toInt ≤ 24
    · rw [if_pos ⟨g, g24⟩]
      have b10 : n ≤ 24 := by rw [i32le]; exact g24
      by_cases g0 : n.toInt < 0
      · rw [if_pos g0]
        refine LI1 e241_0 ?_
        refine Cs1 e241_1 c241_240 (Nat.le_of_ble_eq_true rfl) (Nat.le_of_ble_eq_true rfl) (m_isList) ?_
        rw [decide_eq_true g]
        rw [show bI true = 1 from rfl]
        refine B_eq e241_4 t241_4 (fun q => absurd q (by decide)) (fun _ => ?_)
        refine LI2 e241_7 ?_
        refine Ki e241_8 kbipush_24 ?_
        refine C_le e241_10 t241_10 (fun _ => ?_) (fun q => absurd (b10) q)
        refine LI2 e241_15 ?_
        refine B_ge e241_16 t241_16 (fun q => absurd q (fun z => by rw [i32le, show (0 : Int32).toInt = 0 from rfl] at z; omega)) (fun _ => ?_)
        refine Ki e241_19 kbipush_m14 ?_
        exact Ri e241_21 rt241 (MP.rf h)
      · rw [if_neg g0]
        obtain ⟨m, hm, rfl⟩ : ∃ m : Nat, m ≤ 24 ∧ n = nI m := ⟨n.toInt.toNat, by omega, by rw [← Int32.toInt_inj, nI_toInt (by omega)]; omega⟩
        have em : (nI m).toInt.toNat = m := by rw [nI_toInt (by omega)]; omega
        rw [em, es]
        have hm0 : (0 : Int32) ≤ nI m := by rw [i32le, nI_toInt (by omega), show (0 : Int32).toInt = 0 from rfl]; omega
        refine LI1 e241_0 ?_
        refine Cs1 e241_1 c241_240 (Nat.le_of_ble_eq_true rfl) (Nat.le_of_ble_eq_true rfl) (m_isList) ?_
        rw [decide_eq_true g]
        rw [show bI true = 1 from rfl]
        refine B_eq e241_4 t241_4 (fun q => absurd q (by decide)) (fun _ => ?_)
        refine LI2 e241_7 ?_
        refine Ki e241_8 kbipush_24 ?_
        refine CN_le (a := m) (b := 24) e241_10 t241_10 rfl (by decide) (by omega) (by omega) (fun _ => ?_) (fun q => by omega)
        refine LI2 e241_15 ?_
        refine B_ge e241_16 t241_16 (fun _ => ?_) (fun q => absurd (hm0) q)
        refine LA0 e241_22 ?_
        refine Gr e241_23 (o152 L) (hR 152 47 201 rfl) f815 ?_
        refine LI1 e241_26 ?_
        refine LI2 e241_27 ?_
        refine WiN (k := s) e241_28 (o201 L) rfl (by omega) (by decide) ?_
        refine Ki e241_29 kiconst_0 ?_
        refine SI3 e241_30 rfl ?_
        refine m_li_lp (n := m) hR hs (fun I1 g1 g2 g3 => ?_) 25 0 _ (by omega) (by omega) (fun _ _ _ => rfl) (fun j _ hj => by omega) (fun _ _ => rfl)
        refine ⟨rfl, ⟨hR, hPl.cg ((g1 _ _ (by omega)).trans (up_o (by omega))) (fun i => (g1 _ _ (by omega)).trans (up_o (by omega))), h3.cg ((g1 _ _ (by omega)).trans (up_o (by omega))) (fun i => (g1 _ _ (by omega)).trans (up_o (by omega))), h4.cg ((g1 _ _ (by omega)).trans (up_o (by omega))) (fun i => (g1 _ _ (by omega)).trans (up_o (by omega))), h5.cg ((g1 _ _ (by omega)).trans (up_o (by omega))) (fun i => (g1 _ _ (by omega)).trans (up_o (by omega))), fun k hk => ?_, ⟨h7.1, h7.2.1, h7.2.2.1, h7.2.2.2.1, fun k t hkt => ?_⟩⟩, fun y hy => by funext i; rw [g1 _ _ (by omega), up_o (by omega)], fun _ _ => rfl, rfl⟩
        · by_cases ek : k = s
          · subst ek
            refine Or.inr ⟨m, if_pos rfl, (g1 _ _ (by omega)).trans amU_same, fun i hi => ?_⟩
            show _ = if k = k then (0 : Int32) else _
            rw [if_pos rfl]
            exact g2 _ (by omega) (by omega)
          · rcases h6 k hk with ⟨e1, e2⟩ | ⟨m6, f1, f2, f3⟩
            · exact Or.inl ⟨by show (if k = s then some m else σ.2.2.2.2.2.1 k) = none; rw [if_neg ek]; exact e1, (g1 _ _ (by omega)).trans ((up_o (by omega)).trans e2)⟩
            · have hm6 := h7.2.2.2.2 k m6 f1
              refine Or.inr ⟨m6, by show (if k = s then some m else σ.2.2.2.2.2.1 k) = some m6; rw [if_neg ek]; exact f1, (g1 _ _ (by omega)).trans ((up_o (by omega)).trans f2), fun i hi => ?_⟩
              show _ = if k = s then (0 : Int32) else σ.2.2.2.2.2.2 k i
              rw [if_neg ek, g3 _ (by omega), up_o (by omega)]
              exact f3 i hi
        · have hkt2 : (if k = s then some m else σ.2.2.2.2.2.1 k) = some t := hkt
          by_cases ek : k = s
          · rw [if_pos ek] at hkt2
            cases hkt2
            exact hm
          · rw [if_neg ek] at hkt2
            exact h7.2.2.2.2 k t hkt2
    · rw [if_neg (fun z => g24 z.2)]
      refine LI1 e241_0 ?_
      refine Cs1 e241_1 c241_240 (Nat.le_of_ble_eq_true rfl) (Nat.le_of_ble_eq_true rfl) (m_isList) ?_
      rw [decide_eq_true g]
      rw [show bI true = 1 from rfl]
      refine B_eq e241_4 t241_4 (fun q => absurd q (by decide)) (fun _ => ?_)
      refine LI2 e241_7 ?_
      refine Ki e241_8 kbipush_24 ?_
      refine C_le e241_10 t241_10 (fun q => absurd q (fun z => by rw [i32le] at z; exact g24 z)) (fun _ => ?_)
      refine Ki e241_13 kiconst_m1 ?_
      exact Ri e241_14 rt241 (MP.rf h)
  · rw [if_neg (fun z => g z.1)]
    refine LI1 e241_0 ?_
    refine Cs1 e241_1 c241_240 (Nat.le_of_ble_eq_true rfl) (Nat.le_of_ble_eq_true rfl) (m_isList) ?_
    rw [decide_eq_false g]
    rw [show bI false = 0 from rfl]
    refine B_eq e241_4 t241_4 (fun _ => ?_) (fun q => absurd (rfl) q)
    refine Ki e241_13 kiconst_m1 ?_
    exact Ri e241_14 rt241 (MP.rf h)
end REF11
