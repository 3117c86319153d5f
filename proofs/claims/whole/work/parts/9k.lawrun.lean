/-! the law's whole run -/
section LAWRUN
variable {L j pc pc' op : Nat} {X : Nat → Int32} {σ σ' : amH} {ls ls' : amL} {st st' : List Value} {i : Instr}
/-- from there the law answers 1, in so much room -/
def Enr (j pc : Nat) (ls : amL) (st : List Value) (σ : amH) : Prop := ∃ f τ, amX f j pc ls st σ = some (some (.int 1), τ) ∧ τ.1.1 = 202 ∧ τ.1.2.1 = 1915
theorem Enr.pure {pc'' : Nat} (he : amT j pc pc' i op) (hr : amRet i (amRt j) st = none) (hc : amCall i j op st σ.1.2.2 = none) (hp : ∀ len, pc + len = pc' → amPure i op len pc ls st = some (pc'', ls', st')) (k : Enr j pc'' ls' st' σ) : Enr j pc ls st σ := by
  obtain ⟨len, he, e⟩ := he
  obtain ⟨f, τ, h1, h2⟩ := k
  refine ⟨f + 1, τ, ?_, h2⟩
  unfold amX
  rw [he]
  dsimp only
  rw [hr]
  dsimp only
  rw [hc]
  dsimp only
  rw [hp len e]
  exact h1
theorem Enr.heap (he : amT j pc pc' i op) (hr : amRet i (amRt j) st = none) (hc : amCall i j op st σ.1.2.2 = none) (hp : ∀ len, amPure i op len pc ls st = none) (hh : amHeap i op st σ = some (st', σ')) (k : Enr j pc' ls st' σ') : Enr j pc ls st σ := by
  obtain ⟨len, he, rfl⟩ := he
  obtain ⟨f, τ, h1, h2⟩ := k
  refine ⟨f + 1, τ, ?_, h2⟩
  unfold amX
  rw [he]
  dsimp only
  rw [hr]
  dsimp only
  rw [hc]
  dsimp only
  rw [hp len]
  dsimp only
  rw [hh]
  exact h1
theorem Enr.call {as rest : List Value} {f : Nat} {v : Option Value} (he : amT j pc pc' i op) (hr : amRet i (amRt j) st = none) (hc : amCall i j op st σ.1.2.2 = some (as, rest)) (h1 : amX f op 0 (amEntry op as) [] σ = some (v, σ')) (k : Enr j pc' ls (v.toList ++ rest) σ') : Enr j pc ls st σ := by
  obtain ⟨len, he, rfl⟩ := he
  obtain ⟨g, τ, g1, g2⟩ := k
  refine ⟨max f g + 1, τ, ?_, g2⟩
  unfold amX
  rw [he]
  dsimp only
  rw [hr]
  dsimp only
  rw [hc]
  dsimp only
  rw [amX_mono _ _ _ _ _ _ _ _ h1 (Nat.le_max_left f g)]
  dsimp only
  exact amX_mono _ _ _ _ _ _ _ _ g1 (Nat.le_max_right f g)
theorem Enr.new {c q : Nat} (he : amT j pc pc' (.new c) q) (h13 : q < 13) (h8 : σ.1.1 < 800000) (k : Enr j pc' ls (.ref (σ.1.1 + 1) :: st) (amNew σ (.inl q) (amFn q))) : Enr j pc ls st σ := by
  refine Enr.heap he rfl rfl (fun _ => rfl) ?_ k
  exact if_pos ⟨h13, h8⟩
theorem Enr.init {c q a f : Nat} {v : Option Value} (he : amT j pc pc' (.invokespecial c) q) (hk : (0 < q ∧ q < 900) ∧ amSt? q = false ∧ amNa q = 1 ∧ amRk q < amRk j) (hcat : amCat st ≤ 8) (hfl : (amFlat [.ref a]).length ≤ amMx q) (h1 : amX f q 0 (amEntry q [.ref a]) [] σ = some (v, σ')) (k : Enr j pc' ls (v.toList ++ st) σ') : Enr j pc ls (.ref a :: st) σ := by
  refine Enr.call he rfl ?_ h1 k
  unfold amCall
  dsimp only
  rw [hk.2.2.1]
  refine (if_pos ⟨hk.1.1, hk.1.2, hk.2.1, by simp, hk.2.2.2, hcat, hfl⟩).trans ?_
  rfl
end LAWRUN
/-- how all begins -/
def ps0 : PS := ([], none, fun _ => 0, 0, [], fun _ => none, fun _ _ => 0)
theorem ps0_ok : SOk ps0 := ⟨⟨Nat.zero_le _, fun k hk => absurd hk (Nat.not_lt_zero k)⟩, fun l e => (by cases e), Nat.zero_le _, Nat.zero_le _, fun k m e => (by cases e)⟩
theorem chkR_ok {Ra : amR} (h : chkR Ra = true) : amRok Ra ∧ CO Ra 41 43 := by
  unfold chkR at h
  rw [Bool.and_eq_true, Bool.and_eq_true] at h
  obtain ⟨h1, h2, h3⟩ := h
  refine ⟨fun a k b e => ?_, of_decide_eq_true h2, of_decide_eq_true h3, Or.inl ⟨rfl, rfl⟩⟩
  have ha : a < 203 := by
    rcases Nat.lt_or_ge a 203 with l | l
    · exact l
    · exfalso
      unfold amRT at e
      have hl : amRl.length = 203 := by decide +kernel
      rw [List.getD_eq_getElem?_getD (l := amRl), List.getElem?_eq_none (by omega)] at e
      cases e
  have hk : k < (amRl.getD a []).length := by
    rcases Nat.lt_or_ge k (amRl.getD a []).length with l | l
    · exact l
    · exfalso
      unfold amRT at e
      rw [List.getD_eq_getElem?_getD (l := amRl.getD a []), List.getElem?_eq_none l] at e
      cases e
  have h4 := List.all_eq_true.mp h1 a (List.mem_range.mpr ha)
  have h5 := List.all_eq_true.mp h4 k (List.mem_range.mpr hk)
  rw [e] at h5
  exact of_decide_eq_true h5
theorem chkK_ok {K : Nat → amK} {L : Nat} (h : chkK K = true) (hb : ∀ a, 202 < a → K a = .inr (9, 0)) : (fun a => if a = 0 then (.inr (8, L) : amK) else K a) = amKK L := by
  funext a
  cases a with
  | zero => rfl
  | succ a =>
    rw [if_neg (Nat.succ_ne_zero a)]
    by_cases g : a < 202
    · exact (of_decide_eq_true (List.all_eq_true.mp h a (List.mem_range.mpr g))).trans rfl
    · rw [hb (a + 1) (by omega)]
      show _ = amKl.getD a (.inr (9, 0))
      have hl : amKl.length = 202 := by decide +kernel
      rw [List.getD_eq_getElem?_getD (l := amKl), List.getElem?_eq_none (by omega)]
      rfl
theorem law_run {L : Nat} {X : Nat → Int32} (hL : L ≤ 3072) : Enr 0 0 [some (.ref 0), none, none, none] [] (amE L X st0) := by
  have h0 : st0.1.2.2 0 = .inl 99 := rfl
  have hb0 : amBh st0 := fun a ha => by
    have ha : 0 < a := ha
    exact if_neg (by omega)
  -- the class's object
  obtain ⟨τ1, e1, n1⟩ : ∃ τ1, ru1 = some (none, τ1) ∧ τ1.1.1 = 151 := by
    have h := chk1_ok
    unfold chk1 at h
    split at h
    · rename_i τ e
      exact ⟨τ, e, of_decide_eq_true h⟩
    · cases h
  have h2 := chk2_ok
  unfold chk2 ru2 at h2
  rw [e1] at h2
  dsimp only at h2
  unfold ru1 at e1
  obtain ⟨a1, z1⟩ := amX_E (L := L) (X := X) _ _ _ _ _ _ _ _ (amNew_K0 h0) e1
  have b1 := amX_bh _ _ _ _ _ _ _ _ hb0.new e1
  -- the reference's
  obtain ⟨τ2, e2, c2⟩ : ∃ τ2, amX 2000 156 0 (amEntry 156 [.ref 152]) [] (amNew τ1 (.inl 12) (amFn 12)) = some (none, τ2) ∧ (decide (τ2.1.1 = 202) && decide (τ2.1.2.1 = 1915) && chkI τ2.2.1 && chkR τ2.2.2.2 && chkK τ2.1.2.2) = true := by
    split at h2
    · rename_i τ e
      exact ⟨τ, e, h2⟩
    · cases h2
  obtain ⟨a2, z2⟩ := amX_E (L := L) (X := X) _ _ _ _ _ _ _ _ (amNew_K0 z1) e2
  have b2 := amX_bh _ _ _ _ _ _ _ _ b1.new e2
  simp only [Bool.and_eq_true, decide_eq_true_eq] at c2
  obtain ⟨⟨⟨⟨n2, q2⟩, cI⟩, cR⟩, cK⟩ := c2
  obtain ⟨hR, hCO⟩ := chkR_ok cR
  have hK := chkK_ok (L := L) cK (fun a ha => b2 a (by rw [n2]; exact ha))
  unfold chkI at cI
  simp only [Bool.and_eq_true, decide_eq_true_eq] at cI
  obtain ⟨⟨⟨⟨⟨⟨i1, i2⟩, i3⟩, i4⟩, ⟨⟨j0, j1⟩, j2⟩, j3⟩, ⟨⟨k1, k2⟩, k3⟩, k4⟩, ⟨⟨l0, l1⟩, l2⟩, l3⟩ := cI
  -- the heap behind them
  have hS : (amE L X τ2).1 = amSH L := by
    show (τ2.1.1, τ2.1.2.1, fun a => if a = 0 then (.inr (8, L) : amK) else τ2.1.2.2 a) = (202, 1915, amKK L)
    rw [hK, n2, q2]
  have hI : ∀ y, y ≠ 0 → (amE L X τ2).2.1 y = τ2.2.1 y := fun y hy => if_neg hy
  have hC : CSt (amE L X τ2).2.1 τ2.2.2.1 τ2.2.2.2 ps0 := by
    refine ⟨hR, ⟨41, 43, hCO⟩, ⟨?_, fun k hk => absurd hk (Nat.not_lt_zero k)⟩, Or.inl ⟨rfl, ?_⟩, ⟨?_, Nat.zero_le _, fun k hk => absurd hk (Nat.not_lt_zero k), fun _ _ => rfl⟩, ⟨?_, fun k hk => absurd hk (Nat.not_lt_zero k)⟩, fun k hk => Or.inl ⟨rfl, ?_⟩, ps0_ok⟩
    · rw [hI 2 (by decide), i1]; rfl
    · rw [hI 1 (by decide), i2]
    · rw [hI 143 (by decide), i3]; rfl
    · rw [hI 147 (by decide), i4]; rfl
    · rw [hI 151 (by decide)]
      rcases (by omega : k = 0 ∨ k = 1 ∨ k = 2 ∨ k = 3) with rfl | rfl | rfl | rfl <;> assumption
  have hM : MSt (amE L X τ2).2.1 τ2.2.2.1 τ2.2.2.2 ps0 := by
    refine ⟨hR, ⟨?_, fun p k hp => absurd hp (Nat.not_lt_zero p)⟩, Or.inl ⟨rfl, ?_⟩, ⟨?_, fun k hk => absurd hk (Nat.not_lt_zero k)⟩, ⟨?_, fun k hk => absurd hk (Nat.not_lt_zero k)⟩, fun k hk => Or.inl ⟨rfl, ?_⟩, ps0_ok⟩
    · rw [hI 152 (by decide), k1]; rfl
    · rw [hI 152 (by decide), k2]
    · rw [hI 152 (by decide), k3]; rfl
    · rw [hI 152 (by decide), k4]; rfl
    · rw [hI 201 (by decide)]
      rcases (by omega : k = 0 ∨ k = 1 ∨ k = 2 ∨ k = 3) with rfl | rfl | rfl | rfl <;> assumption
  have hloop : Enr 0 18 [some (.ref 0), some (.ref 1), some (.ref 152), some (.int (nI 0))] [] (amE L X τ2) := by
    obtain ⟨f, v, τ, g1, g2, g3⟩ := lw_loop (X := X) hL (L + 1) 0 (amE L X τ2).2.1 τ2.2.2.1 τ2.2.2.2 ps0 (by omega) (Nat.zero_le _) hC hM rfl
    refine ⟨f, τ, ?_, by rw [g2]; rfl, by rw [g2]; rfl⟩
    rw [← g3]
    have : amE L X τ2 = (amSH L, (amE L X τ2).2.1, τ2.2.2.1, τ2.2.2.2) := by
      rw [← hS]
      rfl
    rw [this]
    exact g1
  -- the walk
  refine Enr.new e0_0 (by decide) (by show (0 : Nat) < 800000; decide) ?_
  rw [← amE_new]
  refine Enr.pure (pc'' := 4) e0_3 rfl rfl (fun len e => by rw [← e]; rfl) ?_
  refine Enr.init (a := 1) e0_4 (by decide +kernel) (Nat.le_of_ble_eq_true rfl) (by decide +kernel) a1 ?_
  refine Enr.pure (pc'' := 8) e0_7 rfl rfl (fun len e => by rw [← e]; rfl) ?_
  refine Enr.new e0_8 (by decide) (by show τ1.1.1 < 800000; omega) ?_
  rw [← amE_new]
  have en : (amE L X τ1).1.1 + 1 = 152 := by
    show τ1.1.1 + 1 = 152
    omega
  rw [en]
  refine Enr.pure (pc'' := 12) e0_11 rfl rfl (fun len e => by rw [← e]; rfl) ?_
  refine Enr.init (a := 152) e0_12 (by decide +kernel) (Nat.le_of_ble_eq_true rfl) (by decide +kernel) a2 ?_
  refine Enr.pure (pc'' := 16) e0_15 rfl rfl (fun len e => by rw [← e]; rfl) ?_
  refine Enr.pure (pc'' := 17) e0_16 rfl rfl (fun len e => by rw [← e]; rfl) ?_
  refine Enr.pure (pc'' := 18) e0_17 rfl rfl (fun len e => by rw [← e]; rfl) ?_
  exact hloop
