/-! whole runs -/
theorem amLook {k : Nat} {v : Instr × Nat × Nat} : ∀ l : List amEt, l.lookup k = some v → (k, v) ∈ l
  | [], h => by cases h
  | (a, x) :: t, h => by
    by_cases e : k = a
    · subst e
      rw [List.lookup_cons_self] at h
      cases h
      exact List.mem_cons_self
    · have h2 : (k == a) = false := by simpa using e
      rw [List.lookup_cons, h2] at h
      exact List.mem_cons_of_mem _ (amLook t h)
theorem amCs_len : amCs.length = amN := by decide +kernel
theorem amEnt_lt {j pc : Nat} {q : Instr × Nat × Nat} (h : amEnt j pc = some q) : j < amN := by
  rcases Nat.lt_or_ge j amN with h1 | h1
  · exact h1
  · unfold amEnt at h
    rw [List.getD_eq_getElem?_getD, List.getElem?_eq_none (by rw [amCs_len]; exact h1)] at h
    cases h
theorem amEnt_ok {j pc len op : Nat} {i : Instr} (h : amEnt j pc = some (i, len, op)) : decode (amB j) pc = .ok (i, len) ∧ (∃ ps, amLk (amY j).cls (amY j).name i op ps = true) ∧ (amLn i = 0 ∨ len = amLn i) := by
  have hj := amEnt_lt h
  have hm := amLook _ h
  have ho := amOkA j hj
  have hl := amLenA j hj
  unfold amOkP amOkL at ho
  simp only [Bool.and_eq_true, decide_eq_true_eq] at ho
  obtain ⟨n, hn⟩ := List.getElem?_of_mem hm
  have hlt : n < (amPs.getD j []).length := by rw [← ho.2]; exact (List.getElem?_eq_some_iff.mp hn).1
  have hz : ((amCs.getD j []).zip (amPs.getD j []))[n]? = some ((pc, i, len, op), (amPs.getD j [])[n]) := by
    rw [List.getElem?_zip_eq_some]
    exact ⟨hn, List.getElem?_eq_getElem hlt⟩
  have h1 := List.all_eq_true.mp ho.1 _ (List.mem_of_getElem? hz)
  unfold amOk at h1
  simp only [Bool.and_eq_true, decide_eq_true_eq] at h1
  refine ⟨h1.1, ⟨_, h1.2⟩, ?_⟩
  have h2 := List.all_eq_true.mp hl _ hm
  unfold amLnP at h2
  simp only [Bool.or_eq_true, beq_iff_eq] at h2
  rcases h2 with h2 | h2
  · exact Or.inl h2
  · exact Or.inr h2.symm
theorem amDropMem {g hi j : Nat} (h1 : g ≤ j) (h2 : j < hi) : j ∈ (List.range hi).drop g := by
  refine List.mem_of_getElem? (i := j - g) ?_
  rw [List.getElem?_drop, show g + (j - g) = j by omega, List.getElem?_range h2]
theorem amMk_ok {j : Nat} (h0 : 0 < j) (h : j < amN) : amMk j = true := by
  have h : j < 251 := h
  have key : (j == 0 || amMk j) = true := by
    rcases Nat.lt_or_ge j 50 with h1 | h1
    · exact List.all_eq_true.mp amMk_0 j (amDropMem (by omega) h1)
    · rcases Nat.lt_or_ge j 100 with h2 | h2
      · exact List.all_eq_true.mp amMk_50 j (amDropMem h1 h2)
      · rcases Nat.lt_or_ge j 150 with h3 | h3
        · exact List.all_eq_true.mp amMk_100 j (amDropMem h2 h3)
        · rcases Nat.lt_or_ge j 200 with h4 | h4
          · exact List.all_eq_true.mp amMk_150 j (amDropMem h3 h4)
          · rcases Nat.lt_or_ge j 250 with h5 | h5
            · exact List.all_eq_true.mp amMk_200 j (amDropMem h4 h5)
            · exact List.all_eq_true.mp amMk_250 j (amDropMem h5 h)
  have hne : (j == 0) = false := by simpa using Nat.pos_iff_ne_zero.mp h0
  rw [hne, Bool.false_or] at key
  exact key
/-- what the tables say of a method -/
theorem amMk_spec {j : Nat} (h0 : 0 < j) (h : j < amN) : Cond.code (amY j) (amB j) (amMx j) (amRt j) ∈ lw_tbl ∧ Cond.initialized (amY j).cls ∈ amWd ∧ plainName (amY j).cls = true ∧ (amY j).cls ≠ "java/lang/invoke/MethodHandle" ∧ (amY j).cls ≠ "java/lang/invoke/VarHandle" ∧
    (parseMethodDescriptor (amY j).desc).map (fun d => d.parameters.length + (if amSt? j = true then 0 else 1)) = some (amNa j) ∧ amMx j ≤ 40 ∧ (amSt? j = true ∨ amCi j = 99 ∨ (amCd (amCi j)).1 = (amY j).cls) ∧ 0 < amRk j := by
  have hm := amMk_ok h0 h
  unfold amMk at hm
  simp only [Bool.and_eq_true, decide_eq_true_eq, Bool.or_eq_true] at hm
  obtain ⟨⟨⟨⟨⟨⟨⟨h1, h2⟩, h3⟩, h4⟩, h5⟩, h6⟩, h7⟩, h8⟩ := hm
  exact ⟨amCw j h h0, amW_spec h1, h2, h3, h4, h5, h6, by rcases h7 with (h7 | h7) | h7; exact Or.inl h7; exact Or.inr (Or.inl h7); exact Or.inr (Or.inr h7), h8⟩
def amWs (j : Nat) : List Cond := Cond.code (amY j) (amB j) (amMx j) (amRt j) :: amWd
theorem amWs_good {j : Nat} (h0 : 0 < j) (h : j < amN) : GoodIn amWd (amWs j) := by
  have hc : Cond.code (amY j) (amB j) (amMx j) (amRt j) ∈ amWd := amWd_of (amMk_spec h0 h).1 rfl
  intro w hw
  rcases List.mem_cons.mp hw with rfl | hw
  · exact ⟨hc, good_of_word rfl⟩
  · exact ⟨hw, good_of_word (List.mem_filter.mp hw).2⟩
theorem amGood : ∀ w ∈ amWd, (w.onTables && w.keeps) = true ∨ ∃ ty, w = .arrayClass ty := fun _ hw => good_of_word (List.mem_filter.mp hw).2
/-- method by method: the strings' methods leave eight frames -/
def amStrP (j : Nat) : Bool := (amCs.getD j []).all (fun e => match e.2.1 with
  | .invokevirtual _ => e.2.2.2 != 900 && e.2.2.2 != 901 || Nat.ble 8 (amRk j)
  | _ => true)
theorem amStr_all : (List.range amN).all amStrP = true := by decide +kernel
theorem amStr_ok {j pc len op idx : Nat} (h : amEnt j pc = some (.invokevirtual idx, len, op)) (ho : op = 900 ∨ op = 901) : 8 ≤ amRk j := by
  have h1 := List.all_eq_true.mp amStr_all j (List.mem_range.mpr (amEnt_lt h))
  have h2 := List.all_eq_true.mp h1 _ (amLook _ h)
  dsimp only at h2
  rcases ho with rfl | rfl
  · simpa [Nat.ble_eq] using h2
  · simpa [Nat.ble_eq] using h2
theorem amFlat_sl (ad : Nat → Nat) : ∀ as : List Value, (amFlat as).length = (lg_sl (as.map (amCv ad))).length
  | [] => rfl
  | v :: t => by
    have ih := amFlat_sl ad t
    unfold lg_sl at ih ⊢
    rw [List.map_cons, List.flatMap_cons, amCv_cat, List.length_append, ← ih]
    rw [show amFlat (v :: t) = if v.category = 2 then some v :: none :: amFlat t else some v :: amFlat t from rfl]
    by_cases h : v.category = 2
    · rw [if_pos h, if_pos h]; simp; omega
    · rw [if_neg h, if_neg h]; simp; omega
theorem amFlat_args (ad : Nat → Nat) : ∀ (as : List Value) (n i : Nat) (v : Value), (amFlat as)[i]? = some (some v) → (n + i, amCv ad v) ∈ lv_args n (as.map (amCv ad))
  | [], _, _, _, h => by simp [amFlat] at h
  | w :: t, n, i, v, h => by
    rw [List.map_cons]
    unfold lv_args
    rw [amCv_cat]
    unfold amFlat at h
    by_cases hc : w.category = 2
    · rw [if_pos hc] at h
      rw [if_pos hc]
      match i, h with
      | 0, h => cases h; exact List.mem_cons_self
      | 1, h => simp at h
      | i + 2, h =>
        simp only [List.getElem?_cons_succ] at h
        have := amFlat_args ad t (n + 2) i v h
        rw [show n + (i + 2) = n + 2 + i by omega]
        exact List.mem_cons_of_mem _ this
    · rw [if_neg hc] at h
      rw [if_neg hc]
      match i, h with
      | 0, h => cases h; exact List.mem_cons_self
      | i + 1, h =>
        simp only [List.getElem?_cons_succ] at h
        have := amFlat_args ad t (n + 1) i v h
        rw [show n + (i + 1) = n + 1 + i by omega]
        exact List.mem_cons_of_mem _ this
theorem amEntry_ls (ad : Nat → Nat) {j : Nat} {as : List Value} (h : (amFlat as).length ≤ amMx j) : amLs ad ((lg_sl (as.map (amCv ad)) ++ List.replicate (amMx j - (lg_sl (as.map (amCv ad))).length) Slot.unset).toArray) (amMx j) (amEntry j as) := by
  have hE := lv_entry (as.map (amCv ad)) (n := amMx j) (by rw [← amFlat_sl]; exact h)
  refine ⟨hE.1, hE.2.1, ?_, fun i v hi => ?_⟩
  · unfold amEntry
    rw [List.length_append, List.length_replicate]
    omega
  · unfold amEntry at hi
    rcases Nat.lt_or_ge i (amFlat as).length with h1 | h1
    · rw [List.getElem?_append_left h1] at hi
      have := amFlat_args ad as 0 i v hi
      rw [Nat.zero_add] at this
      exact hE.2.2 _ this
    · rw [List.getElem?_append_right h1] at hi
      have := List.eq_of_mem_replicate (List.mem_of_getElem? hi)
      cases this
theorem amHeap_n {i : Instr} {op : Nat} {st st' : List Value} {σ τ : amH} (h : amHeap i op st σ = some (st', τ)) : σ.1.1 ≤ τ.1.1 ∧ σ.1.2.1 ≤ τ.1.2.1 := by
  unfold amHeap at h
  (repeat' split at h) <;> first | (cases h; done) | (cases h; exact ⟨Nat.le_refl _, Nat.le_refl _⟩) | (cases h; exact ⟨Nat.le_succ _, Nat.le_add_right _ _⟩) | skip
  all_goals
    cases h
    refine ⟨?_, ?_⟩
    · show _ ≤ (amNews _ _ _).1.1
      rw [(amNews_n _ _ _).1, amNew_n]
      omega
    · show _ ≤ (amNews _ _ _).1.2.1
      rw [(amNews_n _ _ _).2, amNew_q]
      omega
theorem amX_n : ∀ (f j pc : Nat) (ls : amL) (st : List Value) (σ : amH) (v : Option Value) (τ : amH), amX f j pc ls st σ = some (v, τ) → σ.1.1 ≤ τ.1.1 ∧ σ.1.2.1 ≤ τ.1.2.1
  | 0, _, _, _, _, _, _, _, h => by cases h
  | f + 1, j, pc, ls, st, σ, v, τ, h => by
    unfold amX at h
    split at h
    · cases h
    · split at h
      · cases h; exact ⟨Nat.le_refl _, Nat.le_refl _⟩
      · split at h
        · split at h
          · rename_i h1
            have a1 := amX_n f _ _ _ _ _ _ _ h1
            have a2 := amX_n f _ _ _ _ _ _ _ h
            exact ⟨Nat.le_trans a1.1 a2.1, Nat.le_trans a1.2 a2.2⟩
          · cases h
        · split at h
          · exact amX_n f _ _ _ _ _ _ _ h
          · split at h
            · rename_i h1
              have a1 := amHeap_n h1
              have a2 := amX_n f _ _ _ _ _ _ _ h
              exact ⟨Nat.le_trans a1.1 a2.1, Nat.le_trans a1.2 a2.2⟩
            · cases h
