/-! the law's whole run: what doesn't look at the script, the constructors (printed by wip/whole/t9j.py) -/
/-- the heap with a script in cell 0 -/
def amE (L : Nat) (X : Nat → Int32) (σ : amH) : amH := ((σ.1.1, σ.1.2.1, fun a => if a = 0 then .inr (8, L) else σ.1.2.2 a), (fun a => if a = 0 then X else σ.2.1 a), σ.2.2)
section START
variable {L : Nat} {X : Nat → Int32} {σ τ : amH}
theorem amE_k {a : Nat} (h : a ≠ 0) : (amE L X σ).1.2.2 a = σ.1.2.2 a := if_neg h
theorem amE_i {a : Nat} (h : a ≠ 0) : (amE L X σ).2.1 a = σ.2.1 a := if_neg h
theorem amE_U {a k : Nat} {x : Int32} (h : a ≠ 0) : amE L X (σ.1, amU σ.2.1 a k x, σ.2.2) = ((amE L X σ).1, amU (amE L X σ).2.1 a k x, (amE L X σ).2.2) := by
  have e : (fun b => if b = 0 then X else amU σ.2.1 a k x b) = amU (fun b => if b = 0 then X else σ.2.1 b) a k x := by
    funext b i
    unfold amU
    dsimp only
    by_cases g : b = 0
    · subst g
      rw [if_pos rfl, if_neg (fun z => h z.1.symm), if_pos rfl]
    · rw [if_neg g, if_neg g]
  show (_, (fun b => if b = 0 then X else amU σ.2.1 a k x b), _) = _
  rw [e]
  rfl
theorem amE_new {kd : amK} {q : Nat} : amE L X (amNew σ kd q) = amNew (amE L X σ) kd q := by
  have e1 : (fun a => if a = 0 then (.inr (8, L) : amK) else if a = σ.1.1 + 1 then kd else σ.1.2.2 a) = fun a => if a = σ.1.1 + 1 then kd else if a = 0 then .inr (8, L) else σ.1.2.2 a := by
    funext a
    by_cases g : a = 0
    · subst g
      rw [if_pos rfl, if_neg (by omega), if_pos rfl]
    · rw [if_neg g, if_neg g]
  have e2 : (fun a => if a = 0 then X else amZ σ.2.1 (σ.1.1 + 1) (fun _ => 0) a) = amZ (fun a => if a = 0 then X else σ.2.1 a) (σ.1.1 + 1) (fun _ => 0) := by
    funext a i
    unfold amZ
    dsimp only
    by_cases g : a = 0
    · subst g
      rw [if_pos rfl, if_neg (by omega), if_pos rfl]
    · rw [if_neg g, if_neg g]
  show ((_, _, fun a => if a = 0 then (.inr (8, L) : amK) else if a = σ.1.1 + 1 then kd else σ.1.2.2 a), (fun a => if a = 0 then X else amZ σ.2.1 (σ.1.1 + 1) (fun _ => 0) a), _) = _
  rw [e1, e2]
  rfl
theorem amE_news {k : Nat} : ∀ N : Nat, amE L X (amNews σ k N) = amNews (amE L X σ) k N
  | 0 => rfl
  | N + 1 => by
    show amE L X (amNew (amNews σ k N) (.inr (1, k)) k) = amNew (amNews (amE L X σ) k N) (.inr (1, k)) k
    rw [amE_new, amE_news N]
theorem amFv_E {c a k : Nat} (h : a ≠ 0) : amFv c a k (amE L X σ) = amFv c a k σ := by
  unfold amFv
  split
  · rfl
  · rfl
  · rw [amE_i h]
theorem amNews_K0 {k : Nat} (h0 : σ.1.2.2 0 = .inl 99) : ∀ N : Nat, (amNews σ k N).1.2.2 0 = .inl 99
  | 0 => h0
  | N + 1 => by
    show (if 0 = (amNews σ k N).1.1 + 1 then (.inr (1, k) : amK) else (amNews σ k N).1.2.2 0) = _
    rw [if_neg (by omega)]
    exact amNews_K0 h0 N
theorem amNew_K0 {kd : amK} {q : Nat} (h0 : σ.1.2.2 0 = .inl 99) : (amNew σ kd q).1.2.2 0 = .inl 99 := by
  show (if 0 = σ.1.1 + 1 then kd else σ.1.2.2 0) = _
  rw [if_neg (by omega)]
  exact h0
theorem amHeap_E {i : Instr} {op : Nat} {st st' : List Value} (h0 : σ.1.2.2 0 = .inl 99) (h : amHeap i op st σ = some (st', τ)) : amHeap i op st (amE L X σ) = some (st', amE L X τ) ∧ τ.1.2.2 0 = .inl 99 := by
  have nz : ∀ {a : Nat} {q : Nat × Nat}, σ.1.2.2 a = .inr q → a ≠ 0 := fun e z => by
    rw [z, h0] at e
    cases e
  unfold amHeap at h
  split at h
  · -- getfield
    split at h
    · rename_i a r
      split at h
      · rename_i g
        cases h
        refine ⟨?_, h0⟩
        show (if 0 < a ∧ a ≤ σ.1.1 ∧ (amE L X σ).1.2.2 a = .inl (op / 64) ∧ op % 64 < amFn (op / 64) then some (amFv (op / 64) a (op % 64) (amE L X σ) :: r, amE L X σ) else none) = _
        rw [amE_k (Nat.ne_of_gt g.1), if_pos g, amFv_E (Nat.ne_of_gt g.1)]
      · cases h
    · cases h
  · -- putfield
    split at h
    · rename_i v a r
      split at h
      · rename_i g
        have ha : a ≠ 0 := Nat.ne_of_gt g.1
        split at h
        · rename_i x e0
          cases h
          refine ⟨?_, h0⟩
          rw [amE_U ha]
          show (if 0 < a ∧ a ≤ σ.1.1 ∧ (amE L X σ).1.2.2 a = .inl (op / 64) ∧ op % 64 < amFn (op / 64) then _ else none) = _
          rw [amE_k ha, if_pos g, e0]
          rfl
        · rename_i x e0
          split at h
          · rename_i g1
            cases h
            refine ⟨?_, h0⟩
            rw [amE_U ha]
            show (if 0 < a ∧ a ≤ σ.1.1 ∧ (amE L X σ).1.2.2 a = .inl (op / 64) ∧ op % 64 < amFn (op / 64) then _ else none) = _
            rw [amE_k ha, if_pos g, e0]
            exact if_pos g1
          · cases h
        · rename_i x e0
          cases h
          refine ⟨?_, h0⟩
          show (if 0 < a ∧ a ≤ σ.1.1 ∧ (amE L X σ).1.2.2 a = .inl (op / 64) ∧ op % 64 < amFn (op / 64) then _ else none) = _
          rw [amE_k ha, if_pos g, e0]
          rfl
        · rename_i x e0
          cases h
          refine ⟨?_, h0⟩
          show (if 0 < a ∧ a ≤ σ.1.1 ∧ (amE L X σ).1.2.2 a = .inl (op / 64) ∧ op % 64 < amFn (op / 64) then _ else none) = _
          rw [amE_k ha, if_pos g, e0]
          rfl
        · cases h
      · cases h
    · cases h
  · -- iaload
    split at h
    · rename_i k a r
      split at h
      · rename_i t n e0
        split at h
        · rename_i g
          cases h
          have ha := nz e0
          refine ⟨?_, h0⟩
          unfold amHeap
          dsimp only
          rw [amE_k ha, e0]
          dsimp only
          refine (if_pos g).trans ?_
          rw [amE_i ha]
        · cases h
      · cases h
    · cases h
  · -- baload
    split at h
    · rename_i k a r
      split at h
      · rename_i t n e0
        split at h
        · rename_i g
          cases h
          have ha := nz e0
          refine ⟨?_, h0⟩
          unfold amHeap
          dsimp only
          rw [amE_k ha, e0]
          dsimp only
          refine (if_pos g).trans ?_
          rw [amE_i ha]
        · cases h
      · cases h
    · cases h
  · -- laload
    split at h
    · rename_i k a r
      split at h
      · rename_i t n e0
        split at h
        · rename_i g
          cases h
          have ha := nz e0
          refine ⟨?_, h0⟩
          unfold amHeap
          dsimp only
          rw [amE_k ha, e0]
          dsimp only
          refine (if_pos g).trans ?_
          rfl
        · cases h
      · cases h
    · cases h
  · -- aaload
    split at h
    · rename_i k a r
      split at h
      · rename_i t n e0
        split at h
        · rename_i g
          cases h
          have ha := nz e0
          refine ⟨?_, h0⟩
          unfold amHeap
          dsimp only
          rw [amE_k ha, e0]
          dsimp only
          refine (if_pos g).trans ?_
          rfl
        · cases h
      · cases h
    · cases h
  · -- iastore
    split at h
    · rename_i x k a r
      split at h
      · rename_i t n e0
        split at h
        · rename_i g
          cases h
          have ha := nz e0
          refine ⟨?_, h0⟩
          rw [amE_U ha]
          unfold amHeap
          dsimp only
          rw [amE_k ha, e0]
          dsimp only
          exact if_pos g
        · cases h
      · cases h
    · cases h
  · -- bastore
    split at h
    · rename_i x k a r
      split at h
      · rename_i t n e0
        split at h
        · rename_i g
          cases h
          have ha := nz e0
          refine ⟨?_, h0⟩
          rw [amE_U ha]
          unfold amHeap
          dsimp only
          rw [amE_k ha, e0]
          dsimp only
          exact if_pos g
        · cases h
      · cases h
    · cases h
  · -- lastore
    split at h
    · rename_i x k a r
      split at h
      · rename_i t n e0
        split at h
        · rename_i g
          cases h
          have ha := nz e0
          refine ⟨?_, h0⟩
          unfold amHeap
          dsimp only
          rw [amE_k ha, e0]
          dsimp only
          exact if_pos g
        · cases h
      · cases h
    · cases h
  · -- aastore
    split at h
    · rename_i b k a r
      split at h
      · rename_i t n e0
        split at h
        · rename_i g
          cases h
          have ha := nz e0
          refine ⟨?_, h0⟩
          unfold amHeap
          dsimp only
          rw [amE_k ha, e0]
          dsimp only
          rw [amE_k (a := b) (Nat.ne_of_gt g.2.2.1)]
          exact if_pos g
        · cases h
      · cases h
    · cases h
  · -- arraylength
    split at h
    · rename_i a r
      split at h
      · rename_i t n e0
        split at h
        · rename_i g
          cases h
          have ha := nz e0
          refine ⟨?_, h0⟩
          unfold amHeap
          dsimp only
          rw [amE_k ha, e0]
          dsimp only
          exact if_pos g
        · cases h
      · cases h
    · cases h
  · -- new
    split at h
    · rename_i g
      cases h
      refine ⟨?_, amNew_K0 h0⟩
      rw [amE_new]
      unfold amHeap
      dsimp only
      exact if_pos g
    · cases h
  · -- newarray
    split at h
    · rename_i k r
      split at h
      · rename_i g
        cases h
        refine ⟨?_, amNew_K0 h0⟩
        rw [amE_new]
        unfold amHeap
        dsimp only
        exact if_pos g
      · cases h
    · cases h
  · -- anewarray
    split at h
    · rename_i k r
      split at h
      · rename_i g
        cases h
        refine ⟨?_, amNew_K0 h0⟩
        rw [amE_new]
        unfold amHeap
        dsimp only
        exact if_pos g
      · cases h
    · cases h
  · -- multianewarray
    split at h
    · rename_i k n r
      split at h
      · rename_i g
        cases h
        refine ⟨?_, amNews_K0 (amNew_K0 h0) _⟩
        unfold amHeap
        dsimp only
        refine (if_pos g).trans ?_
        rw [← amE_new, ← amE_news]
        rfl
      · cases h
    · cases h
  · cases h
theorem amCall_E {i : Instr} {j k : Nat} {st : List Value} : amCall i j k st (amE L X σ).1.2.2 = amCall i j k st σ.1.2.2 := by
  unfold amCall
  split
  · rfl
  · split
    · split
      · rename_i a t e
        by_cases g : a = 0
        · subst g
          rw [if_neg (fun z => absurd z.1 (by decide)), if_neg (fun z => absurd z.1 (by decide))]
        · rw [amE_k g]
      · rfl
    · rfl
  · rfl
  · rfl
theorem amX_E : ∀ (f j pc : Nat) (ls : amL) (st : List Value) (σ : amH) (v : Option Value) (τ : amH), σ.1.2.2 0 = .inl 99 → amX f j pc ls st σ = some (v, τ) → amX f j pc ls st (amE L X σ) = some (v, amE L X τ) ∧ τ.1.2.2 0 = .inl 99
  | 0, _, _, _, _, _, _, _, _, h => by cases h
  | f + 1, j, pc, ls, st, σ, v, τ, h0, h => by
    unfold amX at h ⊢
    cases he : amEnt j pc with
    | none => rw [he] at h; cases h
    | some x =>
      obtain ⟨i, len, op⟩ := x
      rw [he] at h
      dsimp only at h ⊢
      cases hr : amRet i (amRt j) st with
      | some u =>
        rw [hr] at h
        cases h
        exact ⟨rfl, h0⟩
      | none =>
        rw [hr] at h
        dsimp only at h ⊢
        rw [amCall_E]
        cases hc : amCall i j op st σ.1.2.2 with
        | some ar =>
          obtain ⟨as, rest⟩ := ar
          rw [hc] at h
          dsimp only at h ⊢
          cases h1 : amX f op 0 (amEntry op as) [] σ with
          | none => rw [h1] at h; cases h
          | some r =>
            obtain ⟨u, ρ⟩ := r
            rw [h1] at h
            obtain ⟨a1, a2⟩ := amX_E f _ _ _ _ _ _ _ h0 h1
            rw [a1]
            exact amX_E f _ _ _ _ _ _ _ a2 h
        | none =>
          rw [hc] at h
          dsimp only at h ⊢
          cases hp : amPure i op len pc ls st with
          | some r =>
            obtain ⟨pc', ls', st'⟩ := r
            rw [hp] at h
            exact amX_E f _ _ _ _ _ _ _ h0 h
          | none =>
            rw [hp] at h
            dsimp only at h ⊢
            cases hh : amHeap i op st σ with
            | some r =>
              obtain ⟨st', ρ⟩ := r
              rw [hh] at h
              obtain ⟨a1, a2⟩ := amHeap_E (L := L) (X := X) h0 hh
              rw [a1]
              exact amX_E f _ _ _ _ _ _ _ a2 h
            | none => rw [hh] at h; cases h
/-- nothing stands behind the last cell -/
def amBh (σ : amH) : Prop := ∀ a, σ.1.1 < a → σ.1.2.2 a = .inr (9, 0)
theorem amBh.new {kd : amK} {q : Nat} (h : amBh σ) : amBh (amNew σ kd q) := fun a ha => by
  have ha : σ.1.1 + 1 < a := ha
  show (if a = σ.1.1 + 1 then kd else σ.1.2.2 a) = _
  rw [if_neg (by omega)]
  exact h a (by omega)
theorem amBh.news {k : Nat} (h : amBh σ) : ∀ N : Nat, amBh (amNews σ k N)
  | 0 => h
  | N + 1 => (amBh.news h N).new
theorem amHeap_bh {i : Instr} {op : Nat} {st st' : List Value} (h0 : amBh σ) (h : amHeap i op st σ = some (st', τ)) : amBh τ := by
  unfold amHeap at h
  (repeat' split at h) <;> first | (cases h; done) | (cases h; exact h0) | (cases h; exact h0.new) | skip
  all_goals
    cases h
    exact h0.new.news _
theorem amX_bh : ∀ (f j pc : Nat) (ls : amL) (st : List Value) (σ : amH) (v : Option Value) (τ : amH), amBh σ → amX f j pc ls st σ = some (v, τ) → amBh τ
  | 0, _, _, _, _, _, _, _, _, h => by cases h
  | f + 1, j, pc, ls, st, σ, v, τ, h0, h => by
    unfold amX at h
    split at h
    · cases h
    · split at h
      · cases h; exact h0
      · split at h
        · split at h
          · rename_i h1
            exact amX_bh f _ _ _ _ _ _ _ (amX_bh f _ _ _ _ _ _ _ h0 h1) h
          · cases h
        · split at h
          · exact amX_bh f _ _ _ _ _ _ _ h0 h
          · split at h
            · rename_i h1
              exact amX_bh f _ _ _ _ _ _ _ (amHeap_bh h0 h1) h
            · cases h
end START
/-! the constructors -/
def st0 : amH := ((0, 0, fun a => if a = 0 then .inl 99 else .inr (9, 0)), fun _ _ => 0, fun _ _ => 0, fun _ _ => none)
def ru1 : Option (Option Value × amH) := amX 2000 110 0 (amEntry 110 [.ref 1]) [] (amNew st0 (.inl 11) (amFn 11))
def ru2 : Option (Option Value × amH) := match ru1 with
  | some (none, τ) => amX 2000 156 0 (amEntry 156 [.ref 152]) [] (amNew τ (.inl 12) (amFn 12))
  | _ => none
def chk1 : Bool := match ru1 with
  | some (none, τ) => decide (τ.1.1 = 151)
  | _ => false
def chkI (I : Nat → Nat → Int32) : Bool := (decide (I 2 1 = 0) && decide (I 1 2 = 0) && decide (I 143 1 = 0) && decide (I 147 1 = 0)) && (decide (I 151 0 = -1) && decide (I 151 1 = -1) && decide (I 151 2 = -1) && decide (I 151 3 = -1)) && (decide (I 152 2 = 0) && decide (I 152 4 = -1) && decide (I 152 36 = 0) && decide (I 152 45 = 0)) && (decide (I 201 0 = -1) && decide (I 201 1 = -1) && decide (I 201 2 = -1) && decide (I 201 3 = -1))
def chkR (R : Nat → Nat → Option Nat) : Bool := ((List.range 203).all fun a => (List.range (amRl.getD a []).length).all fun k => match amRT a k with
  | none => true
  | some b => decide (R a k = some b)) && (decide (R 40 0 = some 41) && decide (R 40 1 = some 43))
def chkK (K : Nat → amK) : Bool := (List.range 202).all fun a => decide (K (a + 1) = amKK 0 (a + 1))
def chk2 : Bool := match ru2 with
  | some (none, τ) => decide (τ.1.1 = 202) && decide (τ.1.2.1 = 1915) && chkI τ.2.1 && chkR τ.2.2.2 && chkK τ.1.2.2
  | _ => false
theorem chk1_ok : chk1 = true := by decide +kernel
theorem chk2_ok : chk2 = true := by decide +kernel
