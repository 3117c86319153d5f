/-! the pure steps of the abstract machine are the machine's (printed by wip/whole/gen08.py) -/
def amCv (ad : Nat → Nat) : Value → Value
  | .ref k => .ref (ad k)
  | v => v
theorem amCv_cat (ad : Nat → Nat) (v : Value) : (amCv ad v).category = v.category := by cases v <;> rfl
theorem amCv_cats (ad : Nat → Nat) (st : List Value) : ((st.map (amCv ad)).map fun v => v.category).sum = amCat st := by
  unfold amCat
  rw [List.map_map]
  congr 1
  exact List.map_congr_left (fun v _ => amCv_cat ad v)
def amLn : Instr → Nat
  | .iconst _ | .lconst _ | .aconst_null | .iload_n _ | .lload_n _ | .aload_n _ | .istore_n _ | .lstore_n _ | .astore_n _ | .dup | .dup2 | .pop => 1
  | .iadd | .isub | .imul | .idiv | .irem | .iand | .ineg | .ladd | .lsub | .lmul | .ldiv | .lrem | .lor | .lneg | .lshl | .lshr | .lushr | .i2l | .l2i | .i2b | .lcmp => 1
  | .iaload | .baload | .laload | .aaload | .iastore | .bastore | .lastore | .aastore | .arraylength | .ireturn | .lreturn | .areturn | .return_ => 1
  | .bipush _ | .ldc _ | .iload _ | .lload _ | .aload _ | .istore _ | .lstore _ | .astore _ | .newarray _ => 2
  | .multianewarray _ _ => 4
  | .tableswitch _ _ _ _ => 0
  | _ => 3
def amLs (ad : Nat → Nat) (lsR : Array Slot) (nL : Nat) (ls : amL) : Prop := lsR.size = nL ∧ lv_wf lsR ∧ ls.length = nL ∧ ∀ (i : Nat) (v : Value), ls[i]? = some (some v) → lsR[i]? = some (.val (amCv ad v))
def amAs (ad : Nat → Nat) : amL → Nat → List (Nat × Value)
  | [], _ => []
  | none :: t, i => amAs ad t (i + 1)
  | some v :: t, i => (i, amCv ad v) :: amAs ad t (i + 1)
theorem amAs_mem {ad : Nat → Nat} : ∀ (ls : amL) (k : Nat) (q : Nat × Value), q ∈ amAs ad ls k → ∃ v, ls[q.1 - k]? = some (some v) ∧ q.2 = amCv ad v ∧ k ≤ q.1
  | [], _, _, h => absurd h List.not_mem_nil
  | none :: t, k, q, h => by
    obtain ⟨v, h1, h2, h3⟩ := amAs_mem t (k + 1) q h
    refine ⟨v, ?_, h2, by omega⟩
    rw [show q.1 - k = (q.1 - (k + 1)) + 1 by omega, List.getElem?_cons_succ]
    exact h1
  | some w :: t, k, q, h => by
    rcases List.mem_cons.mp h with rfl | h
    · exact ⟨w, by simp, rfl, Nat.le_refl _⟩
    · obtain ⟨v, h1, h2, h3⟩ := amAs_mem t (k + 1) q h
      refine ⟨v, ?_, h2, by omega⟩
      rw [show q.1 - k = (q.1 - (k + 1)) + 1 by omega, List.getElem?_cons_succ]
      exact h1
theorem amAs_of {ad : Nat → Nat} : ∀ (ls : amL) (k i : Nat) (v : Value), ls[i]? = some (some v) → (k + i, amCv ad v) ∈ amAs ad ls k
  | [], _, _, _, h => by simp at h
  | none :: t, k, 0, v, h => by simp at h
  | none :: t, k, i + 1, v, h => by
    rw [List.getElem?_cons_succ] at h
    have := amAs_of (ad := ad) t (k + 1) i v h
    rw [show k + (i + 1) = k + 1 + i by omega]
    exact this
  | some w :: t, k, 0, v, h => by
    rw [List.getElem?_cons_zero] at h
    cases h
    exact List.mem_cons_self
  | some w :: t, k, i + 1, v, h => by
    rw [List.getElem?_cons_succ] at h
    have := amAs_of (ad := ad) t (k + 1) i v h
    rw [show k + (i + 1) = k + 1 + i by omega]
    exact List.mem_cons_of_mem _ this
theorem amLs.has {ad : Nat → Nat} {lsR : Array Slot} {nL : Nat} {ls : amL} (h : amLs ad lsR nL ls) : lv_has lsR nL (amAs ad ls 0) := by
  refine ⟨h.1, h.2.1, fun q hq => ?_⟩
  obtain ⟨v, h1, h2, -⟩ := amAs_mem ls 0 q hq
  rw [h2]
  exact h.2.2.2 q.1 v h1
theorem amSt_len (v : Value) : ∀ (ls : amL) (k : Nat), (amSt ls k v).length = ls.length
  | [], _ => rfl
  | _ :: t, 0 => rfl
  | h :: t, 1 => by
    show (amSt t 0 v).length + 1 = _
    rw [amSt_len v t 0]; rfl
  | h :: t, k + 2 => by
    show (amSt t (k + 1) v).length + 1 = _
    rw [amSt_len v t (k + 1)]; rfl
theorem amClr_some {x : Option Value} {v : Value} (h : amClr x = some v) : x = some v ∧ v.category ≠ 2 := by
  cases x with
  | none => cases h
  | some w => cases w <;> simp [amClr] at h <;> (subst h; exact ⟨rfl, by simp [Value.category]⟩)
theorem amSt_get {v : Value} : ∀ (ls : amL) (k i : Nat) (w : Value), (amSt ls k v)[i]? = some (some w) → (i = k ∧ w = v) ∨ (i ≠ k ∧ ls[i]? = some (some w) ∧ (i + 1 = k → w.category ≠ 2))
  | [], _, _, _, h => by simp [amSt] at h
  | _ :: t, 0, 0, w, h => by
    simp [amSt] at h
    exact Or.inl ⟨rfl, h.symm⟩
  | _ :: t, 0, i + 1, w, h => by
    simp only [amSt, List.getElem?_cons_succ] at h
    exact Or.inr ⟨by omega, by rw [List.getElem?_cons_succ]; exact h, by omega⟩
  | x :: t, 1, 0, w, h => by
    simp only [amSt, List.getElem?_cons_zero, Option.some.injEq] at h
    obtain ⟨h1, h2⟩ := amClr_some h
    exact Or.inr ⟨by omega, by rw [List.getElem?_cons_zero, h1], fun _ => h2⟩
  | x :: t, 1, i + 1, w, h => by
    simp only [amSt, List.getElem?_cons_succ] at h
    rcases amSt_get t 0 i w h with ⟨h1, h2⟩ | ⟨h1, h2, h3⟩
    · exact Or.inl ⟨by omega, h2⟩
    · exact Or.inr ⟨by omega, by rw [List.getElem?_cons_succ]; exact h2, by omega⟩
  | x :: t, k + 2, 0, w, h => by
    simp only [amSt, List.getElem?_cons_zero] at h
    exact Or.inr ⟨by omega, by rw [List.getElem?_cons_zero]; exact h, by omega⟩
  | x :: t, k + 2, i + 1, w, h => by
    simp only [amSt, List.getElem?_cons_succ] at h
    rcases amSt_get t (k + 1) i w h with ⟨h1, h2⟩ | ⟨h1, h2, h3⟩
    · exact Or.inl ⟨by omega, h2⟩
    · exact Or.inr ⟨by omega, by rw [List.getElem?_cons_succ]; exact h2, fun e => h3 (by omega)⟩
theorem amSt2_len (v : Value) : ∀ (ls : amL) (k : Nat), k + 1 < ls.length → (amSt2 ls k v).length = ls.length
  | [], _, h => by simp at h
  | [_], _, h => by simp at h
  | _ :: _ :: t, 0, _ => rfl
  | x :: y :: t, 1, h => by
    show (amSt2 (y :: t) 0 v).length + 1 = _
    rw [amSt2_len v (y :: t) 0 (by simp at h ⊢; omega)]; rfl
  | x :: y :: t, k + 2, h => by
    show (amSt2 (y :: t) (k + 1) v).length + 1 = _
    rw [amSt2_len v (y :: t) (k + 1) (by simp at h ⊢; omega)]; rfl
theorem amSt2_get {v : Value} : ∀ (ls : amL) (k i : Nat) (w : Value), (amSt2 ls k v)[i]? = some (some w) → (i = k ∧ w = v) ∨ (i ≠ k ∧ i ≠ k + 1 ∧ ls[i]? = some (some w) ∧ (i + 1 = k → w.category ≠ 2))
  | [], _, _, _, h => by simp [amSt2] at h
  | [_], _, _, _, h => by simp [amSt2] at h
  | _ :: _ :: t, 0, 0, w, h => by
    simp [amSt2] at h
    exact Or.inl ⟨rfl, h.symm⟩
  | _ :: _ :: t, 0, 1, w, h => by simp [amSt2] at h
  | _ :: _ :: t, 0, i + 2, w, h => by
    simp only [amSt2, List.getElem?_cons_succ] at h
    exact Or.inr ⟨by omega, by omega, by simp only [List.getElem?_cons_succ]; exact h, by omega⟩
  | x :: y :: t, 1, 0, w, h => by
    simp only [amSt2, List.getElem?_cons_zero, Option.some.injEq] at h
    obtain ⟨h1, h2⟩ := amClr_some h
    exact Or.inr ⟨by omega, by omega, by rw [List.getElem?_cons_zero, h1], fun _ => h2⟩
  | x :: y :: t, 1, i + 1, w, h => by
    have h : (amSt2 (y :: t) 0 v)[i]? = some (some w) := by simpa only [amSt2, List.getElem?_cons_succ] using h
    rcases amSt2_get (y :: t) 0 i w h with ⟨h1, h2⟩ | ⟨h1, h1', h2, h3⟩
    · exact Or.inl ⟨by omega, h2⟩
    · exact Or.inr ⟨by omega, by omega, by rw [List.getElem?_cons_succ]; exact h2, by omega⟩
  | x :: y :: t, k + 2, 0, w, h => by
    simp only [amSt2, List.getElem?_cons_zero] at h
    exact Or.inr ⟨by omega, by omega, by rw [List.getElem?_cons_zero]; exact h, by omega⟩
  | x :: y :: t, k + 2, i + 1, w, h => by
    have h : (amSt2 (y :: t) (k + 1) v)[i]? = some (some w) := by simpa only [amSt2, List.getElem?_cons_succ] using h
    rcases amSt2_get (y :: t) (k + 1) i w h with ⟨h1, h2⟩ | ⟨h1, h1', h2, h3⟩
    · exact Or.inl ⟨by omega, h2⟩
    · exact Or.inr ⟨by omega, by omega, by rw [List.getElem?_cons_succ]; exact h2, fun e => h3 (by omega)⟩
theorem amLs.st {ad : Nat → Nat} {lsR lsR' : Array Slot} {nL k : Nat} {ls : amL} {v : Value} (h : amLs ad lsR nL ls)
    (h' : lv_has lsR' nL ((k, amCv ad v) :: (amAs ad ls 0).filter (fun q => !(q.1 == k) && !(q.1 + 1 == k && q.2.category == 2)))) : amLs ad lsR' nL (amSt ls k v) := by
  refine ⟨h'.1, h'.2.1, by rw [amSt_len]; exact h.2.2.1, fun i w hi => ?_⟩
  rcases amSt_get ls k i w hi with ⟨rfl, rfl⟩ | ⟨h1, h2, h3⟩
  · exact h'.2.2 _ List.mem_cons_self
  · refine h'.2.2 (i, amCv ad w) (List.mem_cons_of_mem _ (List.mem_filter.mpr ⟨?_, ?_⟩))
    · have := amAs_of (ad := ad) ls 0 i w h2
      rwa [Nat.zero_add] at this
    · simp only [Bool.and_eq_true, Bool.not_eq_true', beq_eq_false_iff_ne, ne_eq, Bool.and_eq_false_iff, amCv_cat]
      refine ⟨h1, ?_⟩
      by_cases e : i + 1 = k
      · exact Or.inr (h3 e)
      · exact Or.inl e
theorem amLs.st2 {ad : Nat → Nat} {lsR lsR' : Array Slot} {nL k : Nat} {ls : amL} {v : Value} (h : amLs ad lsR nL ls) (hk : k + 1 < ls.length)
    (h' : lv_has lsR' nL ((k, amCv ad v) :: (amAs ad ls 0).filter (fun q => !(q.1 == k) && (!(q.1 == k + 1) && !(q.1 + 1 == k && q.2.category == 2))))) : amLs ad lsR' nL (amSt2 ls k v) := by
  refine ⟨h'.1, h'.2.1, by rw [amSt2_len _ _ _ hk]; exact h.2.2.1, fun i w hi => ?_⟩
  rcases amSt2_get ls k i w hi with ⟨rfl, rfl⟩ | ⟨h1, h1', h2, h3⟩
  · exact h'.2.2 _ List.mem_cons_self
  · refine h'.2.2 (i, amCv ad w) (List.mem_cons_of_mem _ (List.mem_filter.mpr ⟨?_, ?_⟩))
    · have := amAs_of (ad := ad) ls 0 i w h2
      rwa [Nat.zero_add] at this
    · simp only [Bool.and_eq_true, Bool.not_eq_true', beq_eq_false_iff_ne, ne_eq, Bool.and_eq_false_iff, amCv_cat]
      refine ⟨h1, h1', ?_⟩
      by_cases e : i + 1 = k
      · exact Or.inr (h3 e)
      · exact Or.inl e
theorem amLdI_spec {ls : amL} {k : Nat} {v : Value} (h : amLdI ls k = some v) : ∃ x, v = .int x ∧ ls[k]? = some (some (.int x)) := by
  unfold amLdI at h
  split at h
  · cases h; exact ⟨_, rfl, by assumption⟩
  · cases h
theorem amLdJ_spec {ls : amL} {k : Nat} {v : Value} (h : amLdJ ls k = some v) : ∃ x, v = .long x ∧ ls[k]? = some (some (.long x)) := by
  unfold amLdJ at h
  split at h
  · cases h; exact ⟨_, rfl, by assumption⟩
  · cases h
theorem amLdA_spec {ls : amL} {k : Nat} {v : Value} (h : amLdA ls k = some v) : (∃ x, v = .ref x ∧ ls[k]? = some (some (.ref x))) ∨ (v = .null ∧ ls[k]? = some (some .null)) := by
  unfold amLdA at h
  split at h
  · cases h; exact Or.inl ⟨_, rfl, by assumption⟩
  · cases h; exact Or.inr ⟨rfl, by assumption⟩
  · cases h
theorem amTg_spec {pc : Nat} {off : Int} {t : Nat} (h : amTg pc off = some t) : (pc : Int) + off = (t : Int) := by
  unfold amTg at h
  split at h
  · cases h; omega
  · cases h
theorem amLcmp_eq (x y : Int64) : amLcmp x y = lg_cmp x y := by
  first | rfl | (unfold amLcmp lg_cmp; repeat' split) <;> first | rfl | (exfalso; simp_all)
section AMP
variable {p : Program} {l : Launch} {e : Env} {R : Room} {s : State} {m : MethodId} {args : Array Value} {below : List Frame} {meth : Method} {c : Code} {H : Heap} {locs : List Loc} {cells slots : Nat} {Q : State → Prop} {cc : ByteArray} {ad : Nat → Nat} {nL : Nat}
theorem amBr_sound {pc len pc' : Nat} {off : Int} {ls ls' : amL} {r st' : List Value} {lsR : Array Slot} {b : Bool} {X : JFrame} (hlen : len = 3) (h : amBr pc len off ls r b = some (pc', ls', st')) (hL : amLs ad lsR nL ls)
    (kk : ∀ lsR', amLs ad lsR' nL ls' → W p l e R s m args below meth c H locs cells slots Q (F0 m pc' lsR' (st'.map (amCv ad))))
    (row : ∀ t : Nat, (pc : Int) + off = (t : Int) → (b = true → W p l e R s m args below meth c H locs cells slots Q (F0 m t lsR (r.map (amCv ad)))) → (¬ b = true → W p l e R s m args below meth c H locs cells slots Q (F0 m (pc + 3) lsR (r.map (amCv ad)))) → W p l e R s m args below meth c H locs cells slots Q X) : W p l e R s m args below meth c H locs cells slots Q X := by
  subst hlen
  unfold amBr at h
  cases ht : amTg pc off with
  | none => rw [ht] at h; cases h
  | some t =>
    rw [ht] at h
    dsimp only at h
    by_cases hb : b = true
    · rw [if_pos hb] at h
      cases h
      exact row _ (amTg_spec ht) (fun _ => kk lsR hL) (fun q => absurd hb q)
    · rw [if_neg hb] at h
      cases h
      exact row t (amTg_spec ht) (fun q => absurd q hb) (fun _ => kk lsR hL)

set_option maxHeartbeats 4000000 in
theorem am_pure {own : String} {i : Instr} {op len pc pc' : Nat} {ls ls' : amL} {st st' : List Value} {lsR : Array Slot} (hx : p.tables.exec = Jvm.exec) (hb : c.code = cc) (hn : amLn i = 0 ∨ len = amLn i) (hd : decode cc pc = .ok (i, len)) (hL : amLs ad lsR nL ls) (hml : c.maxLocals = nL)
    (hcJ : ∀ idx, i = .ldc2_w idx → (Cond.constantLong own idx (amJc.getD op 0)).before args s = true) (hcI : ∀ idx, i = .ldc_w idx → (Cond.constant own idx (amIc.getD op 0)).before args s = true)
    (hcS : ∀ idx, i = .ldc idx → op < 12 → ∃ tx, vk_R own idx tx (ad (1000000 + op)) s) (hown : s.vm.findClass own = some m.cls)
    (hmx : ∀ idx, i = .invokestatic idx → op = 902 → (Cond.methodLink own idx Lib.MathLoose.max_long.x).before args s = true ∧ (Cond.static Lib.MathLoose.max_long.x).before args s = true ∧ (Cond.initialized "java/lang/Math").before args s = true ∧ (Cond.code Lib.MathLoose.max_long.x Lib.MathLoose.max_long.code 4 (some .long)).before args s = true)
    (hab : ∀ idx, i = .invokestatic idx → op = 903 → (Cond.methodLink own idx Lib.MathLoose.abs_long.x).before args s = true ∧ (Cond.static Lib.MathLoose.abs_long.x).before args s = true ∧ (Cond.initialized "java/lang/Math").before args s = true ∧ (Cond.code Lib.MathLoose.abs_long.x Lib.MathLoose.abs_long.code 2 (some .long)).before args s = true)
    (hob : ∀ idx, i = .invokespecial idx → op = 0 → (Cond.methodLink own idx objectInit).before args s = true ∧ (Cond.instanceMethod objectInit).before args s = true ∧ (Cond.code objectInit ⟨#[0xb1]⟩ 1 none).before args s = true)
    (hRf : 1 ≤ R.frames) (hRl : 64 ≤ R.locals) (hRc : cells ≤ R.cells) (hRs : slots ≤ R.slots)
    (hS1 : ∀ idx, i = .invokevirtual idx → ∀ a r, op = 900 → amCat r ≤ 8 → 1000000 ≤ a → a < 1000012 → W p l e R s m args below meth c H locs cells slots Q (F0 m (pc + 3) lsR (.int (nI (amTx (a - 1000000)).length) :: r.map (amCv ad))) → W p l e R s m args below meth c H locs cells slots Q (F0 m pc lsR (.ref (ad a) :: r.map (amCv ad))))
    (hS2 : ∀ idx, i = .invokevirtual idx → ∀ a k r, op = 901 → amCat r ≤ 8 → 1000000 ≤ a → a < 1000012 → 0 ≤ k → k.toNatClampNeg < (amTx (a - 1000000)).length → W p l e R s m args below meth c H locs cells slots Q (F0 m (pc + 3) lsR (.int ((amTx (a - 1000000)).getD k.toNatClampNeg 0) :: r.map (amCv ad))) → W p l e R s m args below meth c H locs cells slots Q (F0 m pc lsR (.int k :: .ref (ad a) :: r.map (amCv ad))))
    (h : amPure i op len pc ls st = some (pc', ls', st'))
    (kk : ∀ lsR', amLs ad lsR' nL ls' → W p l e R s m args below meth c H locs cells slots Q (F0 m pc' lsR' (st'.map (amCv ad)))) : W p l e R s m args below meth c H locs cells slots Q (F0 m pc lsR (st.map (amCv ad))) := by
  have hA := fun (i : Nat) (v : Value) (q : ls[i]? = some (some v)) => hL.2.2.2 i v q
  have hnl : ls.length = nL := hL.2.2.1
  unfold amPure at h
  split at h
  · have hn : len = 1 := by simpa [amLn] using hn
    subst hn
    cases h
    exact lv_iconst hx hb hd rfl (kk lsR hL)
  · have hn : len = 2 := by simpa [amLn] using hn
    subst hn
    cases h
    exact lv_bipush hx hb hd rfl (kk lsR hL)
  · have hn : len = 3 := by simpa [amLn] using hn
    subst hn
    cases h
    exact lv_sipush hx hb hd rfl (kk lsR hL)
  · have hn : len = 1 := by simpa [amLn] using hn
    subst hn
    cases h
    exact lv_lconst hx hb hd rfl (kk lsR hL)
  · have hn : len = 1 := by simpa [amLn] using hn
    subst hn
    cases h
    exact lv_null hx hb hd (kk lsR hL)
  · have hn : len = 3 := by simpa [amLn] using hn
    subst hn
    rename_i idx
    cases hv : amJc[op]? with
    | none => rw [hv] at h; cases h
    | some v =>
      rw [hv] at h
      cases h
      have e : amJc.getD op 0 = v := by rw [List.getD_eq_getElem?_getD, hv]; rfl
      have h9 := hcJ idx rfl
      rw [e] at h9
      exact lv_ldc2 hx hb hown h9 hd (kk lsR hL)
  · have hn : len = 3 := by simpa [amLn] using hn
    subst hn
    rename_i idx
    cases hv : amIc[op]? with
    | none => rw [hv] at h; cases h
    | some v =>
      rw [hv] at h
      cases h
      have e : amIc.getD op 0 = v := by rw [List.getD_eq_getElem?_getD, hv]; rfl
      have h9 := hcI idx rfl
      rw [e] at h9
      exact lv_ldcw hx hb hown h9 hd (kk lsR hL)
  · have hn : len = 2 := by simpa [amLn] using hn
    subst hn
    rename_i idx
    split at h
    · rename_i h12
      cases h
      obtain ⟨tx, hZ⟩ := hcS idx rfl h12
      exact va_ldcS hx hb hown hZ hd (kk lsR hL)
    · cases h
  · have hn : len = 1 := by simpa [amLn] using hn
    subst hn
    rename_i k
    cases hv : amLdI ls k with
    | none => rw [hv] at h; cases h
    | some v =>
      rw [hv] at h
      cases h
      obtain ⟨x, rfl, hg⟩ := amLdI_spec hv
      exact lv_iload_n hx hb hd rfl (hA _ _ hg) (kk lsR hL)
  · have hn : len = 2 := by simpa [amLn] using hn
    subst hn
    rename_i k
    cases hv : amLdI ls k with
    | none => rw [hv] at h; cases h
    | some v =>
      rw [hv] at h
      cases h
      obtain ⟨x, rfl, hg⟩ := amLdI_spec hv
      exact lv_iload hx hb hd (hA _ _ hg) (kk lsR hL)
  · have hn : len = 1 := by simpa [amLn] using hn
    subst hn
    rename_i k
    cases hv : amLdJ ls k with
    | none => rw [hv] at h; cases h
    | some v =>
      rw [hv] at h
      cases h
      obtain ⟨x, rfl, hg⟩ := amLdJ_spec hv
      exact lv_lload_n hx hb hd rfl (hA _ _ hg) (kk lsR hL)
  · have hn : len = 2 := by simpa [amLn] using hn
    subst hn
    rename_i k
    cases hv : amLdJ ls k with
    | none => rw [hv] at h; cases h
    | some v =>
      rw [hv] at h
      cases h
      obtain ⟨x, rfl, hg⟩ := amLdJ_spec hv
      exact lv_lload hx hb hd (hA _ _ hg) (kk lsR hL)
  · have hn : len = 1 := by simpa [amLn] using hn
    subst hn
    rename_i k
    cases hv : amLdA ls k with
    | none => rw [hv] at h; cases h
    | some v =>
      rw [hv] at h
      cases h
      rcases amLdA_spec hv with ⟨x, rfl, hg⟩ | ⟨rfl, hg⟩
      · exact lv_aload_n hx hb hd rfl (hA _ _ hg) (kk lsR hL)
      · exact lv_aload_nN hx hb hd rfl (hA _ _ hg) (kk lsR hL)
  · have hn : len = 2 := by simpa [amLn] using hn
    subst hn
    rename_i k
    cases hv : amLdA ls k with
    | none => rw [hv] at h; cases h
    | some v =>
      rw [hv] at h
      cases h
      rcases amLdA_spec hv with ⟨x, rfl, hg⟩ | ⟨rfl, hg⟩
      · exact lv_aload hx hb hd (hA _ _ hg) (kk lsR hL)
      · exact lv_aloadN hx hb hd (hA _ _ hg) (kk lsR hL)
  · have hn : len = 1 := by simpa [amLn] using hn
    subst hn
    rename_i k
    split at h
    · split at h
      · rename_i x r hk
        cases h
        exact lv_istore_n hx hb hd rfl hL.has (by omega) rfl (fun lsR' h' => kk lsR' (hL.st h'))
      · cases h
    · cases h
  · have hn : len = 2 := by simpa [amLn] using hn
    subst hn
    rename_i k
    split at h
    · split at h
      · rename_i x r hk
        cases h
        exact lv_istore hx hb hd hL.has (by omega) rfl (fun lsR' h' => kk lsR' (hL.st h'))
      · cases h
    · cases h
  · have hn : len = 1 := by simpa [amLn] using hn
    subst hn
    rename_i k
    split at h
    · split at h
      · rename_i x r hk
        cases h
        exact lv_lstore_n hx hb hd rfl hL.has (by omega) rfl (fun lsR' h' => kk lsR' (hL.st2 hk h'))
      · cases h
    · cases h
  · have hn : len = 2 := by simpa [amLn] using hn
    subst hn
    rename_i k
    split at h
    · split at h
      · rename_i x r hk
        cases h
        exact lv_lstore hx hb hd hL.has (by omega) rfl (fun lsR' h' => kk lsR' (hL.st2 hk h'))
      · cases h
    · cases h
  · have hn : len = 1 := by simpa [amLn] using hn
    subst hn
    rename_i k
    split at h
    · split at h
      · rename_i x r hk
        cases h
        exact lv_astore_n hx hb hd rfl hL.has (by omega) rfl (fun lsR' h' => kk lsR' (hL.st (v := .ref x) h'))
      · cases h
    · split at h
      · rename_i r hk
        cases h
        exact lv_astore_nN hx hb hd rfl hL.has (by omega) rfl (fun lsR' h' => kk lsR' (hL.st (v := .null) h'))
      · cases h
    · cases h
  · have hn : len = 2 := by simpa [amLn] using hn
    subst hn
    rename_i k
    split at h
    · split at h
      · rename_i x r hk
        cases h
        exact lv_astore hx hb hd hL.has (by omega) rfl (fun lsR' h' => kk lsR' (hL.st (v := .ref x) h'))
      · cases h
    · split at h
      · rename_i r hk
        cases h
        exact lv_astoreN hx hb hd hL.has (by omega) rfl (fun lsR' h' => kk lsR' (hL.st (v := .null) h'))
      · cases h
    · cases h
  · have hn : len = 3 := by simpa [amLn] using hn
    subst hn
    rename_i k n
    split at h
    · rename_i x hg
      cases h
      have hk : k < ls.length := (List.getElem?_eq_some_iff.mp hg).1
      have hm := amAs_of (ad := ad) ls 0 k _ hg
      rw [Nat.zero_add] at hm
      obtain ⟨q, hq⟩ := List.getElem?_of_mem hm
      exact lv_iinc hx hb hd hL.has hq rfl (by omega) rfl (fun lsR' h' => kk lsR' (hL.st (v := .int (x + Int32.ofInt n)) h'))
    · cases h
  · have hn : len = 1 := by simpa [amLn] using hn
    subst hn
    split at h
    · split at h
      · rename_i v r hv
        cases h
        exact lv_dup hx hb hd (by rw [amCv_cat]; exact hv) (kk lsR hL)
      · cases h
    · cases h
  · have hn : len = 1 := by simpa [amLn] using hn
    subst hn
    split at h
    · split at h
      · rename_i v w r hv
        cases h
        exact lv_dup2_11 hx hb hd (by rw [amCv_cat]; exact hv.1) (by rw [amCv_cat]; exact hv.2) (kk lsR hL)
      · cases h
    · cases h
  · have hn : len = 1 := by simpa [amLn] using hn
    subst hn
    split at h
    · split at h
      · rename_i v r hv
        cases h
        exact lv_pop hx hb hd (by rw [amCv_cat]; exact hv) (kk lsR hL)
      · cases h
    · cases h
  · have hn : len = 1 := by simpa [amLn] using hn
    subst hn
    split at h
    · cases h
      exact lv_iadd hx hb hd (kk lsR hL)
    · cases h
  · have hn : len = 1 := by simpa [amLn] using hn
    subst hn
    split at h
    · cases h
      exact lv_isub hx hb hd (kk lsR hL)
    · cases h
  · have hn : len = 1 := by simpa [amLn] using hn
    subst hn
    split at h
    · cases h
      exact lv_imul hx hb hd (kk lsR hL)
    · cases h
  · have hn : len = 1 := by simpa [amLn] using hn
    subst hn
    split at h
    · split at h
      · cases h
      · rename_i hne
        cases h
        exact lv_idiv hx hb hd hne (kk lsR hL)
    · cases h
  · have hn : len = 1 := by simpa [amLn] using hn
    subst hn
    split at h
    · split at h
      · cases h
      · rename_i hne
        cases h
        exact lv_irem hx hb hd hne (kk lsR hL)
    · cases h
  · have hn : len = 1 := by simpa [amLn] using hn
    subst hn
    split at h
    · cases h
      exact lv_iand hx hb hd (kk lsR hL)
    · cases h
  · have hn : len = 1 := by simpa [amLn] using hn
    subst hn
    split at h
    · cases h
      exact lv_ineg hx hb hd (kk lsR hL)
    · cases h
  · have hn : len = 1 := by simpa [amLn] using hn
    subst hn
    split at h
    · cases h
      exact lv_ladd hx hb hd (kk lsR hL)
    · cases h
  · have hn : len = 1 := by simpa [amLn] using hn
    subst hn
    split at h
    · cases h
      exact lv_lsub hx hb hd (kk lsR hL)
    · cases h
  · have hn : len = 1 := by simpa [amLn] using hn
    subst hn
    split at h
    · cases h
      exact lv_lmul hx hb hd (kk lsR hL)
    · cases h
  · have hn : len = 1 := by simpa [amLn] using hn
    subst hn
    split at h
    · split at h
      · cases h
      · rename_i hne
        cases h
        exact lv_ldiv hx hb hd hne (kk lsR hL)
    · cases h
  · have hn : len = 1 := by simpa [amLn] using hn
    subst hn
    split at h
    · split at h
      · cases h
      · rename_i hne
        cases h
        exact lv_lrem hx hb hd hne (kk lsR hL)
    · cases h
  · have hn : len = 1 := by simpa [amLn] using hn
    subst hn
    split at h
    · cases h
      exact lv_lor hx hb hd (kk lsR hL)
    · cases h
  · have hn : len = 1 := by simpa [amLn] using hn
    subst hn
    split at h
    · cases h
      exact lv_lneg hx hb hd (kk lsR hL)
    · cases h
  · have hn : len = 1 := by simpa [amLn] using hn
    subst hn
    split at h
    · cases h
      exact lv_lshl hx hb hd rfl (kk lsR hL)
    · cases h
  · have hn : len = 1 := by simpa [amLn] using hn
    subst hn
    split at h
    · cases h
      exact lv_lshr hx hb hd rfl (kk lsR hL)
    · cases h
  · have hn : len = 1 := by simpa [amLn] using hn
    subst hn
    split at h
    · cases h
      exact lv_lushr hx hb hd rfl (kk lsR hL)
    · cases h
  · have hn : len = 1 := by simpa [amLn] using hn
    subst hn
    split at h
    · cases h
      exact lv_i2l hx hb hd rfl (kk lsR hL)
    · cases h
  · have hn : len = 1 := by simpa [amLn] using hn
    subst hn
    split at h
    · cases h
      exact lv_l2i hx hb hd rfl (kk lsR hL)
    · cases h
  · have hn : len = 1 := by simpa [amLn] using hn
    subst hn
    split at h
    · cases h
      exact lv_i2b hx hb hd rfl (kk lsR hL)
    · cases h
  · have hn : len = 1 := by simpa [amLn] using hn
    subst hn
    split at h
    · cases h
      refine W.lcmp hx hb hd ?_
      rw [← amLcmp_eq]
      exact kk lsR hL
    · cases h
  · have hn : len = 3 := by simpa [amLn] using hn
    subst hn
    rename_i cd off
    split at h
    · rename_i x r
      refine amBr_sound rfl h hL kk (fun t ht k1 k2 => ?_)
      cases cd
      · exact lv_if_eq hx hb hd ht (fun q => k1 (decide_eq_true q)) (fun q => k2 (fun z => q (of_decide_eq_true z)))
      · exact lv_if_ne hx hb hd ht (fun q => k1 (decide_eq_true q)) (fun q => k2 (fun z => absurd q (of_decide_eq_true z)))
      · exact lv_if_lt hx hb hd ht (fun q => k1 (decide_eq_true q)) (fun q => k2 (fun z => q (of_decide_eq_true z)))
      · exact lv_if_ge hx hb hd ht (fun q => k1 (decide_eq_true q)) (fun q => k2 (fun z => q (of_decide_eq_true z)))
      · exact lv_if_gt hx hb hd ht (fun q => k1 (decide_eq_true q)) (fun q => k2 (fun z => q (of_decide_eq_true z)))
      · exact lv_if_le hx hb hd ht (fun q => k1 (decide_eq_true q)) (fun q => k2 (fun z => q (of_decide_eq_true z)))
    · cases h
  · have hn : len = 3 := by simpa [amLn] using hn
    subst hn
    rename_i cd off
    split at h
    · rename_i y x r
      refine amBr_sound rfl h hL kk (fun t ht k1 k2 => ?_)
      cases cd
      · exact lv_icmp_eq hx hb hd ht (fun q => k1 (decide_eq_true q)) (fun q => k2 (fun z => q (of_decide_eq_true z)))
      · exact lv_icmp_ne hx hb hd ht (fun q => k1 (decide_eq_true q)) (fun q => k2 (fun z => absurd q (of_decide_eq_true z)))
      · exact lv_icmp_lt hx hb hd ht (fun q => k1 (decide_eq_true q)) (fun q => k2 (fun z => q (of_decide_eq_true z)))
      · exact lv_icmp_ge hx hb hd ht (fun q => k1 (decide_eq_true q)) (fun q => k2 (fun z => q (of_decide_eq_true z)))
      · exact lv_icmp_gt hx hb hd ht (fun q => k1 (decide_eq_true q)) (fun q => k2 (fun z => q (of_decide_eq_true z)))
      · exact lv_icmp_le hx hb hd ht (fun q => k1 (decide_eq_true q)) (fun q => k2 (fun z => q (of_decide_eq_true z)))
    · cases h
  · have hn : len = 3 := by simpa [amLn] using hn
    subst hn
    rename_i off
    split at h
    · refine amBr_sound rfl h hL kk (fun t ht k1 k2 => ?_)
      exact lv_ifnull hx hb hd (k2 (by decide))
    · refine amBr_sound rfl h hL kk (fun t ht k1 k2 => ?_)
      exact lv_ifnullN hx hb hd ht (k1 rfl)
    · cases h
  · have hn : len = 3 := by simpa [amLn] using hn
    subst hn
    rename_i off
    split at h
    · refine amBr_sound rfl h hL kk (fun t ht k1 k2 => ?_)
      exact lv_ifnonnull hx hb hd ht (k1 rfl)
    · refine amBr_sound rfl h hL kk (fun t ht k1 k2 => ?_)
      exact lv_ifnonnullN hx hb hd (k2 (by decide))
    · cases h
  · have hn : len = 3 := by simpa [amLn] using hn
    subst hn
    split at h
    · rename_i t ht
      cases h
      exact lv_goto hx hb hd (amTg_spec ht) (kk lsR hL)
    · cases h
  · rename_i d lo hi offs
    split at h
    · rename_i x r
      split at h
      · rename_i hq
        cases ht : amTg pc d with
        | none => rw [ht] at h; cases h
        | some t =>
          rw [ht] at h
          cases h
          exact lv_tableOut hx hb hd hq (amTg_spec ht) (kk lsR hL)
      · rename_i hq
        have hq1 : ¬ x.toInt < lo := fun q => hq (Or.inl q)
        have hq2 : ¬ hi < x.toInt := fun q => hq (Or.inr q)
        cases ho : offs[(x.toInt - lo).toNat]? with
        | none => rw [ho] at h; cases h
        | some o =>
          rw [ho] at h
          have h : (amTg pc o).map (fun t => (t, ls, r)) = some (pc', ls', st') := h
          cases ht : amTg pc o with
          | none => rw [ht] at h; cases h
          | some t =>
            rw [ht] at h
            cases h
            exact lv_tableIn hx hb hd hq1 hq2 ho (amTg_spec ht) (kk lsR hL)
    · cases h
  · have hn : len = 3 := by simpa [amLn] using hn
    subst hn
    rename_i idx
    split at h
    · split at h
      · rename_i y x r hq
        cases h
        obtain ⟨h1, h2, h3, h4⟩ := hmx idx rfl hq.1
        have h5 := amCv_cats ad r
        exact va_mmax_long hx hb (hml.trans hL.1.symm) hown h1 h2 h3 h4 hRf (by rw [h5]; omega) hRc hRs hd (kk lsR hL)
      · split at h
        · rename_i y x r hq0 hq
          cases h
          obtain ⟨h1, h2, h3, h4⟩ := hab idx rfl hq.1
          have h5 := amCv_cats ad (.long x :: r)
          exact va_mabs_long hx hb (hml.trans hL.1.symm) hown h1 h2 h3 h4 hRf (by rw [h5]; omega) hRc hRs hd (kk lsR hL)
        · cases h
    · split at h
      · rename_i x r hne hq
        cases h
        obtain ⟨h1, h2, h3, h4⟩ := hab idx rfl hq.1
        have h5 := amCv_cats ad r
        exact va_mabs_long hx hb (hml.trans hL.1.symm) hown h1 h2 h3 h4 hRf (by rw [h5]; omega) hRc hRs hd (kk lsR hL)
      · cases h
    · cases h
  · have hn : len = 3 := by simpa [amLn] using hn
    subst hn
    rename_i idx
    split at h
    · rename_i a r
      split at h
      · rename_i hq
        cases h
        obtain ⟨h1, h2, h3⟩ := hob idx rfl hq.1
        have h5 := amCv_cats ad st'
        refine W.objInit hx hb hown h1 h2 h3 rfl (hL.1.trans hml.symm) rfl hd hRf ?_ (kk lsR hL)
        show 2 * 0 + ((st'.map (amCv ad)).map fun v => v.category).sum + 12 ≤ _
        rw [h5]
        omega
      · cases h
    · cases h
  · have hn : len = 3 := by simpa [amLn] using hn
    subst hn
    rename_i idx
    split at h
    · split at h
      · rename_i a r hq
        cases h
        exact hS1 idx rfl a r hq.1 hq.2.1 hq.2.2.1 hq.2.2.2 (kk lsR hL)
      · cases h
    · split at h
      · rename_i k a r hq
        cases h
        exact hS2 idx rfl a k r hq.1 hq.2.1 hq.2.2.1 hq.2.2.2.1 hq.2.2.2.2.1 hq.2.2.2.2.2 (kk lsR hL)
      · cases h
    · cases h
  · cases h
end AMP
