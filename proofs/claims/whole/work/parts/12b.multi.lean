/-! rows of rows: a new table of n rows of k longs, by our own walk of the instruction -/
def mgO (cI : ClassId) (N h0 i : Nat) : Cell := arrV cI N (fun j => va_rf (if j < i then some (h0 + 1 + j) else none))
def mgF (S : State) (cI : ClassId) (N : Nat) (ic : Cell) : Nat → State
  | 0 => S.pushCell (mgO cI N S.heap.size 0)
  | i + 1 => ((mgF S cI N ic i).pushCell ic).setCell S.heap.size (mgO cI N S.heap.size (i + 1))
theorem mgO_zero (cI : ClassId) (N h0 : Nat) : ({ cls := cI, slots := Array.replicate N .null, vm := .none } : Cell) = mgO cI N h0 0 := by
  rw [arrV_new]
  refine congrArg (arrV cI N) (funext fun j => ?_)
  rw [if_neg (Nat.not_lt_zero j)]
  rfl
theorem mgO_next (cI : ClassId) (N h0 i : Nat) : (mgO cI N h0 i).setSlot i (.ref (h0 + 1 + i)) = mgO cI N h0 (i + 1) := by
  unfold mgO
  rw [arrV_store]
  refine congrArg (arrV cI N) (funext fun j => ?_)
  unfold updV
  by_cases e : j = i
  · subst e
    show (if j = j then _ else _) = _
    rw [if_pos rfl, if_pos (Nat.lt_succ_self j)]
    rfl
  · show (if j = i then _ else va_rf (if j < i then some (h0 + 1 + j) else none)) = _
    rw [if_neg e]
    by_cases h : j < i
    · rw [if_pos h, if_pos (Nat.lt_succ_of_lt h)]
    · rw [if_neg h, if_neg (by omega)]
theorem mgF_sum (S : State) (cI : ClassId) (N : Nat) (ic : Cell) : ∀ i, (mgF S cI N ic i).heap.size = S.heap.size + 1 + i ∧ (mgF S cI N ic i).heap[S.heap.size]? = some (mgO cI N S.heap.size i) ∧ (mgF S cI N ic i).vm = S.vm ∧ (mgF S cI N ic i).slotsUsed = S.slotsUsed + N + i * ic.slots.size
  | 0 => ⟨by simp [mgF], by simp [mgF], rfl, by simp [mgF, mgO, arrV_size]⟩
  | i + 1 => by
    obtain ⟨h1, h2, h3, h4⟩ := mgF_sum S cI N ic i
    have hlt : S.heap.size < (mgF S cI N ic i).heap.size := by omega
    have hc : ((mgF S cI N ic i).pushCell ic).heap[S.heap.size]? = some (mgO cI N S.heap.size i) := by
      rw [State.heap_pushCell_of_lt (h := hlt)]; exact h2
    refine ⟨?_, State.heap_setCell_self hc, by simp [mgF, h3], ?_⟩
    · simp [mgF, State.setCell, h1]; omega
    · simp [mgF, h4, Nat.succ_mul]; omega
theorem mgF_top (S : State) (g : JFrame) (cI : ClassId) (N : Nat) (ic : Cell) : ∀ i, mgF (S.setTop g) cI N ic i = (mgF S cI N ic i).setTop g
  | 0 => rfl
  | i + 1 => by simp only [mgF, mgF_top S g cI N ic i, State.heap_setTop, State.pushCell_setTop, State.setCell_setTop]
theorem mgF_old (S : State) (cI : ClassId) (N : Nat) (ic : Cell) {x : Nat} (hx : x < S.heap.size) : ∀ i, (mgF S cI N ic i).heap[x]? = S.heap[x]?
  | 0 => State.heap_pushCell_of_lt _ _ hx
  | i + 1 => by
    have h1 := (mgF_sum S cI N ic i).1
    show (((mgF S cI N ic i).pushCell ic).setCell S.heap.size _).heap[x]? = _
    have hlt : x < (mgF S cI N ic i).heap.size := by omega
    rw [State.heap_setCell_other (Nat.ne_of_gt hx), State.heap_pushCell_of_lt (h := hlt)]
    exact mgF_old S cI N ic hx i
theorem mgF_row (S : State) (cI : ClassId) (N : Nat) (ic : Cell) : ∀ i j, j < i → (mgF S cI N ic i).heap[S.heap.size + 1 + j]? = some ic
  | 0, _, h => absurd h (Nat.not_lt_zero _)
  | i + 1, j, h => by
    have h1 := (mgF_sum S cI N ic i).1
    show (((mgF S cI N ic i).pushCell ic).setCell S.heap.size _).heap[S.heap.size + 1 + j]? = _
    have hne : S.heap.size ≠ S.heap.size + 1 + j := by omega
    rw [State.heap_setCell_other hne]
    by_cases e : j = i
    · subst e
      rw [← h1]
      exact State.heap_pushCell_size _ _
    · have hlt : S.heap.size + 1 + j < (mgF S cI N ic i).heap.size := by omega
      rw [State.heap_pushCell_of_lt (h := hlt)]
      exact mgF_row S cI N ic i j (by omega)
section MGW
variable {p : Program} {l : Launch} {e : Env} {R : Room} {s : State} {m : MethodId} {args : Array Value} {below : List Frame} {meth : Method} {c : Code} {T : State} {locs : List Loc} {cells slots : Nat}
theorem mgF_stand (X : Stand p l e R s m args below meth c T locs cells slots) (cI : ClassId) (N : Nat) (ic : Cell) : ∀ i, Stand p l e R s m args below meth c (mgF T cI N ic i) locs (cells + 1 + i) (slots + N + i * ic.slots.size)
  | 0 => by
    have h := X.pushed (mgO cI N T.heap.size 0)
    have e1 : (mgO cI N T.heap.size 0).slots.size = N := arrV_size _ _ _
    rw [e1] at h
    simpa [mgF] using h
  | i + 1 => by
    have Xi := mgF_stand X cI N ic i
    obtain ⟨h1, h2, -, -⟩ := mgF_sum T cI N ic i
    have hlt : T.heap.size < (mgF T cI N ic i).heap.size := by omega
    have hc : ((mgF T cI N ic i).pushCell ic).heap[T.heap.size]? = some (mgO cI N T.heap.size i) := by
      rw [State.heap_pushCell_of_lt (h := hlt)]; exact h2
    have h := (Xi.pushed ic).stored hc i (.ref (T.heap.size + 1 + i))
    rw [mgO_next] at h
    have h' := h.dropFresh (fun q hq => by
      rw [List.mem_singleton] at hq
      subst hq
      exact X.heapGrown)
    rw [show slots + N + (i + 1) * ic.slots.size = slots + N + i * ic.slots.size + ic.slots.size by rw [Nat.succ_mul]; omega]
    exact h'
end MGW
section MGP
variable {E : CtlPost} {e : Env} {d : Bool} {acts : List Action} {s : State}
theorem mg_new {cI comp : ClassId} {kc : Class} {t : FieldType} {len : Nat} {x : Value} (hk : s.vm.classes[cI]? = some kc) (hkd : kc.kind = .array comp t) (h1 : ¬ len > e.platform.arrayLengthLimit) (h2 : ¬ len * componentBytes t > e.platform.maxHeapBytes) (hf : fits t x = true) (hd : x.isDefault = true) (h3 : s.heap.size < e.platform.maxCells) (h4 : s.slotsUsed + len ≤ e.platform.maxSlots)
    {Q : Addr → Pre} (hq : Q s.heap.size d acts (s.pushCell { cls := cI, slots := Array.replicate len x, vm := .none })) : wp (Jvm.newArray cI len x) Q E e d acts s := by
  have hfit : ∀ i v, (Array.replicate len x)[i]? = some v → s.fitsSlot cI .none i v = true := by
    intro i v hv
    rw [Array.getElem?_replicate] at hv
    split at hv
    · cases hv
      simp [State.fitsSlot, State.slotType?, hk, hkd, hf]
    · cases hv
  have hact : allocActs (Array.replicate len x) s.heap.size acts = acts := by
    unfold allocActs
    rw [if_pos]
    rw [Array.all_replicate]
    split
    · rfl
    · exact hd
  simp only [Jvm.newArray, Jvm.arrayFits, wp_bind', W.ask, W.ite, h1, if_false, wp_pure', W.theClass, hk, hkd, h2, W.alloc, W.stop, Option.some.injEq, exists_eq_left', Array.size_replicate, hact]
  rw [if_neg (by omega)]
  exact ⟨h3, h4, hfit, hq⟩
theorem mg_make {cI comp cc : ClassId} {k1 k2 : Class} {n k : Int32} (hk1 : s.vm.classes[cI]? = some k1) (hd1 : k1.kind = .array comp (.array .long)) (hk2 : s.vm.classes[comp]? = some k2) (hd2 : k2.kind = .array cc .long) (hn : ¬ n < 0) (hk : ¬ k < 0)
    (b1 : ¬ n.toNatClampNeg > e.platform.arrayLengthLimit) (b2 : ¬ n.toNatClampNeg * 4 > e.platform.maxHeapBytes) (b3 : ¬ k.toNatClampNeg > e.platform.arrayLengthLimit) (b4 : ¬ k.toNatClampNeg * 8 > e.platform.maxHeapBytes)
    (hc : s.heap.size + 1 + n.toNatClampNeg ≤ e.platform.maxCells) (hs : s.slotsUsed + n.toNatClampNeg + n.toNatClampNeg * k.toNatClampNeg ≤ e.platform.maxSlots)
    {Q : Addr → Pre} (hq : ∀ d' acts', Q s.heap.size d' acts' (mgF s cI n.toNatClampNeg { cls := comp, slots := Array.replicate k.toNatClampNeg (.long 0), vm := .none } n.toNatClampNeg)) : wp (Jvm.Op.multianewarray.make cI [n, k]) Q E e d acts s := by
  have hnone : ([k].find? (· < 0)) = none := by simp [hk]
  rw [Jvm.Op.multianewarray.make]
  simp only [wp_bind', W.ite, hn, if_false, wp_pure', W.theClass, hk1, hd1, Option.some.injEq, exists_eq_left']
  refine mg_new hk1 hd1 b1 b2 rfl rfl (by omega) (by have := Nat.zero_le (n.toNatClampNeg * k.toNatClampNeg); omega) ?_
  rw [mgO_zero cI n.toNatClampNeg s.heap.size]
  simp only [hnone]
  rw [ite_self, wp_bind', Std.Legacy.Range.forIn_eq_forIn_range']
  rw [show ([:n.toNatClampNeg] : Std.Legacy.Range).size = n.toNatClampNeg by simp [Std.Legacy.Range.size]]
  show wp (forIn (List.range' 0 n.toNatClampNeg 1) PUnit.unit _) _ E e d acts _
  have hic : ({ cls := comp, slots := Array.replicate k.toNatClampNeg (.long 0), vm := .none } : Cell).slots.size = k.toNatClampNeg := by simp
  refine wp_forIn_inv (fun rest s' => ∃ i, i + rest.length = n.toNatClampNeg ∧ rest = List.range' i rest.length ∧ s' = mgF s cI n.toNatClampNeg { cls := comp, slots := Array.replicate k.toNatClampNeg (.long 0), vm := .none } i) _ _ ⟨0, by simp, by simp, rfl⟩ ?_ ?_
  · rintro x rest s' d' acts' Q' ⟨i, hi, hl, rfl⟩ hnext
    rw [List.length_cons] at hi
    rw [List.length_cons, List.range'_succ] at hl
    obtain ⟨rfl, hrest⟩ := List.cons.inj hl
    obtain ⟨h1, h2, h3, h4⟩ := mgF_sum s cI n.toNatClampNeg { cls := comp, slots := Array.replicate k.toNatClampNeg (.long 0), vm := .none } x
    rw [hic] at h4
    have hmul : x * k.toNatClampNeg + k.toNatClampNeg ≤ n.toNatClampNeg * k.toNatClampNeg := by
      have := Nat.mul_le_mul_right k.toNatClampNeg (show x + 1 ≤ n.toNatClampNeg by omega)
      rw [Nat.succ_mul] at this
      exact this
    simp only [wp_bind']
    rw [Jvm.Op.multianewarray.make]
    simp only [wp_bind', W.ite, hk, if_false, wp_pure', W.theClass, h3, hk2, hd2, Option.some.injEq, exists_eq_left']
    refine mg_new (by rw [h3]; exact hk2) hd2 b3 b4 rfl rfl (by rw [h1]; omega) (by rw [h4]; omega) ?_
    simp only [wp_bind', W.writeLoc, wp_pure']
    have hsz : (mgO cI n.toNatClampNeg s.heap.size x).slots.size = n.toNatClampNeg := arrV_size _ _ _
    have hlt : s.heap.size < (mgF s cI n.toNatClampNeg { cls := comp, slots := Array.replicate k.toNatClampNeg (.long 0), vm := .none } x).heap.size := by omega
    refine ⟨mgO cI n.toNatClampNeg s.heap.size x, by rw [State.heap_pushCell_of_lt (h := hlt)]; exact h2, by simp [mgO, arrV], by rw [hsz]; omega, ?_, hnext _ _ _ ⟨x + 1, by omega, hrest, ?_⟩⟩
    · simp [State.fitsSlot, State.slotType?, mgO, arrV, h3, hk1, hd1, fits]
    · rw [h1, mgO_next]
      rfl
  · rintro s' d' acts' ⟨i, hi, hl, rfl⟩
    have hi : i = n.toNatClampNeg := by simpa using hi
    subst hi
    simp only [wp_pure']
    exact hq _ _
end MGP
section MGS
variable {p : Program} {l : Launch} {e : Env} {R : Room} {s : State} {m : MethodId} {args : Array Value} {below : List Frame} {meth : Method} {c : Code} {T : State} {locs : List Loc} {cells slots : Nat}
theorem mg_step (X : Stand p l e R s m args below meth c T locs cells slots) (hx : p.tables.exec = Jvm.exec) {own : String} {index : Nat} (hown : s.vm.findClass own = some m.cls) (w1 : (Cond.classLink own index ("[" ++ (FieldType.array .long).toString)).before args s = true) (w2 : (Cond.arrayOver (.array .long)).before args s = true) (w3 : (Cond.arrayClass .long).before args s = true)
    {g : JFrame} (hg : g.method = m) (hd : decode c.code g.pc = .ok (.multianewarray index 2, 4)) {n k : Int32} {rest : List Value} (hst : g.stack = .int k :: .int n :: rest) (hn : ¬ n < 0) (hk : ¬ k < 0) (n1 : n.toNatClampNeg < 100) (k1 : k.toNatClampNeg < 100) (hc : cells + (1 + n.toNatClampNeg) ≤ R.cells) (hs : slots + (n.toNatClampNeg + n.toNatClampNeg * k.toNatClampNeg) ≤ R.slots) :
    ∃ (vm₁ : Vm) (cI comp : ClassId), s.vm.findClass ("[" ++ (FieldType.array .long).toString) = some cI ∧ s.vm.findClass (FieldType.array .long).toString = some comp ∧
      Stand p l e R s m args below meth c (mgF (T.setVm vm₁) cI n.toNatClampNeg { cls := comp, slots := Array.replicate k.toNatClampNeg (.long 0), vm := .none } n.toNatClampNeg) locs (cells + 1 + n.toNatClampNeg) (slots + n.toNatClampNeg + n.toNatClampNeg * k.toNatClampNeg) ∧
      ∀ target, Steps p.tables e below ((mgF (T.setVm vm₁) cI n.toNatClampNeg { cls := comp, slots := Array.replicate k.toNatClampNeg (.long 0), vm := .none } n.toNatClampNeg).setTop { g with pc := g.pc + 4, stack := .ref T.heap.size :: rest }) target → Steps p.tables e below (T.setTop g) target := by
  subst hg
  have hpl : e.platform.magicAccessors = ({} : Platform).magicAccessors := by rw [X.admits.platform]
  obtain ⟨comp, cI, kA, hcomp, -, hkA, hdA, hfA⟩ := arrayOverA_spec w2
  obtain ⟨comp', kC, cc, hcomp', hkC, hdC⟩ := Cond.arrayClass_spec w3
  have ec : comp' = comp := Option.some.inj (hcomp'.symm.trans hcomp)
  subst ec
  obtain ⟨c0, hf0, hcl⟩ := Cond.classLink_spec hown w1 e.platform hpl
  cases hfA.symm.trans hf0
  obtain ⟨hgv, hwarm, hready⟩ := State.classEntry (e := e) X.warmed hcl
  generalize T.vm.noted g.method.cls index (.cls cI) = vm₁ at hgv hwarm hready
  have hal : s.vm.Alike vm₁ := hwarm.alike
  obtain ⟨kA₁, hkA₁, eA⟩ := hal.2.2 _ _ hkA
  obtain ⟨kC₁, hkC₁, eC⟩ := hal.2.2 _ _ hkC
  have X₁ := X.noted hwarm
  obtain ⟨r1, r2⟩ := X.roomAbove hc hs
  have XF := mgF_stand X₁ cI n.toNatClampNeg { cls := comp', slots := Array.replicate k.toNatClampNeg (.long 0), vm := .none } n.toNatClampNeg
  rw [show ({ cls := comp', slots := Array.replicate k.toNatClampNeg (.long 0), vm := .none } : Cell).slots.size = k.toNatClampNeg by simp] at XF
  refine ⟨vm₁, cI, comp', hfA, hcomp, XF, fun target hrest => ?_⟩
  jvm_step X.here [hx, hd]
  simp only [Jvm.Op.multianewarray.sem, wp_bind', W.resolveClassAt_links (State.method?_setTop g X.here.top) hgv]
  rw [W.popN, if_neg (by decide)]
  refine ⟨g, State.topJava?_setTop' (s := T.setVm vm₁) g X.here.top, [.int n, .int k], rest, rfl, hst, ?_⟩
  simp only [List.mapM_cons, List.mapM_nil, wp_bind', wp_pure']
  refine mg_make (k1 := kA₁) (k2 := kC₁) (comp := comp') (cc := cc) hkA₁ (by rw [eA]; exact hdA) hkC₁ (by rw [eC]; exact hdC) hn hk ?_ ?_ ?_ ?_ (by show T.heap.size + 1 + _ ≤ _; omega) (by show T.slotsUsed + _ + _ ≤ _; omega) (fun d' acts' => ?_)
  · rw [Launch.admits_arrayLengthLimit X.admits]; omega
  · rw [Launch.admits_maxHeapBytes X.admits]; omega
  · rw [Launch.admits_arrayLengthLimit X.admits]; omega
  · rw [Launch.admits_maxHeapBytes X.admits]; omega
  have eS : ((T.setTop g).setVm vm₁).setTop { g with stack := rest } = (T.setVm vm₁).setTop { g with stack := rest } := by
    show ((T.setVm vm₁).setTop g).setTop _ = _
    rw [State.setTop_setTop]
  rw [eS, mgF_top]
  simp only [wp_bind', W.mark, W.pushRef, State.topJava?_setTop' _ XF.here.top, Option.some.injEq, exists_eq_left', State.setTop_setTop, State.heap_setTop]
  intro acts
  simp [jvm, XF.here.top]
  exact hrest
end MGS
