/-! the abstract machine's runs are the machine's: allocation, calls, whole runs -/
def amSl : List Nat := [3, 7, 4, 6, 6, 4, 5, 7, 7, 4, 4, 4]
def amWo (z b L : Nat) (xs : Nat → Int32) (adK : Nat → Nat) (dC : Nat → ClassId) (dI : Nat → Nat → Nat) (cA : Nat → ClassId) (PS : State → Prop) (U : State) : Prop :=
  va_K (dC, dI) amCl (amTys cA) U ∧ (∀ q ∈ amNest, va_Nw (.methodLinkNest q.1 q.2.1 q.2.2 "RootFence") U) ∧ va_AO "RootFence$Poly" U ∧ (va_X b L xs U U.heap ∧ b < z ∧ z ≤ U.heap.size) ∧ PS U
def amSv (L : Nat) (xs : Nat → Int32) (σ : amH) : Prop := σ.1.2.2 0 = .inr (8, L) ∧ (∀ i, i < L → σ.2.1 0 i = xs i) ∧ ∀ a, σ.1.1 < a → σ.1.2.2 a = .inr (9, 0)
theorem amSv.le {L : Nat} {xs : Nat → Int32} {σ : amH} {a c : Nat} (h : amSv L xs σ) (hk : σ.1.2.2 a = .inl c) : a ≤ σ.1.1 := by
  rcases Nat.lt_or_ge σ.1.1 a with q | q
  · rw [h.2.2 a q] at hk; cases hk
  · exact q
theorem amNew_n (σ : amH) (kd : amK) (q : Nat) : (amNew σ kd q).1.1 = σ.1.1 + 1 := rfl
theorem amNew_q (σ : amH) (kd : amK) (q : Nat) : (amNew σ kd q).1.2.1 = σ.1.2.1 + q := rfl
theorem amRp.new {z b : Nat} {adK : Nat → Nat} {dC : Nat → ClassId} {dI : Nat → Nat → Nat} {cA : Nat → ClassId} {σ : amH} {H H1 : Heap} {kd : amK} {q : Nat} (h : amRp z (amAd z b adK) dC dI cA σ H) (hlt : σ.1.1 < 800000) (hz : H1.size = H.size + 1) (hq : ∀ x, x < H.size → H1[x]? = H[x]?) (hn : amCe (amAd z b adK) dC dI cA (amNew σ kd q) (σ.1.1 + 1) H1) : amRp z (amAd z b adK) dC dI cA (amNew σ kd q) H1 := by
  refine ⟨by rw [hz, h.1]; rfl, by show σ.1.1 + 1 < _; omega, fun a h1 h2 => ?_⟩
  have h2 : a ≤ σ.1.1 + 1 := h2
  by_cases e : a = σ.1.1 + 1
  · subst e; exact hn
  · have hc := h.2.2 a h1 (by omega)
    exact hc.kept (by show (if a = σ.1.1 + 1 then kd else _) = _; rw [if_neg e]) (fun k => by show (if a = σ.1.1 + 1 then _ else _) = _; rw [if_neg e]) (fun k => by show (if a = σ.1.1 + 1 then _ else _) = _; rw [if_neg e]) (fun k => by show (if a = σ.1.1 + 1 then _ else _) = _; rw [if_neg e]) (hq _ hc.lt)
theorem amSv.new {L : Nat} {xs : Nat → Int32} {σ : amH} {kd : amK} {q : Nat} (h : amSv L xs σ) : amSv L xs (amNew σ kd q) := by
  refine ⟨?_, fun i hi => ?_, fun a ha => ?_⟩
  · show (if 0 = σ.1.1 + 1 then kd else σ.1.2.2 0) = _
    rw [if_neg (by omega)]
    exact h.1
  · show amZ σ.2.1 (σ.1.1 + 1) (fun _ => 0) 0 i = _
    unfold amZ
    rw [if_neg (by omega)]
    exact h.2.1 i hi
  · have ha : σ.1.1 + 1 < a := ha
    show (if a = σ.1.1 + 1 then kd else σ.1.2.2 a) = _
    rw [if_neg (by omega)]
    exact h.2.2 a (by omega)
theorem amVaS.grow {A : Nat → Prop} {H0 H H1 : Heap} {locs : List Loc} (hS : va_S A H0 H locs) (hz : H.size ≤ H1.size) (hq : ∀ x, x < H.size → H1[x]? = H[x]?) : va_S A H0 H1 locs :=
  ⟨Nat.le_trans hS.1 hz, fun x h1 h2 => (hq x (Nat.lt_of_lt_of_le h1 hS.1)).trans (hS.2.1 x h1 h2), hS.2.2⟩
theorem amFt_get {ad : Nat → Nat} {c k a : Nat} {σ : amH} {t : FieldType} (h : amFtOk (amFk c k) t = true) (hI : σ.2.1 a k = 0) (hJ : σ.2.2.1 a k = 0) (hR : σ.2.2.2 a k = none) : defaultValue t = amCv ad (amFv c a k σ) := by
  unfold amFv
  rw [hI, hJ, hR]
  unfold amFtOk at h
  split at h
  · rename_i e; rw [e]; rfl
  · rename_i e; rw [e]; rfl
  · rename_i e; rw [e]; rfl
  · rename_i e; rw [e]; rfl
  · rename_i e; rw [e]; rfl
  · cases h
section AMAL
variable {p : Program} {l : Launch} {e : Env} {R : Room} {s : State} {m : MethodId} {args : Array Value} {below : List Frame} {meth : Method} {c : Code} {H : Heap} {locs : List Loc} {cells slots : Nat} {Q : State → Prop} {cc : ByteArray} {z b : Nat} {adK : Nat → Nat} {dC : Nat → ClassId} {dI : Nat → Nat → Nat} {cA : Nat → ClassId} {σ : amH} {H0 : Heap}
theorem am_new {own : String} {idx ci pc : Nat} {lsR : Array Slot} {rest : List Value} (hx : p.tables.exec = Jvm.exec) (hb : c.code = cc) (hts : ∀ w ∈ amWd, w.before args s = true) (hown : s.vm.findClass own = some m.cls) (hK : va_K (dC, dI) amCl (amTys cA) s) (hcl : ∀ c, c < 13 → amClP c) (hRp : amRp z (amAd z b adK) dC dI cA σ H) (hS : va_S (fun q => z ≤ q) H0 H locs)
    (h1 : Cond.classLink own idx (amCd ci).1 ∈ amWd) (h2 : Cond.instantiable (amCd ci).1 (amCd ci).2.2 ∈ amWd) (h3 : Cond.initialized (amCd ci).1 ∈ amWd) (hci : ci < 13) (hn : σ.1.1 < 800000) (hcells : cells + 1 ≤ R.cells) (hslots : slots + amFn ci ≤ R.slots) (hd : decode cc pc = .ok (.new idx, 3))
    (kk : ∀ H1 : Heap, amRp z (amAd z b adK) dC dI cA (amNew σ (.inl ci) (amFn ci)) H1 → va_S (fun q => z ≤ q) H0 H1 locs → W p l e R s m args below meth c H1 locs (cells + 1) (slots + amFn ci) Q (F0 m (pc + 3) lsR (.ref (amAd z b adK (σ.1.1 + 1)) :: rest))) : W p l e R s m args below meth c H locs cells slots Q (F0 m pc lsR rest) := by
  obtain ⟨hin, hN, hty, hnm, hat, hft⟩ := hcl ci hci
  have hKn := hK.1 ci _ hat
  have e1 : amAd z b adK (σ.1.1 + 1) = z + σ.1.1 := by rw [amAd_in (by omega) (by omega)]; rfl
  rw [← hN] at hslots kk
  refine W.newcK hx hb hown (hts _ h1) (hts _ h2) (hts _ h3) rfl hd hcells hslots hKn.2.1 hRp.1 fun H1 kC hkC g1 g2 g3 => ?_
  rw [e1] at kk
  refine kk H1 (hRp.new hn (by rw [g2, hRp.1]) (fun x hx2 => g3 x (by rw [← hRp.1]; exact hx2)) ?_) (amVaS.grow hS (by rw [g2, hRp.1]; omega) (fun x hx2 => g3 x (by rw [← hRp.1]; exact hx2)))
  unfold amCe
  rw [show (amNew σ (.inl ci) (amCd ci).2.2).1.2.2 (σ.1.1 + 1) = .inl ci from if_pos rfl]
  refine ⟨hci, ?_⟩
  rw [e1]
  have hbrn := u_born (ws := amWd) (amTy ci) hts hin hKn hkC g1 (by rw [hN]; exact hty)
  rw [hN] at hbrn ⊢
  refine hbrn.to (fun k hk => amFt_get (hft k hk) ?_ ?_ ?_)
  · show (if σ.1.1 + 1 = σ.1.1 + 1 then _ else _) = _
    rw [if_pos rfl]
  · show (if σ.1.1 + 1 = σ.1.1 + 1 then _ else _) = _
    rw [if_pos rfl]
  · show (if σ.1.1 + 1 = σ.1.1 + 1 then _ else _) = _
    rw [if_pos rfl]
theorem amCe_newarr {t n q : Nat} {H1 : Heap} (ht : t < 5) (h : H1[z + σ.1.1]? = some (arrV (cA t) n (fun _ => defaultValue (amAT t)))) (hn : σ.1.1 < 800000) : amCe (amAd z b adK) dC dI cA (amNew σ (.inr (t, n)) q) (σ.1.1 + 1) H1 := by
  have e1 : amAd z b adK (σ.1.1 + 1) = z + σ.1.1 := by rw [amAd_in (by omega) (by omega)]; rfl
  unfold amCe
  rw [show (amNew σ (.inr (t, n)) q).1.2.2 (σ.1.1 + 1) = .inr (t, n) from if_pos rfl]
  refine ⟨ht, ?_⟩
  rw [e1, h]
  congr 2
  funext i
  have hI : (amNew σ (.inr (t, n)) q).2.1 (σ.1.1 + 1) i = 0 := if_pos rfl
  have hJ : (amNew σ (.inr (t, n)) q).2.2.1 (σ.1.1 + 1) i = 0 := if_pos rfl
  have hR : (amNew σ (.inr (t, n)) q).2.2.2 (σ.1.1 + 1) i = none := if_pos rfl
  unfold amAv
  rw [hI, hJ, hR]
  match t, ht with
  | 0, _ => rfl
  | 1, _ => rfl
  | 2, _ => rfl
  | 3, _ => rfl
  | 4, _ => rfl
theorem am_newarr {t pc : Nat} {k : Int32} {lsR : Array Slot} {rest : List Value} (hx : p.tables.exec = Jvm.exec) (hb : c.code = cc) (hts : ∀ w ∈ amWd, w.before args s = true) (hK : va_K (dC, dI) amCl (amTys cA) s) (hRp : amRp z (amAd z b adK) dC dI cA σ H) (hS : va_S (fun q => z ≤ q) H0 H locs)
    (h1 : Cond.arrayClass (newarray.typeOf (amAt t)) ∈ amWd) (ht : t < 3) (hn : σ.1.1 < 800000) (h0 : 0 ≤ k) (hk : k.toNatClampNeg < 100000) (hcells : cells + 1 ≤ R.cells) (hslots : slots + k.toNatClampNeg ≤ R.slots) (hd : decode cc pc = .ok (.newarray (amAt t), 2))
    (kk : ∀ H1 : Heap, amRp z (amAd z b adK) dC dI cA (amNew σ (.inr (t, k.toNatClampNeg)) k.toNatClampNeg) H1 → va_S (fun q => z ≤ q) H0 H1 locs → W p l e R s m args below meth c H1 locs (cells + 1) (slots + k.toNatClampNeg) Q (F0 m (pc + 2) lsR (.ref (amAd z b adK (σ.1.1 + 1)) :: rest))) : W p l e R s m args below meth c H locs cells slots Q (F0 m pc lsR (.int k :: rest)) := by
  have e1 : amAd z b adK (σ.1.1 + 1) = z + σ.1.1 := by rw [amAd_in (by omega) (by omega)]; rfl
  have hT : newarray.typeOf (amAt t) = amAT t := by
    match t, ht with
    | 0, _ => rfl
    | 1, _ => rfl
    | 2, _ => rfl
  have hcb : k.toNatClampNeg * componentBytes (newarray.typeOf (amAt t)) ≤ 536870912 := by
    match t, ht with
    | 0, _ => show k.toNatClampNeg * 4 ≤ _; omega
    | 1, _ => show k.toNatClampNeg * 8 ≤ _; omega
    | 2, _ => show k.toNatClampNeg * 1 ≤ _; omega
  refine va_newaK hx hb (hts _ h1) rfl hd rfl (Int32.not_lt.mpr h0) rfl hcb hcells hslots hRp.1 fun H1 cA' g1 g2 g3 g4 g5 => ?_
  have hc : cA' = cA t := by
    have h9 := (hK.2 t _ (amTys_at cA t (by omega))).2
    rw [hT] at g5
    have h10 : s.vm.findClass ("[" ++ (amAT t).toString) = some (cA t) := by
      match t, ht with
      | 0, _ => exact h9
      | 1, _ => exact h9
      | 2, _ => exact h9
    rw [h10] at g5
    exact (Option.some.inj g5).symm
  subst hc
  rw [e1] at kk
  refine kk H1 (hRp.new hn (by rw [g2, hRp.1]) (fun x hx2 => g3 x (by rw [← hRp.1]; exact hx2)) (amCe_newarr (by omega) ?_ hn)) (amVaS.grow hS (by rw [g2, hRp.1]; omega) (fun x hx2 => g3 x (by rw [← hRp.1]; exact hx2)))
  rw [g1, hT]
theorem am_anew {own : String} {idx pc : Nat} {k : Int32} {lsR : Array Slot} {rest : List Value} (hx : p.tables.exec = Jvm.exec) (hb : c.code = cc) (hts : ∀ w ∈ amWd, w.before args s = true) (hown : s.vm.findClass own = some m.cls) (hK : va_K (dC, dI) amCl (amTys cA) s) (hAO : va_AO "RootFence$Poly" s) (hRp : amRp z (amAd z b adK) dC dI cA σ H) (hS : va_S (fun q => z ≤ q) H0 H locs)
    (h1 : Cond.classLink own idx "RootFence$Poly" ∈ amWd) (hn : σ.1.1 < 800000) (h0 : 0 ≤ k) (hk : k.toNatClampNeg < 100000) (hcells : cells + 1 ≤ R.cells) (hslots : slots + k.toNatClampNeg ≤ R.slots) (hd : decode cc pc = .ok (.anewarray idx, 3))
    (kk : ∀ H1 : Heap, amRp z (amAd z b adK) dC dI cA (amNew σ (.inr (3, k.toNatClampNeg)) k.toNatClampNeg) H1 → va_S (fun q => z ≤ q) H0 H1 locs → W p l e R s m args below meth c H1 locs (cells + 1) (slots + k.toNatClampNeg) Q (F0 m (pc + 3) lsR (.ref (amAd z b adK (σ.1.1 + 1)) :: rest))) : W p l e R s m args below meth c H locs cells slots Q (F0 m pc lsR (.int k :: rest)) := by
  have e1 : amAd z b adK (σ.1.1 + 1) = z + σ.1.1 := by rw [amAd_in (by omega) (by omega)]; rfl
  refine W.anew hx hb hown (hts _ h1) (va_AO.use hAO) rfl hd rfl (Int32.not_lt.mpr h0) (by omega) hcells hslots fun cA' kA comp f1 f2 f3 f4 => ?_
  have hc : cA' = cA 3 := by
    obtain ⟨kA', comp', q1, q2, q3, q4⟩ := (hK.2 3 _ (amTys_at cA 3 (by omega))).2
    exact Option.some.inj (f1.symm.trans q4)
  subst hc
  have z1 : (H.push ({ cls := cA 3, slots := Array.replicate k.toNatClampNeg .null, vm := .none } : Cell)).size = H.size + 1 := by rw [Array.size_push]
  have o1 : ∀ q : Nat, q < H.size → (H.push ({ cls := cA 3, slots := Array.replicate k.toNatClampNeg .null, vm := .none } : Cell))[q]? = H[q]? := fun q hq => by rw [Array.getElem?_push, if_neg (Nat.ne_of_lt hq)]
  rw [e1, ← hRp.1] at kk
  refine kk _ (hRp.new hn z1 o1 (amCe_newarr (by omega) ?_ hn)) (amVaS.grow hS (by rw [z1]; omega) o1)
  rw [← hRp.1, Array.getElem?_push_size, arrV_new]
  rfl
/-- behind a call -/
theorem am_after {pc : Nat} {lsR : Array Slot} {st0 rest : List Value} {mc ms : Nat} {Qa : State → Outcome → State → Prop} {free : Addr → Prop} (hr : va_Run p l e R s m args below meth c H locs cells slots mc ms (F0 m pc lsR st0) rest Qa free)
    (kk : ∀ (v : Option Value) (st₀ t : State) (L : List Loc), st₀.heap = H → (∀ q ∈ L, free q.base) → Qa st₀ (.returned v) t → W p l e R s m args below meth c t.heap (locs ++ L) (cells + mc) (slots + ms) Q (F0 m (pc + 3) lsR (v.toList ++ rest))) : W p l e R s m args below meth c H locs cells slots Q (F0 m pc lsR st0) := by
  intro T hT X
  obtain ⟨v, st₀, t, T', L, h0, X', hL, e1, e2, hq, st⟩ := hr T hT X
  obtain ⟨t2, a1, b1⟩ := kk v st₀ t L h0 hL hq T' e1 X'
  exact ⟨t2, st t2 a1, b1⟩
end AMAL
/-! counts only grow -/
theorem amNews_n (k : Nat) : ∀ (N : Nat) (σ : amH), (amNews σ k N).1.1 = σ.1.1 + N ∧ (amNews σ k N).1.2.1 = σ.1.2.1 + N * k
  | 0, σ => ⟨rfl, by simp [amNews]⟩
  | N + 1, σ => by
    obtain ⟨h1, h2⟩ := amNews_n k N σ
    refine ⟨?_, ?_⟩
    · show (amNews σ k N).1.1 + 1 = _
      rw [h1]; omega
    · show (amNews σ k N).1.2.1 + k = _
      rw [h2, Nat.succ_mul]; omega
theorem am_z (a n : Nat) : a = a + (n - n) := by omega
section AMST
variable {p : Program} {l : Launch} {e : Env} {R : Room} {s : State} {m : MethodId} {args : Array Value} {below : List Frame} {meth : Method} {c : Code} {H : Heap} {locs : List Loc} {cells slots : Nat} {Q : State → Prop} {cc : ByteArray} {z b L : Nat} {xs : Nat → Int32} {adK : Nat → Nat} {dC : Nat → ClassId} {dI : Nat → Nat → Nat} {cA : Nat → ClassId} {PS : State → Prop}
set_option maxHeartbeats 4000000 in
theorem am_heap {own nm : String} {i : Instr} {op len pc : Nat} {ps : List Nat} {st st' : List Value} {σ τ : amH} {lsR : Array Slot} (hx : p.tables.exec = Jvm.exec) (hb : c.code = cc) (hn : amLn i = 0 ∨ len = amLn i) (hd : decode cc pc = .ok (i, len)) (hlk : amLk own nm i op ps = true) (hts : ∀ w ∈ amWd, w.before args s = true) (hown : s.vm.findClass own = some m.cls) (hnm : meth.name = nm) (hcl : ∀ c, c < 13 → amClP c)
    (hwo : amWo z b L xs adK dC dI cA PS s) (hRp : amRp z (amAd z b adK) dC dI cA σ H) (hS : va_S (fun q => z ≤ q) s.heap H locs) (hSv : amSv L xs σ)
    (hma : ∀ k n : Int32, ∀ r : List Value, ∀ idx : Nat, i = .multianewarray idx 2 → st = .int k :: .int n :: r → 0 ≤ k → k.toNatClampNeg < 100 → 0 ≤ n → n.toNatClampNeg < 100 → σ.1.1 < 800000 →
      τ = (let τ := amNews (amNew σ (.inr (4, n.toNatClampNeg)) n.toNatClampNeg) k.toNatClampNeg n.toNatClampNeg; (τ.1, τ.2.1, τ.2.2.1, amZ τ.2.2.2 (σ.1.1 + 1) (fun i => if i < n.toNatClampNeg then some (σ.1.1 + 2 + i) else none))) →
      (∀ H1, amRp z (amAd z b adK) dC dI cA τ H1 → va_S (fun q => z ≤ q) s.heap H1 locs → amSv L xs τ → W p l e R s m args below meth c H1 locs (cells + 1 + n.toNatClampNeg) (slots + n.toNatClampNeg + n.toNatClampNeg * k.toNatClampNeg) Q (F0 m (pc + 4) lsR (.ref (amAd z b adK (σ.1.1 + 1)) :: r.map (amCv (amAd z b adK))))) → W p l e R s m args below meth c H locs cells slots Q (F0 m pc lsR (.int k :: .int n :: r.map (amCv (amAd z b adK)))))
    (hRc : cells + (τ.1.1 - σ.1.1) ≤ R.cells) (hRs : slots + (τ.1.2.1 - σ.1.2.1) ≤ R.slots)
    (h : amHeap i op st σ = some (st', τ))
    (kk : ∀ (H1 : Heap) (locs1 : List Loc) (c1 s1 : Nat), σ.1.1 ≤ τ.1.1 → σ.1.2.1 ≤ τ.1.2.1 → c1 = cells + (τ.1.1 - σ.1.1) → s1 = slots + (τ.1.2.1 - σ.1.2.1) → amRp z (amAd z b adK) dC dI cA τ H1 → va_S (fun q => z ≤ q) s.heap H1 locs1 → amSv L xs τ → W p l e R s m args below meth c H1 locs1 c1 s1 Q (F0 m (pc + len) lsR (st'.map (amCv (amAd z b adK))))) : W p l e R s m args below meth c H locs cells slots Q (F0 m pc lsR (st.map (amCv (amAd z b adK)))) := by
  obtain ⟨hK, hNw, hAO, ⟨hX, hbz, hzs⟩, hPS⟩ := hwo
  have hbA : ¬ (fun q => z ≤ q) b := Nat.not_le.mpr hbz
  have hbl : b < s.heap.size := Nat.lt_of_lt_of_le hbz hzs
  have svk : ∀ {f : Nat → Nat → Int32} {q : (Nat → Nat → Int64) × (Nat → Nat → Option Nat)}, (∀ j, f 0 j = σ.2.1 0 j) → amSv L xs (σ.1, f, q) := fun hf => ⟨hSv.1, fun j hj => (hf j).trans (hSv.2.1 j hj), hSv.2.2⟩
  unfold amHeap at h
  split at h
  · -- getfield
    rename_i idx
    have hn : len = 3 := by simpa [amLn] using hn
    subst hn
    simp only [amLk, Bool.and_eq_true, decide_eq_true_eq] at hlk
    split at h
    · rename_i a r
      split at h
      · rename_i hq
        cases h
        exact am_get hx hb hts hown hK hcl hRp (amW_spec hlk.1) hlk.2 hq.1 hq.2.1 hq.2.2.1 hq.2.2.2 hd (kk H locs cells slots (Nat.le_refl _) (Nat.le_refl _) (am_z _ _) (am_z _ _) hRp hS hSv)
      · cases h
    · cases h
  · -- putfield
    rename_i idx
    have hn : len = 3 := by simpa [amLn] using hn
    subst hn
    simp only [amLk, Bool.and_eq_true, decide_eq_true_eq, Bool.or_eq_true] at hlk
    split at h
    · rename_i v a r
      split at h
      · rename_i hq
        have hc13 := (hRp.cell hq.1 hq.2.1).2.obj hq.2.2.1
        have hft := (hcl _ hc13.1).2.2.2.2.2 _ hq.2.2.2
        have hfin : ((amCd (op / 64)).2.1 (op % 64)).2.2.2 = false ∨ (meth.name = "<init>" ∧ (amCd (op / 64)).1 = own) := by
          rcases hlk.2 with h9 | h9
          · exact Or.inl h9
          · exact Or.inr ⟨hnm.trans h9.1, h9.2⟩
        split at h
        · rename_i x e0
          cases h
          rw [e0] at hft
          have ht : amTy (op / 64) (op % 64) = .int := by
            revert hft; cases amTy (op / 64) (op % 64) <;> simp [amFtOk]
          exact am_put (v := .int x) hx hb hts hown hK hcl hRp hS (amW_spec hlk.1.1) hlk.1.2 hfin hq.1 hq.2.1 hq.2.2.1 hq.2.2.2 (by rw [ht]; rfl) (by rw [ht]; rfl) (τ := (σ.1, amU σ.2.1 a (op % 64) x, σ.2.2)) rfl (fun y j hy => by show amU σ.2.1 a (op % 64) x y j = _; unfold amU; rw [if_neg hy]) (fun _ _ _ => rfl) (fun _ _ _ => rfl) (by unfold amFv; rw [e0]; show Value.int (amU σ.2.1 a (op % 64) x a (op % 64)) = _; rw [amU_same]) hd (fun H1 locs1 g1 g2 => kk H1 locs1 cells slots (Nat.le_refl _) (Nat.le_refl _) (am_z _ _) (am_z _ _) g1 g2 (svk (fun j => amU_ne (Nat.ne_of_lt hq.1))))
        · rename_i x e0
          split at h
          · rename_i hx01
            cases h
            rw [e0] at hft
            have ht : amTy (op / 64) (op % 64) = .boolean := by
              revert hft; cases amTy (op / 64) (op % 64) <;> simp [amFtOk]
            exact am_put (v := .int x) hx hb hts hown hK hcl hRp hS (amW_spec hlk.1.1) hlk.1.2 hfin hq.1 hq.2.1 hq.2.2.1 hq.2.2.2 (by rw [ht]; rcases hx01 with rfl | rfl <;> rfl) (by rw [ht]; rcases hx01 with rfl | rfl <;> rfl) (τ := (σ.1, amU σ.2.1 a (op % 64) x, σ.2.2)) rfl (fun y j hy => by show amU σ.2.1 a (op % 64) x y j = _; unfold amU; rw [if_neg hy]) (fun _ _ _ => rfl) (fun _ _ _ => rfl) (by unfold amFv; rw [e0]; show Value.int (amU σ.2.1 a (op % 64) x a (op % 64)) = _; rw [amU_same]) hd (fun H1 locs1 g1 g2 => kk H1 locs1 cells slots (Nat.le_refl _) (Nat.le_refl _) (am_z _ _) (am_z _ _) g1 g2 (svk (fun j => amU_ne (Nat.ne_of_lt hq.1))))
          · cases h
        · rename_i x e0
          cases h
          rw [e0] at hft
          have ht : amTy (op / 64) (op % 64) = .long := by
            revert hft; cases amTy (op / 64) (op % 64) <;> simp [amFtOk]
          exact am_put (v := .long x) hx hb hts hown hK hcl hRp hS (amW_spec hlk.1.1) hlk.1.2 hfin hq.1 hq.2.1 hq.2.2.1 hq.2.2.2 (by rw [ht]; rfl) (by rw [ht]; rfl) (τ := (σ.1, σ.2.1, amU σ.2.2.1 a (op % 64) x, σ.2.2.2)) rfl (fun _ _ _ => rfl) (fun y j hy => by show amU σ.2.2.1 a (op % 64) x y j = _; unfold amU; rw [if_neg hy]) (fun _ _ _ => rfl) (by unfold amFv; rw [e0]; show Value.long (amU σ.2.2.1 a (op % 64) x a (op % 64)) = _; rw [amU_same]) hd (fun H1 locs1 g1 g2 => kk H1 locs1 cells slots (Nat.le_refl _) (Nat.le_refl _) (am_z _ _) (am_z _ _) g1 g2 (svk (fun j => rfl)))
        · rename_i x e0
          cases h
          rw [e0] at hft
          have ht : (∃ q, amTy (op / 64) (op % 64) = .object q) ∨ ∃ q, amTy (op / 64) (op % 64) = .array q := by
            revert hft; cases amTy (op / 64) (op % 64) <;> simp [amFtOk]
          exact am_put (v := .ref x) hx hb hts hown hK hcl hRp hS (amW_spec hlk.1.1) hlk.1.2 hfin hq.1 hq.2.1 hq.2.2.1 hq.2.2.2 (by rcases ht with ⟨q, ht⟩ | ⟨q, ht⟩ <;> rw [ht] <;> rfl) (by rcases ht with ⟨q, ht⟩ | ⟨q, ht⟩ <;> rw [ht] <;> rfl) (τ := (σ.1, σ.2.1, σ.2.2.1, amU σ.2.2.2 a (op % 64) (some x))) rfl (fun _ _ _ => rfl) (fun _ _ _ => rfl) (fun y j hy => by show amU σ.2.2.2 a (op % 64) (some x) y j = _; unfold amU; rw [if_neg hy]) (by unfold amFv; rw [e0]; show va_rf (amU σ.2.2.2 a (op % 64) (some x) a (op % 64)) = _; rw [amU_same]; rfl) hd (fun H1 locs1 g1 g2 => kk H1 locs1 cells slots (Nat.le_refl _) (Nat.le_refl _) (am_z _ _) (am_z _ _) g1 g2 (svk (fun j => rfl)))
        · cases h
      · cases h
    · cases h
  · -- iaload
    have hn : len = 1 := by simpa [amLn] using hn
    subst hn
    split at h
    · rename_i k a r
      split at h
      · rename_i t n e0
        split at h
        · rename_i hq
          cases h
          by_cases ha : a = 0
          · subst ha
            rw [hSv.1] at e0
            cases e0
            have hg := hSv.2.1 _ hq.2.2.2
            have h8 := kk H locs cells slots (Nat.le_refl _) (Nat.le_refl _) (am_z _ _) (am_z _ _) hRp hS hSv
            rw [hg] at h8
            exact va_sld hx hb hX hbl hbA hS (am_in hq.2.2.1 hq.2.2.2) hd h8
          · have ht : t = 0 := by rcases hq.2.1 with h9 | h9; exact h9.1; exact absurd h9 ha
            subst ht
            exact am_ald hx hb hK hRp (Nat.pos_of_ne_zero ha) hq.1 e0 hq.2.2.1 hq.2.2.2 (Or.inl ⟨rfl, rfl⟩) hd (kk H locs cells slots (Nat.le_refl _) (Nat.le_refl _) (am_z _ _) (am_z _ _) hRp hS hSv)
        · cases h
      · cases h
    · cases h
  · -- baload
    have hn : len = 1 := by simpa [amLn] using hn
    subst hn
    split at h
    · rename_i k a r
      split at h
      · rename_i t n e0
        split at h
        · rename_i hq
          cases h
          obtain ⟨q1, q2, q3, q4, q5⟩ := hq
          subst q3
          exact am_ald hx hb hK hRp q1 q2 e0 q4 q5 (Or.inr (Or.inr (Or.inl ⟨rfl, rfl⟩))) hd (kk H locs cells slots (Nat.le_refl _) (Nat.le_refl _) (am_z _ _) (am_z _ _) hRp hS hSv)
        · cases h
      · cases h
    · cases h
  · -- laload
    have hn : len = 1 := by simpa [amLn] using hn
    subst hn
    split at h
    · rename_i k a r
      split at h
      · rename_i t n e0
        split at h
        · rename_i hq
          cases h
          obtain ⟨q1, q2, q3, q4, q5⟩ := hq
          subst q3
          exact am_ald hx hb hK hRp q1 q2 e0 q4 q5 (Or.inr (Or.inl ⟨rfl, rfl⟩)) hd (kk H locs cells slots (Nat.le_refl _) (Nat.le_refl _) (am_z _ _) (am_z _ _) hRp hS hSv)
        · cases h
      · cases h
    · cases h
  · -- aaload
    have hn : len = 1 := by simpa [amLn] using hn
    subst hn
    split at h
    · rename_i k a r
      split at h
      · rename_i t n e0
        split at h
        · rename_i hq
          cases h
          obtain ⟨q1, q2, q3, q4, q5⟩ := hq
          have h8 := kk H locs cells slots (Nat.le_refl _) (Nat.le_refl _) (am_z _ _) (am_z _ _) hRp hS hSv
          refine am_ald hx hb hK hRp q1 q2 e0 q4 q5 (Or.inr (Or.inr (Or.inr ⟨rfl, q3⟩))) hd ?_
          rw [List.map_cons, amCv_rf] at h8
          rcases q3 with rfl | rfl <;> exact h8
        · cases h
      · cases h
    · cases h
  · -- iastore
    have hn : len = 1 := by simpa [amLn] using hn
    subst hn
    split at h
    · rename_i x k a r
      split at h
      · rename_i t n e0
        split at h
        · rename_i hq
          cases h
          obtain ⟨q1, q2, q3, q4, q5⟩ := hq
          subst q3
          have hcell := ((hRp.cell q1 q2).2.arr e0).2
          refine W.iast hx hb hcell (amArrT hK (by omega) n _) (fun q => by cases q) (by rw [arrV_size]; exact am_in q4 q5) rfl rfl hd fun H1 e1 e2 e3 => ?_
          obtain ⟨g1, g2⟩ := am_ast (τ := (σ.1, amU σ.2.1 a k.toNatClampNeg x, σ.2.2)) (v := .int x) hRp hS q1 q2 e0 rfl (fun y j hy => by show amU σ.2.1 a k.toNatClampNeg x y j = _; unfold amU; rw [if_neg hy]) (fun _ _ _ => rfl) (fun _ _ _ => rfl) (by show Value.int (amU σ.2.1 a k.toNatClampNeg x a k.toNatClampNeg) = _; rw [amU_same]) e1 e2 e3
          exact kk H1 _ cells slots (Nat.le_refl _) (Nat.le_refl _) (am_z _ _) (am_z _ _) g1 g2 (svk (fun j => amU_ne (Nat.ne_of_lt q1)))
        · cases h
      · cases h
    · cases h
  · -- bastore
    have hn : len = 1 := by simpa [amLn] using hn
    subst hn
    split at h
    · rename_i x k a r
      split at h
      · rename_i t n e0
        split at h
        · rename_i hq
          cases h
          obtain ⟨q1, q2, q3, q4, q5⟩ := hq
          subst q3
          have hcell := ((hRp.cell q1 q2).2.arr e0).2
          refine W.bast hx hb hcell (amArrT hK (by omega) n _) (fun q => by cases q) (by rw [arrV_size]; exact am_in q4 q5) rfl rfl hd fun H1 e1 e2 e3 => ?_
          obtain ⟨g1, g2⟩ := am_ast (τ := (σ.1, amU σ.2.1 a k.toNatClampNeg x.toInt8.toInt32, σ.2.2)) (v := .int x.toInt8.toInt32) hRp hS q1 q2 e0 rfl (fun y j hy => by show amU σ.2.1 a k.toNatClampNeg x.toInt8.toInt32 y j = _; unfold amU; rw [if_neg hy]) (fun _ _ _ => rfl) (fun _ _ _ => rfl) (by show Value.int (amU σ.2.1 a k.toNatClampNeg x.toInt8.toInt32 a k.toNatClampNeg) = _; rw [amU_same]) e1 e2 e3
          exact kk H1 _ cells slots (Nat.le_refl _) (Nat.le_refl _) (am_z _ _) (am_z _ _) g1 g2 (svk (fun j => amU_ne (Nat.ne_of_lt q1)))
        · cases h
      · cases h
    · cases h
  · -- lastore
    have hn : len = 1 := by simpa [amLn] using hn
    subst hn
    split at h
    · rename_i x k a r
      split at h
      · rename_i t n e0
        split at h
        · rename_i hq
          cases h
          obtain ⟨q1, q2, q3, q4, q5⟩ := hq
          subst q3
          have hcell := ((hRp.cell q1 q2).2.arr e0).2
          refine W.last hx hb hcell (amArrT hK (by omega) n _) (fun q => by cases q) (by rw [arrV_size]; exact am_in q4 q5) rfl rfl hd fun H1 e1 e2 e3 => ?_
          obtain ⟨g1, g2⟩ := am_ast (τ := (σ.1, σ.2.1, amU σ.2.2.1 a k.toNatClampNeg x, σ.2.2.2)) (v := .long x) hRp hS q1 q2 e0 rfl (fun _ _ _ => rfl) (fun y j hy => by show amU σ.2.2.1 a k.toNatClampNeg x y j = _; unfold amU; rw [if_neg hy]) (fun _ _ _ => rfl) (by show Value.long (amU σ.2.2.1 a k.toNatClampNeg x a k.toNatClampNeg) = _; rw [amU_same]) e1 e2 e3
          exact kk H1 _ cells slots (Nat.le_refl _) (Nat.le_refl _) (am_z _ _) (am_z _ _) g1 g2 (svk (fun j => rfl))
        · cases h
      · cases h
    · cases h
  · -- aastore
    have hn : len = 1 := by simpa [amLn] using hn
    subst hn
    split at h
    · rename_i y k a r
      split at h
      · rename_i t n e0
        split at h
        · rename_i hq
          cases h
          obtain ⟨q1, q2, q3, q4, q5, q6, q7, q8⟩ := hq
          subst q6
          have hcell := ((hRp.cell q1 q2).2.arr e0).2
          obtain ⟨-, cellV, v1, v2, v3, -⟩ := (hRp.cell q3 q4).2.obj q5
          have hcls := hK.1 7 _ (hcl 7 (by omega)).2.2.2.2.1
          obtain ⟨kA, comp, k1, k2, k3, -⟩ := (hK.2 3 _ (amTys_at cA 3 (by omega))).2
          have hcomp : comp = dC 7 := Option.some.inj (k3.symm.trans hcls.2.1)
          subst hcomp
          obtain ⟨kC, hkC, -⟩ := hcls.2.2
          refine W.aast hx hb hcell (fun q h => by cases h) (fun h => by cases h) k1 k2 rfl hkC ⟨Int32.not_lt.mpr q7, by rw [arrV_size]; exact q8⟩ v1 (fun q h => by rw [v3] at h; cases h) (by rw [v2]; exact hkC) (by rw [v2]; exact va_assign hcls.2) rfl rfl hd fun H1 e1 e2 e3 => ?_
          obtain ⟨g1, g2⟩ := am_ast (τ := (σ.1, σ.2.1, σ.2.2.1, amU σ.2.2.2 a k.toNatClampNeg (some y))) (v := .ref (amAd z b adK y)) hRp hS q1 q2 e0 rfl (fun _ _ _ => rfl) (fun _ _ _ => rfl) (fun u j hy => by show amU σ.2.2.2 a k.toNatClampNeg (some y) u j = _; unfold amU; rw [if_neg hy]) (by show va_rf ((amU σ.2.2.2 a k.toNatClampNeg (some y) a k.toNatClampNeg).map _) = _; rw [amU_same]; rfl) e1 e2 e3
          exact kk H1 _ cells slots (Nat.le_refl _) (Nat.le_refl _) (am_z _ _) (am_z _ _) g1 g2 (svk (fun j => rfl))
        · cases h
      · cases h
    · cases h
  · -- arraylength
    have hn : len = 1 := by simpa [amLn] using hn
    subst hn
    split at h
    · rename_i a r
      split at h
      · rename_i t n e0
        split at h
        · rename_i hq
          cases h
          have h8 := kk H locs cells slots (Nat.le_refl _) (Nat.le_refl _) (am_z _ _) (am_z _ _) hRp hS hSv
          by_cases ha : a = 0
          · subst ha
            rw [hSv.1] at e0
            cases e0
            exact va_slen hx hb hX hbl hbA hS hd h8
          · have ha' : 0 < a := Nat.pos_of_ne_zero ha
            obtain ⟨ht5, hcell⟩ := (hRp.cell ha' hq.1).2.arr e0
            exact W.alen (n := Int32.ofNat n) hx hb hcell (amArrT hK ht5 n _) (by rw [arrV_size] <;> rfl) rfl rfl hd h8
        · cases h
      · cases h
    · cases h
  · -- new
    rename_i idx
    have hn : len = 3 := by simpa [amLn] using hn
    subst hn
    simp only [amLk, Bool.and_eq_true] at hlk
    split at h
    · rename_i hq
      cases h
      rw [amNew_n, Nat.add_sub_cancel_left] at hRc
      rw [amNew_q, Nat.add_sub_cancel_left] at hRs
      exact am_new hx hb hts hown hK hcl hRp hS (amW_spec hlk.1.1) (amW_spec hlk.1.2) (amW_spec hlk.2) hq.1 hq.2 hRc hRs hd (fun H1 g1 g2 => kk H1 locs _ _ (by rw [amNew_n]; omega) (by rw [amNew_q]; omega) (by rw [amNew_n]; omega) (by rw [amNew_q]; omega) g1 g2 hSv.new)
    · cases h
  · -- newarray
    rename_i t
    have hn : len = 2 := by simpa [amLn] using hn
    subst hn
    simp only [amLk, Bool.and_eq_true, decide_eq_true_eq] at hlk
    obtain ⟨rfl, hlk⟩ := hlk
    split at h
    · rename_i k r
      split at h
      · rename_i hq
        cases h
        rw [amNew_n, Nat.add_sub_cancel_left] at hRc
        rw [amNew_q, Nat.add_sub_cancel_left] at hRs
        exact am_newarr hx hb hts hK hRp hS (amW_spec hlk) hq.1 hq.2.1 hq.2.2.1 hq.2.2.2 hRc hRs hd (fun H1 g1 g2 => kk H1 locs _ _ (by rw [amNew_n]; omega) (by rw [amNew_q]; omega) (by rw [amNew_n]; omega) (by rw [amNew_q]; omega) g1 g2 hSv.new)
      · cases h
    · cases h
  · -- anewarray
    rename_i idx
    have hn : len = 3 := by simpa [amLn] using hn
    subst hn
    simp only [amLk] at hlk
    split at h
    · rename_i k r
      split at h
      · rename_i hq
        cases h
        obtain ⟨q0, hq⟩ := hq
        subst q0
        rw [amNew_n, Nat.add_sub_cancel_left] at hRc
        rw [amNew_q, Nat.add_sub_cancel_left] at hRs
        exact am_anew hx hb hts hown hK hAO hRp hS (amW_spec hlk) hq.1 hq.2.1 hq.2.2 hRc hRs hd (fun H1 g1 g2 => kk H1 locs _ _ (by rw [amNew_n]; omega) (by rw [amNew_q]; omega) (by rw [amNew_n]; omega) (by rw [amNew_q]; omega) g1 g2 hSv.new)
      · cases h
    · cases h
  · -- multianewarray
    rename_i idx
    have hn : len = 4 := by simpa [amLn] using hn
    subst hn
    split at h
    · rename_i k n r
      split at h
      · rename_i hq
        obtain ⟨q0, q1, q2, q3, q4, q5⟩ := hq
        cases h
        have hnn := amNews_n k.toNatClampNeg n.toNatClampNeg (amNew σ (.inr (4, n.toNatClampNeg)) n.toNatClampNeg)
        rw [amNew_n, amNew_q] at hnn
        exact hma k n r idx rfl rfl q2 q3 q4 q5 q1 rfl (fun H1 g1 g2 g3 => kk H1 locs _ _ (by show _ ≤ (amNews _ _ _).1.1; rw [hnn.1]; omega) (by show _ ≤ (amNews _ _ _).1.2.1; rw [hnn.2]; omega) (by show _ = cells + ((amNews _ _ _).1.1 - _); rw [hnn.1]; omega) (by show _ = slots + ((amNews _ _ _).1.2.1 - _); rw [hnn.2]; omega) g1 g2 g3)
      · cases h
    · cases h
  · cases h
end AMST
