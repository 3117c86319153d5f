/-! the heap of the abstract machine and the machine's -/
def amWd : List Cond := lw_tbl.filter goodWord
theorem amWd_of {w : Cond} (h : w ∈ lw_tbl) (g : goodWord w = true) : w ∈ amWd := List.mem_filter.mpr ⟨h, g⟩
theorem amW_spec {p : Nat} {w : Cond} (h : amW p w = true) : w ∈ amWd := by
  unfold amW at h
  simp only [Bool.and_eq_true, decide_eq_true_eq] at h
  exact amWd_of (amTk_in _ (List.mem_of_getElem? h.1)) h.2
def amAT : Nat → FieldType
  | 0 => .int
  | 1 => .long
  | 2 => .byte
  | 3 => .object "RootFence$Poly"
  | _ => .array .long
/-- a field's kind and its type -/
def amFtOk (q : Nat) (t : FieldType) : Bool := match q, t with
  | 0, .int => true
  | 1, .long => true
  | 2, .object _ => true
  | 2, .array _ => true
  | 3, .boolean => true
  | _, _ => false
def amClP (c : Nat) : Prop := (∀ w ∈ u_ws (amCd c).1 (amCd c).2.1 (amCd c).2.2, w ∈ amWd) ∧ (amCd c).2.2 = amFn c ∧ (∀ k, k < amFn c → parseFieldDescriptor ((amCd c).2.1 k).2.2.1 = some (amTy c k)) ∧
  (∀ a, a < amFn c → ∀ b, b < amFn c → a ≠ b → ((amCd c).2.1 a).2.1 ≠ ((amCd c).2.1 b).2.1) ∧ amCl[c]? = some (amCd c) ∧ ∀ k, k < amFn c → amFtOk (amFk c k) (amTy c k) = true
def amAd (z b : Nat) (adK : Nat → Nat) (k : Nat) : Nat := if k = 0 then b else if 1000000 ≤ k then adK (k - 1000000) else z + (k - 1)
theorem amAd_in {z b : Nat} {adK : Nat → Nat} {k : Nat} (h0 : 0 < k) (h1 : k < 1000000) : amAd z b adK k = z + (k - 1) := by
  unfold amAd
  rw [if_neg (by omega), if_neg (by omega)]
def amAv (ad : Nat → Nat) (t a i : Nat) (σ : amH) : Value := match t with
  | 1 => .long (σ.2.2.1 a i)
  | 3 => va_rf ((σ.2.2.2 a i).map ad)
  | 4 => va_rf ((σ.2.2.2 a i).map ad)
  | _ => .int (σ.2.1 a i)
def amCe (ad : Nat → Nat) (dC : Nat → ClassId) (dI : Nat → Nat → Nat) (cA : Nat → ClassId) (σ : amH) (a : Nat) (H : Heap) : Prop := match σ.1.2.2 a with
  | .inl c => c < 13 ∧ t_OB (ad a) (dC c) (amFn c) (dI c) H (fun k => amCv ad (amFv c a k σ))
  | .inr (t, n) => t < 5 ∧ H[ad a]? = some (arrV (cA t) n (fun i => amAv ad t a i σ))
def amRp (z : Nat) (ad : Nat → Nat) (dC : Nat → ClassId) (dI : Nat → Nat → Nat) (cA : Nat → ClassId) (σ : amH) (H : Heap) : Prop := H.size = z + σ.1.1 ∧ σ.1.1 < 900000 ∧ ∀ a, 0 < a → a ≤ σ.1.1 → amCe ad dC dI cA σ a H
theorem amCe.obj {ad : Nat → Nat} {dC : Nat → ClassId} {dI : Nat → Nat → Nat} {cA : Nat → ClassId} {σ : amH} {a c : Nat} {H : Heap} (h : amCe ad dC dI cA σ a H) (hk : σ.1.2.2 a = .inl c) : c < 13 ∧ t_OB (ad a) (dC c) (amFn c) (dI c) H (fun k => amCv ad (amFv c a k σ)) := by
  unfold amCe at h
  rw [hk] at h
  exact h
theorem amCe.arr {ad : Nat → Nat} {dC : Nat → ClassId} {dI : Nat → Nat → Nat} {cA : Nat → ClassId} {σ : amH} {a t n : Nat} {H : Heap} (h : amCe ad dC dI cA σ a H) (hk : σ.1.2.2 a = .inr (t, n)) : t < 5 ∧ H[ad a]? = some (arrV (cA t) n (fun i => amAv ad t a i σ)) := by
  unfold amCe at h
  rw [hk] at h
  exact h
theorem amCe.lt {ad : Nat → Nat} {dC : Nat → ClassId} {dI : Nat → Nat → Nat} {cA : Nat → ClassId} {σ : amH} {a : Nat} {H : Heap} (h : amCe ad dC dI cA σ a H) : ad a < H.size := by
  cases hk : σ.1.2.2 a with
  | inl c =>
    obtain ⟨-, cell, h1, -⟩ := h.obj hk
    exact (Array.getElem?_eq_some_iff.mp h1).1
  | inr q =>
    obtain ⟨t, n⟩ := q
    exact (Array.getElem?_eq_some_iff.mp (h.arr hk).2).1
theorem amCe.kept {ad : Nat → Nat} {dC : Nat → ClassId} {dI : Nat → Nat → Nat} {cA : Nat → ClassId} {σ τ : amH} {a : Nat} {H H1 : Heap} (h : amCe ad dC dI cA σ a H) (hK : τ.1.2.2 a = σ.1.2.2 a) (hI : ∀ k, τ.2.1 a k = σ.2.1 a k) (hJ : ∀ k, τ.2.2.1 a k = σ.2.2.1 a k) (hR : ∀ k, τ.2.2.2 a k = σ.2.2.2 a k) (hH : H1[ad a]? = H[ad a]?) : amCe ad dC dI cA τ a H1 := by
  have hF : ∀ c k, amFv c a k τ = amFv c a k σ := fun c k => by unfold amFv; rw [hI, hJ, hR]
  have hV : ∀ t i, amAv ad t a i τ = amAv ad t a i σ := fun t i => by unfold amAv; rw [hI, hJ, hR]
  unfold amCe at h ⊢
  rw [hK]
  split
  · rename_i c e
    rw [e] at h
    exact ⟨h.1, (h.2.kept hH).to (fun k _ => by rw [hF])⟩
  · rename_i t n e
    rw [e] at h
    refine ⟨h.1, ?_⟩
    rw [hH]
    have h2 := h.2
    rw [h2]
    congr 2
    funext i
    rw [hV]
theorem amU_same {α : Type} {f : Nat → Nat → α} {a k : Nat} {x : α} : amU f a k x a k = x := by simp [amU]
theorem amU_ne {α : Type} {f : Nat → Nat → α} {a k b i : Nat} {x : α} (h : b ≠ a) : amU f a k x b i = f b i := by simp [amU, h]
theorem amU_ni {α : Type} {f : Nat → Nat → α} {a k b i : Nat} {x : α} (h : i ≠ k) : amU f a k x b i = f b i := by simp [amU, h]
theorem amCv_rf (ad : Nat → Nat) (r : Option Nat) : amCv ad (va_rf r) = va_rf (r.map ad) := by cases r <;> rfl
/-- what is behind a change of one cell -/
theorem amRp.set {z b : Nat} {adK : Nat → Nat} {dC : Nat → ClassId} {dI : Nat → Nat → Nat} {cA : Nat → ClassId} {σ τ : amH} {H H1 : Heap} {a : Nat} (h : amRp z (amAd z b adK) dC dI cA σ H) (ha : 0 < a) (ha2 : a ≤ σ.1.1) (hS : τ.1 = σ.1) (hI : ∀ x k, x ≠ a → τ.2.1 x k = σ.2.1 x k) (hJ : ∀ x k, x ≠ a → τ.2.2.1 x k = σ.2.2.1 x k) (hR : ∀ x k, x ≠ a → τ.2.2.2 x k = σ.2.2.2 x k)
    (hz : H1.size = H.size) (hq : ∀ q, q ≠ amAd z b adK a → H1[q]? = H[q]?) (hn : amCe (amAd z b adK) dC dI cA τ a H1) : amRp z (amAd z b adK) dC dI cA τ H1 := by
  refine ⟨by rw [hz, hS]; exact h.1, by rw [hS]; exact h.2.1, fun x h1 h2 => ?_⟩
  by_cases e : x = a
  · subst e; exact hn
  · rw [hS] at h2
    have := h.2.1
    refine (h.2.2 x h1 h2).kept (by rw [hS]) (fun k => hI x k e) (fun k => hJ x k e) (fun k => hR x k e) (hq _ ?_)
    rw [amAd_in h1 (by omega), amAd_in ha (by omega)]
    omega
def amTys (cA : Nat → ClassId) : List (ClassId × FieldType) := [(cA 0, .int), (cA 1, .long), (cA 2, .byte), (cA 3, .object "RootFence$Poly"), (cA 4, .array .long)]
theorem amTys_at (cA : Nat → ClassId) : ∀ t, t < 5 → (amTys cA)[t]? = some (cA t, amAT t)
  | 0, _ => rfl
  | 1, _ => rfl
  | 2, _ => rfl
  | 3, _ => rfl
  | 4, _ => rfl
section AMHP
variable {p : Program} {l : Launch} {e : Env} {R : Room} {s : State} {m : MethodId} {args : Array Value} {below : List Frame} {meth : Method} {c : Code} {H : Heap} {locs : List Loc} {cells slots : Nat} {Q : State → Prop} {cc : ByteArray} {z b : Nat} {adK : Nat → Nat} {dC : Nat → ClassId} {dI : Nat → Nat → Nat} {cA : Nat → ClassId} {σ : amH} {H0 : Heap}
theorem amRp.cell (h : amRp z (amAd z b adK) dC dI cA σ H) {a : Nat} (h0 : 0 < a) (h1 : a ≤ σ.1.1) : z ≤ amAd z b adK a ∧ amCe (amAd z b adK) dC dI cA σ a H := by
  have := h.2.1
  exact ⟨by rw [amAd_in h0 (by omega)]; omega, h.2.2 a h0 h1⟩
/-- getfield -/
theorem am_get {own : String} {idx ci k a pc : Nat} {lsR : Array Slot} {rest : List Value} (hx : p.tables.exec = Jvm.exec) (hb : c.code = cc) (hts : ∀ w ∈ amWd, w.before args s = true) (hown : s.vm.findClass own = some m.cls) (hK : va_K (dC, dI) amCl (amTys cA) s) (hcl : ∀ c, c < 13 → amClP c) (hRp : amRp z (amAd z b adK) dC dI cA σ H)
    (hlink : Cond.fieldLink own idx (amCd ci).1 ((amCd ci).2.1 k).2.1 ((amCd ci).2.1 k).2.2.1 ∈ amWd) (hdecl : ((amCd ci).2.1 k).1 = (amCd ci).1) (ha : 0 < a) (ha2 : a ≤ σ.1.1) (hk : σ.1.2.2 a = .inl ci) (hkf : k < amFn ci) (hd : decode cc pc = .ok (.getfield idx, 3))
    (kk : W p l e R s m args below meth c H locs cells slots Q (F0 m (pc + 3) lsR (amCv (amAd z b adK) (amFv ci a k σ) :: rest))) : W p l e R s m args below meth c H locs cells slots Q (F0 m pc lsR (.ref (amAd z b adK a) :: rest)) := by
  obtain ⟨hc13, cell, q1, q2, q3, q4⟩ := (hRp.cell ha ha2).2.obj hk
  obtain ⟨hin, hN, -, -, hat, -⟩ := hcl ci hc13
  obtain ⟨hS, hfc, kC, hkC, hkind⟩ := hK.1 ci _ hat
  obtain ⟨cf, kf, fi, f, hi, hsl⟩ := hS k (by rw [hN]; exact hkf)
  refine W.getf (v := amCv (amAd z b adK) (amFv ci a k σ)) hx hb hown (hts _ hlink) (by rw [← hdecl]; exact hi) (u_facts hfc hkC (u_lays hts hin (by rw [hN]; exact hkf)) hi).1 q1 (by rw [q3]; exact fun h => by cases h) ?_ rfl rfl hd kk
  rw [hsl, q4 k hkf]
/-- putfield -/
theorem am_put {own : String} {idx ci k a pc : Nat} {lsR : Array Slot} {rest : List Value} {v : Value} {τ : amH} (hx : p.tables.exec = Jvm.exec) (hb : c.code = cc) (hts : ∀ w ∈ amWd, w.before args s = true) (hown : s.vm.findClass own = some m.cls) (hK : va_K (dC, dI) amCl (amTys cA) s) (hcl : ∀ c, c < 13 → amClP c) (hRp : amRp z (amAd z b adK) dC dI cA σ H) (hS0 : va_S (fun q => z ≤ q) H0 H locs)
    (hlink : Cond.fieldLink own idx (amCd ci).1 ((amCd ci).2.1 k).2.1 ((amCd ci).2.1 k).2.2.1 ∈ amWd) (hdecl : ((amCd ci).2.1 k).1 = (amCd ci).1) (hfin : ((amCd ci).2.1 k).2.2.2 = false ∨ (meth.name = "<init>" ∧ (amCd ci).1 = own)) (ha : 0 < a) (ha2 : a ≤ σ.1.1) (hk : σ.1.2.2 a = .inl ci) (hkf : k < amFn ci)
    (hn : narrow (amTy ci k) (amCv (amAd z b adK) v) = amCv (amAd z b adK) v) (hfit : fits (amTy ci k) (amCv (amAd z b adK) v) = true)
    (hτS : τ.1 = σ.1) (hτI : ∀ x j, ¬ (x = a ∧ j = k) → τ.2.1 x j = σ.2.1 x j) (hτJ : ∀ x j, ¬ (x = a ∧ j = k) → τ.2.2.1 x j = σ.2.2.1 x j) (hτR : ∀ x j, ¬ (x = a ∧ j = k) → τ.2.2.2 x j = σ.2.2.2 x j) (hτv : amFv ci a k τ = v) (hd : decode cc pc = .ok (.putfield idx, 3))
    (kk : ∀ (H1 : Heap) (locs1 : List Loc), amRp z (amAd z b adK) dC dI cA τ H1 → va_S (fun q => z ≤ q) H0 H1 locs1 → W p l e R s m args below meth c H1 locs1 cells slots Q (F0 m (pc + 3) lsR rest)) : W p l e R s m args below meth c H locs cells slots Q (F0 m pc lsR (amCv (amAd z b adK) v :: .ref (amAd z b adK a) :: rest)) := by
  obtain ⟨hza, hce⟩ := hRp.cell ha ha2
  obtain ⟨hc13, cell, q1, q2, q3, q4⟩ := hce.obj hk
  obtain ⟨hin, hN, hty, hnm, hat, -⟩ := hcl ci hc13
  have hap := va_apart (own := own) (cl := amCl) (N := (amCd ci).2.2) (T := (amCd ci).2.1) (C := (amCd ci).1) hts hin (amTy ci) (by rw [hN]; exact hty) (by rw [hN]; exact hnm) hK hat
  rw [hN] at hap
  obtain ⟨hS, hfc, kC, hkC, hkind⟩ := hK.1 ci _ hat
  have hkN : k < (amCd ci).2.2 := by rw [hN]; exact hkf
  obtain ⟨cf, kf, fi, f, hi, hsl⟩ := hS k hkN
  have hst := (u_facts hfc hkC (u_lays hts hin hkN) hi).1
  have hlt : f.slot < cell.slots.size := by rw [hsl]; exact k2_hasslot (q4 k hkf)
  have h6 := u_fits hfc hkC hkind (u_lays hts hin hkN) hi (hty k hkf) hn hfit
  have fin : ∀ H' : Heap, H'[amAd z b adK a]? = some (cell.setSlot f.slot (amCv (amAd z b adK) v)) → H'.size = H.size → (∀ q, q ≠ amAd z b adK a → H'[q]? = H[q]?) → W p l e R s m args below meth c H' (locs ++ [⟨amAd z b adK a, f.slot⟩]) cells slots Q (F0 m (pc + 3) lsR rest) := by
    intro H' e1 e2 e3
    rw [hsl] at e1
    refine kk H' _ (hRp.set ha ha2 hτS (fun x j hx => hτI x j (fun q => hx q.1)) (fun x j hx => hτJ x j (fun q => hx q.1)) (fun x j hx => hτR x j (fun q => hx q.1)) e2 e3 ?_) (hS0.put e2 e3 hza)
    unfold amCe
    rw [hτS, hk]
    refine ⟨hc13, t_OB.to (V := updV (fun k => amCv (amAd z b adK) (amFv ci a k σ)) k (amCv (amAd z b adK) v)) ⟨_, e1, q2, q3, t_set q4 hap hkf _⟩ (fun j _ => ?_)⟩
    show (if j = k then _ else _) = amCv (amAd z b adK) (amFv ci a j τ)
    by_cases hj : j = k
    · subst hj
      rw [if_pos rfl, hτv]
    · rw [if_neg hj]
      congr 1
      unfold amFv
      rw [hτI a j (fun q => hj q.2), hτJ a j (fun q => hj q.2), hτR a j (fun q => hj q.2)]
  have hl2 := hts _ (hin _ (u_in_lay hkN))
  unfold u_lay at hl2
  by_cases hf : ((amCd ci).2.1 k).2.2.2 = true
  · rw [if_pos hf] at hl2
    rcases hfin with hfin | ⟨hinit, hown2⟩
    · rw [hf] at hfin; cases hfin
    · have hcf : m.cls = cf := by
        obtain ⟨_, _, c', _, _, _, -, -, hf', -, -, -, hown3, -⟩ := Cond.laysFinal_spec hl2
        have e1 : c' = cf := by have := hi.symm.trans hf'; simp at this; exact this.1.symm
        rw [hdecl, hown2] at hown3
        rw [← e1]; exact Option.some.inj (hown.symm.trans hown3)
      exact W.putFinK hx hb hown (hts _ hlink) (by rw [← hdecl]; exact hi) hst hcf hinit (by rw [q2]; exact h6) q1 q3 hlt rfl rfl hd fin
  · rw [if_neg hf] at hl2
    have h7 := u_store hfc hkC hkind hl2 hi (hty k hkf) hn hfit
    exact W.putK hx hb (f := f) ⟨hown, hts _ hlink, ⟨_, _, _, by rw [← hdecl]; exact hi⟩, hst⟩ (by rw [q2]; exact h7) q1 q3 hlt rfl rfl hd fin
theorem am_in {i : Int32} {n : Nat} (h0 : 0 ≤ i) (h1 : i.toNatClampNeg < n) : ¬ (i < 0 ∨ n ≤ i.toNatClampNeg) := by
  rintro (h | h)
  · exact absurd h (Int32.not_lt.mpr h0)
  · omega
theorem amArrT {U : State} (hK : va_K (dC, dI) amCl (amTys cA) U) {t : Nat} (ht : t < 5) : ArrOfT U (cA t) (amAT t) := (hK.2 t _ (amTys_at cA t ht)).1
/-- loads out of arrays -/
theorem am_ald {a n pc t : Nat} {k : Int32} {lsR : Array Slot} {rest : List Value} {ins : Instr} (hx : p.tables.exec = Jvm.exec) (hb : c.code = cc) (hK : va_K (dC, dI) amCl (amTys cA) s) (hRp : amRp z (amAd z b adK) dC dI cA σ H) (ha : 0 < a) (ha2 : a ≤ σ.1.1) (hk : σ.1.2.2 a = .inr (t, n)) (h0 : 0 ≤ k) (h1 : k.toNatClampNeg < n)
    (hins : (ins = .iaload ∧ t = 0) ∨ (ins = .laload ∧ t = 1) ∨ (ins = .baload ∧ t = 2) ∨ (ins = .aaload ∧ (t = 3 ∨ t = 4))) (hd : decode cc pc = .ok (ins, 1))
    (kk : W p l e R s m args below meth c H locs cells slots Q (F0 m (pc + 1) lsR (amAv (amAd z b adK) t a k.toNatClampNeg σ :: rest))) : W p l e R s m args below meth c H locs cells slots Q (F0 m pc lsR (.int k :: .ref (amAd z b adK a) :: rest)) := by
  obtain ⟨ht5, hcell⟩ := (hRp.cell ha ha2).2.arr hk
  have hin : ¬ (k < 0 ∨ (arrV (cA t) n (fun i => amAv (amAd z b adK) t a i σ)).slots.size ≤ k.toNatClampNeg) := by
    rw [arrV_size]; exact am_in h0 h1
  have hrd := arrV_read (cA t) (fun i => amAv (amAd z b adK) t a i σ) h1
  have hT := amArrT hK ht5 n (fun i => amAv (amAd z b adK) t a i σ)
  rcases hins with ⟨rfl, rfl⟩ | ⟨rfl, rfl⟩ | ⟨rfl, rfl⟩ | ⟨rfl, ht⟩
  · exact W.iald hx hb hcell hT (fun q => by cases q) hin hrd rfl rfl hd kk
  · exact W.lald hx hb hcell hT (fun q => by cases q) hin hrd rfl rfl hd kk
  · exact W.bald hx hb hcell hT (fun q => by cases q) hin hrd rfl rfl hd kk
  · exact W.aald (ty := amAT t) hx hb hcell hT (by rcases ht with rfl | rfl <;> rfl) (fun q => by cases q) hin hrd rfl rfl hd kk
/-- the array behind a store -/
theorem am_ast {a n t k : Nat} {v : Value} {τ : amH} {H1 : Heap} {locs : List Loc} (hRp : amRp z (amAd z b adK) dC dI cA σ H) (hS0 : va_S (fun q => z ≤ q) H0 H locs) (ha : 0 < a) (ha2 : a ≤ σ.1.1) (hk : σ.1.2.2 a = .inr (t, n))
    (hτS : τ.1 = σ.1) (hτI : ∀ x j, ¬ (x = a ∧ j = k) → τ.2.1 x j = σ.2.1 x j) (hτJ : ∀ x j, ¬ (x = a ∧ j = k) → τ.2.2.1 x j = σ.2.2.1 x j) (hτR : ∀ x j, ¬ (x = a ∧ j = k) → τ.2.2.2 x j = σ.2.2.2 x j) (hτv : amAv (amAd z b adK) t a k τ = v)
    (e1 : H1[amAd z b adK a]? = some ((arrV (cA t) n (fun i => amAv (amAd z b adK) t a i σ)).setSlot k v)) (e2 : H1.size = H.size) (e3 : ∀ q, q ≠ amAd z b adK a → H1[q]? = H[q]?) : amRp z (amAd z b adK) dC dI cA τ H1 ∧ va_S (fun q => z ≤ q) H0 H1 (locs ++ [⟨amAd z b adK a, k⟩]) := by
  obtain ⟨hza, hce⟩ := hRp.cell ha ha2
  obtain ⟨ht5, hcell⟩ := hce.arr hk
  refine ⟨hRp.set ha ha2 hτS (fun x j hx => hτI x j (fun q => hx q.1)) (fun x j hx => hτJ x j (fun q => hx q.1)) (fun x j hx => hτR x j (fun q => hx q.1)) e2 e3 ?_, hS0.put e2 e3 hza⟩
  unfold amCe
  rw [hτS, hk]
  refine ⟨ht5, ?_⟩
  rw [e1, arrV_store]
  congr 2
  funext j
  show (if j = k then v else _) = _
  by_cases hj : j = k
  · subst hj
    rw [if_pos rfl, hτv]
  · rw [if_neg hj]
    unfold amAv
    rw [hτI a j (fun q => hj q.2), hτJ a j (fun q => hj q.2), hτR a j (fun q => hj q.2)]
end AMHP
