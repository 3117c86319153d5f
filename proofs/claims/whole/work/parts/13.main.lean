/-! the strings, and the rows of rows: see their own parts -/
def amS1 : String × Nat × String := ("", 0, "")
def amPS (z : Nat) (adK adV : Nat → Nat) (U : State) : Prop := (∀ i, i < 12 → vk_R (amSc.getD i amS1).1 (amSc.getD i amS1).2.1 (amSc.getD i amS1).2.2 (adK i) U) ∧ vk_S 12 amSl ((List.range 12).map amTx) adK adV (fun q => z ≤ q) U U.heap ∧
  va_Z "java/lang/String" "COMPACT_STRINGS" "Z" (.int 1) (fun q => z ≤ q) U U.heap ∧ va_Zq "jdk/internal/util/Preconditions" "SIOOBE_FORMATTER" "Ljava/util/function/BiFunction;" (fun q => z ≤ q) U U.heap
section AMR
variable {p : Program} {l : Launch} {e : Env} {R : Room} {s : State} {m : MethodId} {args : Array Value} {below : List Frame} {meth : Method} {c : Code} {H : Heap} {locs : List Loc} {cells slots : Nat} {Q : State → Prop} {cc : ByteArray} {z b L : Nat} {xs : Nat → Int32} {adK adV : Nat → Nat} {dC : Nat → ClassId} {dI : Nat → Nat → Nat} {cA : Nat → ClassId}
theorem am_str1 {own : String} {idx i pc nL : Nat} {lsR : Array Slot} {rest : List Value} (hx : p.tables.exec = Jvm.exec) (hb : c.code = cc) (hml : c.maxLocals = nL) (hL : lsR.size = nL) (hown : s.vm.findClass own = some m.cls) (hts : ∀ w ∈ amWd, w.before args s = true) (hlink : Cond.methodLink own idx yJ0_length_8abf5 ∈ amWd) (hPS : amPS z adK adV s) (hS : va_S (fun q => z ≤ q) s.heap H locs) (hRf : 8 ≤ R.frames) (hRl : 512 ≤ R.locals) (hRc : cells ≤ R.cells) (hRs : slots ≤ R.slots) (hi : i < 12) (hcat : (rest.map fun v => v.category).sum ≤ 8) (hd : decode cc pc = .ok (.invokevirtual idx, 3))
    (kk : W p l e R s m args below meth c H locs cells slots Q (F0 m (pc + 3) lsR (.int (nI (amTx i).length) :: rest))) : W p l e R s m args below meth c H locs cells slots Q (F0 m pc lsR (.ref (adK i) :: rest)) :=
  jz_virt (i := i) (As := []) (rest := rest) hx hb hml hL hown hts (jz_length hi) rfl (show (parseMethodDescriptor yJ0_length_8abf5.desc).map (fun d => d.parameters.length) = some 0 from by decide +kernel) jz_lenC hlink jz_lenI jz_lenS hPS.2 hS hi (by omega) (by omega) hRc hRs hcat hd kk
theorem am_str2 {own : String} {idx i pc nL : Nat} {k : Int32} {lsR : Array Slot} {rest : List Value} (hx : p.tables.exec = Jvm.exec) (hb : c.code = cc) (hml : c.maxLocals = nL) (hL : lsR.size = nL) (hown : s.vm.findClass own = some m.cls) (hts : ∀ w ∈ amWd, w.before args s = true) (hlink : Cond.methodLink own idx yJ0_charAt_5068e ∈ amWd) (hPS : amPS z adK adV s) (hS : va_S (fun q => z ≤ q) s.heap H locs) (hRf : 8 ≤ R.frames) (hRl : 512 ≤ R.locals) (hRc : cells ≤ R.cells) (hRs : slots ≤ R.slots) (hi : i < 12) (h0 : 0 ≤ k) (hk : k.toNatClampNeg < (amTx i).length) (hcat : (rest.map fun v => v.category).sum ≤ 8) (hd : decode cc pc = .ok (.invokevirtual idx, 3))
    (kk : W p l e R s m args below meth c H locs cells slots Q (F0 m (pc + 3) lsR (.int ((amTx i).getD k.toNatClampNeg 0) :: rest))) : W p l e R s m args below meth c H locs cells slots Q (F0 m pc lsR (.int k :: .ref (adK i) :: rest)) :=
  jz_virt (i := i) (As := [.int k]) (rest := rest) hx hb hml hL hown hts (jz_charAt hi h0 hk) rfl (show (parseMethodDescriptor yJ0_charAt_5068e.desc).map (fun d => d.parameters.length) = some 1 from by decide +kernel) jz_chC hlink jz_chI jz_chS hPS.2 hS hi (by omega) (by omega) hRc hRs hcat hd kk
theorem am_multi {own nm : String} {op pc idx : Nat} {ps : List Nat} {k n : Int32} {r : List Value} {σ τ : amH} {lsR : Array Slot} (hx : p.tables.exec = Jvm.exec) (hb : c.code = cc) (hd : decode cc pc = .ok (.multianewarray idx 2, 4)) (hlk : amLk own nm (.multianewarray idx 2) op ps = true) (hts : ∀ w ∈ amWd, w.before args s = true) (hown : s.vm.findClass own = some m.cls)
    (hK : va_K (dC, dI) amCl (amTys cA) s) (hov : (Cond.arrayOver (.array .long)).before args s = true) (hRp : amRp z (amAd z b adK) dC dI cA σ H) (hS : va_S (fun q => z ≤ q) s.heap H locs) (hSv : amSv L xs σ) (h0 : 0 ≤ k) (hk : k.toNatClampNeg < 100) (h1 : 0 ≤ n) (hn : n.toNatClampNeg < 100) (hσ : σ.1.1 < 800000)
    (hRc : cells + (1 + n.toNatClampNeg) ≤ R.cells) (hRs : slots + (n.toNatClampNeg + n.toNatClampNeg * k.toNatClampNeg) ≤ R.slots)
    (hτ : τ = (let τ := amNews (amNew σ (.inr (4, n.toNatClampNeg)) n.toNatClampNeg) k.toNatClampNeg n.toNatClampNeg; (τ.1, τ.2.1, τ.2.2.1, amZ τ.2.2.2 (σ.1.1 + 1) (fun i => if i < n.toNatClampNeg then some (σ.1.1 + 2 + i) else none))))
    (kk : ∀ H1, amRp z (amAd z b adK) dC dI cA τ H1 → va_S (fun q => z ≤ q) s.heap H1 locs → amSv L xs τ → W p l e R s m args below meth c H1 locs (cells + 1 + n.toNatClampNeg) (slots + n.toNatClampNeg + n.toNatClampNeg * k.toNatClampNeg) Q (F0 m (pc + 4) lsR (.ref (amAd z b adK (σ.1.1 + 1)) :: r.map (amCv (amAd z b adK))))) : W p l e R s m args below meth c H locs cells slots Q (F0 m pc lsR (.int k :: .int n :: r.map (amCv (amAd z b adK)))) := by
  have hw : amW (ps.getD 0 0) (.classLink own idx ("[" ++ (FieldType.array .long).toString)) = true ∧ amW (ps.getD 2 0) (.arrayClass .long) = true := by
    have := hlk
    unfold amLk at this
    exact (Bool.and_eq_true _ _).mp this
  intro T hT X
  subst hT
  subst hb
  obtain ⟨vm₁, cI, comp, f1, f2, X1, st⟩ := mg_step X hx hown (hts _ (amW_spec hw.1)) hov (hts _ (amW_spec hw.2)) (g := F0 m pc lsR (.int k :: .int n :: r.map (amCv (amAd z b adK)))) rfl hd rfl (Int32.not_lt.mpr h1) (Int32.not_lt.mpr h0) hn hk hRc hRs
  have hcI : cI = cA 4 := by
    have h9 := (hK.2 4 _ (amTys_at cA 4 (by omega))).2
    exact Option.some.inj (f1.symm.trans h9)
  have hco : comp = cA 1 := by
    have h9 : s.vm.findClass ("[" ++ (amAT 1).toString) = some (cA 1) := (hK.2 1 _ (amTys_at cA 1 (by omega))).2
    exact Option.some.inj (f2.symm.trans h9)
  subst hcI
  subst hco
  have hFt := mgF_sum (T.setVm vm₁) (cA 4) n.toNatClampNeg { cls := cA 1, slots := Array.replicate k.toNatClampNeg (.long 0), vm := .none } n.toNatClampNeg
  have hFo := fun (x : Nat) (hx : x < T.heap.size) => mgF_old (T.setVm vm₁) (cA 4) n.toNatClampNeg { cls := cA 1, slots := Array.replicate k.toNatClampNeg (.long 0), vm := .none } (x := x) hx n.toNatClampNeg
  have hFr := mgF_row (T.setVm vm₁) (cA 4) n.toNatClampNeg { cls := cA 1, slots := Array.replicate k.toNatClampNeg (.long 0), vm := .none } n.toNatClampNeg
  rw [arrV_new] at hFr
  have g1 := mu_rp hRp hn hσ hτ hFt.1 hFo hFt.2.1 (fun j hj => by rw [← arrV_new]; rw [← arrV_new] at hFr; exact hFr j hj)
  have g2 : va_S (fun q => z ≤ q) s.heap (mgF (T.setVm vm₁) (cA 4) n.toNatClampNeg { cls := cA 1, slots := Array.replicate k.toNatClampNeg (.long 0), vm := .none } n.toNatClampNeg).heap locs := amVaS.grow hS (by rw [hFt.1]; show T.heap.size ≤ T.heap.size + 1 + _; omega) hFo
  have g3 : amSv L xs τ := by
    have h7 : amSv L xs (amNews (amNew σ (.inr (4, n.toNatClampNeg)) n.toNatClampNeg) k.toNatClampNeg n.toNatClampNeg) := amNews_sv _ _ _ hSv.new
    rw [hτ]
    exact ⟨h7.1, h7.2.1, h7.2.2⟩
  have e1 : amAd z b adK (σ.1.1 + 1) = T.heap.size := by rw [amAd_in (by omega) (by omega), hRp.1]; rfl
  rw [e1] at kk
  obtain ⟨t2, a1, b1⟩ := kk _ g1 g2 g3 _ rfl X1
  exact ⟨t2, st t2 a1, b1⟩
end AMR
