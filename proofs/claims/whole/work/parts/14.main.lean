/-! a run of the abstract machine is a run of the machine -/
def amPQ (z : Nat) (adK adV : Nat → Nat) (U : State) : Prop := (Cond.arrayOver (.array .long)).before #[] U = true ∧ amPS z adK adV U
theorem amAO_moved {u U : State} (hvm : u.vm.Alike U.vm) (h : (Cond.arrayOver (.array .long)).before #[] u = true) : (Cond.arrayOver (.array .long)).before #[] U = true := by
  obtain ⟨comp, c, k, h1, h2, h3, h4, h5⟩ := arrayOverA_spec h
  obtain ⟨k', hk', he⟩ := hvm.2.2 _ _ h3
  have hi : (U.vm.classes.findIdx? fun (x : Class) => match x.kind with | .array component _ => component == comp | _ => false) = some c := by
    have e1 := va_idx_bare U.vm comp
    have e2 := va_idx_bare u.vm comp
    have e3 : U.vm.bare = u.vm.bare := by first | exact hvm.bare_eq | exact hvm.bare_eq.symm
    rw [e3] at e1
    exact e1.symm.trans (e2.trans h2)
  have hkind : k'.kind = .array comp (.array .long) := by rw [he]; exact h4
  have f1 : U.vm.findClass (FieldType.array .long).toString = some comp := by rw [hvm.findClass]; exact h1
  have f2 : U.vm.findClass ("[" ++ (FieldType.array .long).toString) = some c := by rw [hvm.findClass]; exact h5
  unfold Cond.before Cond.holds
  simp only [Cond.value]
  rw [f1, Option.bind_some]
  refine (congrArg (fun o : Option Nat => (o.bind (fun c => (U.vm.classes[c]?).map fun (k : Class) => match k.kind with | .array _ ty => decide (ty = FieldType.array .long) && decide (U.vm.findClass ("[" ++ (FieldType.array .long).toString) = some c) | _ => false) == some true)) hi).trans ?_
  simp [hk', hkind, f2]
section AMW
variable {z b L : Nat} {xs : Nat → Int32} {adK adV : Nat → Nat} {dC : Nat → ClassId} {dI : Nat → Nat → Nat} {cA : Nat → ClassId}
theorem amPS.to {s U : State} (h : amPS z adK adV s) (hal : s.vm.Alike U.vm) (hr : ∀ own k tx a, vk_R own k tx a s → vk_R own k tx a U) (hH : ∀ q, q < s.heap.size → ¬ z ≤ q → U.heap[q]? = s.heap[q]?) : amPS z adK adV U :=
  ⟨fun i hi => hr _ _ _ _ (h.1 i hi), (vk_S.moved hal h.2.1).kept hH, (va_Z.moved hal h.2.2.1).kept hH, (va_Zq.moved hal h.2.2.2).kept hH⟩
theorem amWo.to {s U : State} (h : amWo z b L xs adK dC dI cA (amPQ z adK adV) s) (hW : s.WarmedH U.vm) (hz : s.heap.size ≤ U.heap.size) (hH : ∀ q, q < s.heap.size → ¬ z ≤ q → U.heap[q]? = s.heap[q]?) : amWo z b L xs adK dC dI cA (amPQ z adK adV) U := by
  obtain ⟨h1, h2, h3, ⟨h4, h5, h6⟩, h7, h8⟩ := h
  refine ⟨va_K.moved hW.alike h1, fun q hq => va_Nw.warmM hW (h2 q hq), va_AO.moved hW.alike h3, ⟨(va_X.moved hW.alike h4).kept (hH b (Nat.lt_of_lt_of_le h5 h6) (Nat.not_le.mpr h5)), h5, Nat.le_trans h6 hz⟩, amAO_moved hW.alike h7, h8.to hW.alike (fun _ _ _ _ h => vk_R.warm hW h) hH⟩
theorem amWo.same {s U : State} (h : amWo z b L xs adK dC dI cA (amPQ z adK adV) s) (hv : U.vm = s.vm) (hh : U.heap = s.heap) : amWo z b L xs adK dC dI cA (amPQ z adK adV) U := by
  obtain ⟨h1, h2, h3, ⟨h4, h5, h6⟩, h7, h8⟩ := h
  have hal : s.vm.Alike U.vm := by rw [hv]; exact Vm.Alike.refl _
  refine ⟨va_K.moved hal h1, fun q hq => va_Nw.same rfl hv.symm (h2 q hq), va_AO.moved hal h3, ⟨(va_X.moved hal h4).kept (by rw [hh]), h5, by rw [hh]; exact h6⟩, amAO_moved hal h7, h8.to hal (fun _ _ _ _ h => vk_R.same hv h) (fun q _ _ => by rw [hh])⟩
end AMW
theorem amCat_take {st : List Value} {n : Nat} : ((st.take n).reverse).reverse ++ st.drop n = st := by
  rw [List.reverse_reverse, List.take_append_drop]
/-- what a call wants -/
theorem amCall_spec {i : Instr} {j k : Nat} {st as rest : List Value} {K : Nat → amK} (h : amCall i j k st K = some (as, rest)) : 0 < k ∧ k < 900 ∧ amRk k < amRk j ∧ amCat rest ≤ 8 ∧ (amFlat as).length ≤ amMx k ∧ st = as.reverse ++ rest ∧ as.length = amNa k ∧
    ((∃ idx, i = .invokestatic idx ∧ amSt? k = true) ∨ ∃ a t, as = .ref a :: t ∧ amSt? k = false ∧ ((∃ idx, i = .invokevirtual idx ∧ 0 < a ∧ K a = .inl (amCi k)) ∨ ∃ idx, i = .invokespecial idx)) := by
  have hlen : ∀ {n : Nat}, n ≤ st.length → ((st.take n).reverse).length = n := fun hn => by rw [List.length_reverse, List.length_take]; omega
  unfold amCall at h
  split at h
  · split at h
    · rename_i hq
      cases h
      exact ⟨hq.1, hq.2.1, hq.2.2.2.2.1, hq.2.2.2.2.2.1, hq.2.2.2.2.2.2, amCat_take.symm, hlen hq.2.2.2.1, Or.inl ⟨_, rfl, hq.2.2.1⟩⟩
    · cases h
  · split at h
    · rename_i hq
      split at h
      · rename_i a t e0
        split at h
        · rename_i ha
          cases h
          refine ⟨hq.1, hq.2.1, hq.2.2.2.2.1, hq.2.2.2.2.2.1, by rw [← e0]; exact hq.2.2.2.2.2.2, by rw [← e0]; exact amCat_take.symm, by rw [← e0]; exact hlen hq.2.2.2.1, Or.inr ⟨a, t, rfl, hq.2.2.1, Or.inl ⟨_, rfl, ha⟩⟩⟩
        · cases h
      · cases h
    · cases h
  · split at h
    · rename_i hq
      split at h
      · rename_i a t e0
        cases h
        refine ⟨hq.1, hq.2.1, hq.2.2.2.2.1, hq.2.2.2.2.2.1, by rw [← e0]; exact hq.2.2.2.2.2.2, by rw [← e0]; exact amCat_take.symm, by rw [← e0]; exact hlen hq.2.2.2.1, Or.inr ⟨a, t, rfl, hq.2.2.1, Or.inr ⟨_, rfl⟩⟩⟩
      · cases h
    · cases h
  · cases h
def amQc (z b L : Nat) (xs : Nat → Int32) (adK : Nat → Nat) (dC : Nat → ClassId) (dI : Nat → Nat → Nat) (cA : Nat → ClassId) (v : Option Value) (τ : amH) : Array Value → State → Outcome → State → Prop := fun _ st o t => o = .returned (v.map (amCv (amAd z b adK))) ∧ amRp z (amAd z b adK) dC dI cA τ t.heap ∧ va_F (fun q => z ≤ q) st t ∧ amSv L xs τ
def amBc (z b L : Nat) (xs : Nat → Int32) (adK adV : Nat → Nat) (dC : Nat → ClassId) (dI : Nat → Nat → Nat) (cA : Nat → ClassId) (σ : amH) : State → Prop := fun U => amRp z (amAd z b adK) dC dI cA σ U.heap ∧ amWo z b L xs adK dC dI cA (amPQ z adK adV) U
theorem amStr_bound {z b i : Nat} {adK : Nat → Nat} (h0 : 1000000 ≤ i) : amAd z b adK i = adK (i - 1000000) := by
  unfold amAd
  rw [if_neg (by omega), if_pos h0]
section AMMAIN
variable {z b L : Nat} {xs : Nat → Int32} {adK adV : Nat → Nat} {dC : Nat → ClassId} {dI : Nat → Nat → Nat} {cA : Nat → ClassId}
/-- what is said of f steps -/
def amGo (l : Launch) (z b L : Nat) (xs : Nat → Int32) (adK adV : Nat → Nat) (dC : Nat → ClassId) (dI : Nat → Nat → Nat) (cA : Nat → ClassId) (f : Nat) : Prop := ∀ (j pc : Nat) (ls : amL) (st : List Value) (σ : amH) (v : Option Value) (τ : amH), amX f j pc ls st σ = some (v, τ) → ∀ {p : Program} {e : Env} {R : Room} {s : State} {m : MethodId} {args : Array Value} {below : List Frame} {meth : Method} {c : Code} {H : Heap} {locs : List Loc} {cells slots : Nat} {Q : State → Prop} {lsR : Array Slot},
  p.tables.exec = Jvm.exec → c.code = amB j → c.maxLocals = amMx j → s.vm.findClass (amY j).cls = some m.cls → (∀ w ∈ amWd, w.before args s = true) → amWo z b L xs adK dC dI cA (amPQ z adK adV) s → meth.name = (amY j).name → amRk j ≤ R.frames → 64 * amRk j ≤ R.locals → 0 < amRk j → cells + (τ.1.1 - σ.1.1) ≤ R.cells → slots + (τ.1.2.1 - σ.1.2.1) ≤ R.slots →
  amRp z (amAd z b adK) dC dI cA σ H → va_S (fun q => z ≤ q) s.heap H locs → amSv L xs σ → amLs (amAd z b adK) lsR (amMx j) ls →
  (∀ (i : Instr) (pc' len : Nat) (st' : List Value) (lsR' : Array Slot) (H' : Heap) (locs' : List Loc) (c' s' : Nat), decode (amB j) pc' = .ok (i, len) → (amLn i = 0 ∨ len = amLn i) → amRet i (amRt j) st' = some v → amRp z (amAd z b adK) dC dI cA τ H' → va_S (fun q => z ≤ q) s.heap H' locs' → amSv L xs τ → c' = cells + (τ.1.1 - σ.1.1) → s' = slots + (τ.1.2.1 - σ.1.2.1) → W p l e R s m args below meth c H' locs' c' s' Q (F0 m pc' lsR' (st'.map (amCv (amAd z b adK))))) →
  W p l e R s m args below meth c H locs cells slots Q (F0 m pc lsR (st.map (amCv (amAd z b adK))))
theorem am_met {l : Launch} {f k : Nat} {as : List Value} {σ τ : amH} {v : Option Value} (ih : amGo l z b L xs adK adV dC dI cA f) (hk0 : 0 < k) (hkN : k < amN) (hlen : (amFlat as).length ≤ amMx k) (hSv : amSv L xs σ) (h : amX f k 0 (amEntry k as) [] σ = some (v, τ)) :
    Met l (amY k) (amWs k) { frames := amRk k, cells := τ.1.1 - σ.1.1, slots := τ.1.2.1 - σ.1.2.1, locals := 64 * amRk k } (va_Pc (as.map (amCv (amAd z b adK))) (amBc z b L xs adK adV dC dI cA σ)) (amQc z b L xs adK dC dI cA v τ) (τ.1.1 - σ.1.1) (τ.1.2.1 - σ.1.2.1) (fun q => z ≤ q) := by
  obtain ⟨t1, t2, t3, t4, t5, t6, t7, t8, t9⟩ := amMk_spec hk0 hkN
  refine Met.ofW (cc := amB k) (maxL := amMx k) (ret := amRt k) t3 rfl ?_
  intro p e s m args below meth c s₁ B hml hv
  obtain ⟨rfl, hRp, hWo⟩ := hv
  have hx := B.exec
  have hb := B.bytes
  have hr := B.returns
  have hts0 := atoms_spec (ws := amWs k) B.pre
  have hts : ∀ w ∈ amWd, w.before (as.map (amCv (amAd z b adK))).toArray s = true := fun w hw => hts0 w (List.mem_cons_of_mem _ hw)
  have hown : s.vm.findClass (amY k).cls = some m.cls := findClass_of_methodNamed B.named
  have hlocks := B.notSynchronized
  have hin : meth.name = (amY k).name := (name_of_methodNamed B.named B.method).1
  rw [lg_entry_eq]
  have hL := amEntry_ls (amAd z b adK) hlen
  refine ih k 0 (amEntry k as) [] σ v τ h hx hb hml hown hts hWo hin (Nat.le_refl _) (Nat.le_refl _) t9 (by rw [Nat.zero_add]; exact Nat.le_refl _) (by rw [Nat.zero_add]; exact Nat.le_refl _) hRp va_S.rf hSv hL ?_
  intro i pc' len st' lsR' H' locs' c' s' hd hn hret hRp' hS' hSv' hc' hs'
  rw [Nat.zero_add] at hc' hs'
  subst hc' hs'
  have fin : ∀ t : State, t.heap = H' → amRp z (amAd z b adK) dC dI cA τ t.heap ∧ va_F (fun q => z ≤ q) s t ∧ amSv L xs τ := fun t ht => ⟨by rw [ht]; exact hRp', hS'.F ht, hSv'⟩
  unfold amRet at hret
  split at hret
  · have hn : len = 1 := by simpa [amLn] using hn
    subst hn
    split at hret
    · rename_i x ert
      cases hret
      exact W.iret hx hb (hr.trans ert) (fun t ht _ => ⟨rfl, fin t ht⟩) hS'.2.2 hd
    · rename_i x ert
      split at hret
      · rename_i h01
        cases hret
        exact W.zret hx hb (hr.trans ert) (by rcases h01 with rfl | rfl <;> rfl) (fun t ht _ => ⟨rfl, fin t ht⟩) hS'.2.2 hd
      · cases hret
    · cases hret
  · have hn : len = 1 := by simpa [amLn] using hn
    subst hn
    split at hret
    · rename_i x ert
      cases hret
      exact W.lret hx hb (hr.trans ert) (fun t ht _ => ⟨rfl, fin t ht⟩) hS'.2.2 hd
    · cases hret
  · have hn : len = 1 := by simpa [amLn] using hn
    subst hn
    split at hret
    · rename_i x n ert
      cases hret
      exact W.aret hx hb (hr.trans ert) (Or.inl ⟨_, rfl⟩) (Or.inr ⟨_, rfl⟩) (fun t ht _ => ⟨rfl, fin t ht⟩) hS'.2.2 hd
    · rename_i n ert
      cases hret
      exact W.aret hx hb (hr.trans ert) (Or.inl ⟨_, rfl⟩) (Or.inl rfl) (fun t ht _ => ⟨rfl, fin t ht⟩) hS'.2.2 hd
    · cases hret
  · have hn : len = 1 := by simpa [amLn] using hn
    subst hn
    split at hret
    · rename_i ert
      cases hret
      exact W.vret hx hb (hr.trans ert) (fun t ht _ => ⟨rfl, fin t ht⟩) hS'.2.2 hd
    · cases hret
  · cases hret
set_option maxHeartbeats 4000000 in
theorem am_run (l : Launch) (hcl : ∀ c, c < 13 → amClP c) (hmaxc : Cond.code Lib.MathLoose.max_long.x Lib.MathLoose.max_long.code 4 (some .long) ∈ amWd ∧ Cond.static Lib.MathLoose.max_long.x ∈ amWd ∧ Cond.initialized "java/lang/Math" ∈ amWd) (habsc : Cond.code Lib.MathLoose.abs_long.x Lib.MathLoose.abs_long.code 2 (some .long) ∈ amWd ∧ Cond.static Lib.MathLoose.abs_long.x ∈ amWd ∧ Cond.initialized "java/lang/Math" ∈ amWd) : ∀ f, amGo l z b L xs adK adV dC dI cA f
  | 0 => fun j pc ls st σ v τ h => by cases h
  | f + 1 => by
    have ih := am_run l hcl hmaxc habsc f
    intro j pc ls st σ v τ h p e R s m args below meth c H locs cells slots Q lsR hx hb hml hown hts hWo hnm hRf hRl hrk hRc hRs hRp hS hSv hL kret
    unfold amX at h
    split at h
    · cases h
    · rename_i i len op hent
      obtain ⟨hd, ⟨ps, hlk⟩, hn⟩ := amEnt_ok hent
      split at h
      · rename_i v1 hret
        cases h
        exact kret i pc len st lsR H locs cells slots hd hn hret hRp hS hSv (am_z _ _) (am_z _ _)
      · split at h
        · rename_i as rest hcall
          split at h
          · rename_i v1 σ1 hX1
            have m1 := amX_n _ _ _ _ _ _ _ _ hX1
            have m2 := amX_n _ _ _ _ _ _ _ _ h
            obtain ⟨k0, k900, krk, kcat, klen, kst, kna, kcase⟩ := amCall_spec hcall
            have hkN : op < amN := by
              rcases Nat.lt_or_ge op amN with q | q
              · exact q
              · exfalso
                have hf : f ≠ 0 := by rintro rfl; cases hX1
                obtain ⟨f', rfl⟩ := Nat.exists_eq_succ_of_ne_zero hf
                unfold amX at hX1
                split at hX1
                · cases hX1
                · rename_i he2
                  have := amEnt_lt he2
                  omega
            obtain ⟨t1, t2, t3, t4, t5, t6, t7, t8, t9⟩ := amMk_spec k0 hkN
            have hM := am_met (as := as) ih k0 hkN klen hSv hX1
            have hcl3 : len = 3 := by
              rcases kcase with ⟨idx, rfl, -⟩ | ⟨a, t, -, -, (⟨idx, rfl, -⟩ | ⟨idx, rfl⟩)⟩ <;> simpa [amLn] using hn
            subst hcl3
            have hblind : FrameBlind (va_Pc (as.map (amCv (amAd z b adK))) (amBc z b L xs adK adV dC dI cA σ)) := fun a U g mk q => ⟨q.1, q.2.1, q.2.2.same rfl rfl⟩
            have hpre : ∀ U : State, U.heap = H → s.WarmedH U.vm → amBc z b L xs adK adV dC dI cA σ U := fun U hU hW => ⟨by rw [hU]; exact hRp, hWo.to hW (by rw [hU]; exact hS.1) (fun q g1 g2 => by rw [hU]; exact hS.2.1 q g1 g2)⟩
            have hcode : (Cond.code (amY op) (amB op) (amMx op) (amRt op)).before args s = true := hts _ (amWd_of t1 rfl)
            have hini := hts _ t2
            have hpay : ∀ w ∈ amWs op, ∀ (a' : Array Value) (U : State), s.WarmedH U.vm → w.before a' U = true := pay_in hts (amWs_good k0 hkN)
            have hroom1 : amRk op + 1 ≤ R.frames := by omega
            have hroom2 : 8 + (amMx op + 11) + 64 * amRk op ≤ R.locals := by omega
            have hcm : cells + (σ1.1.1 - σ.1.1) ≤ R.cells ∧ slots + (σ1.1.2.1 - σ.1.2.1) ≤ R.slots := ⟨by omega, by omega⟩
            have hcatR : 2 * 0 + ((rest.map (amCv (amAd z b adK))).map fun v => v.category).sum ≤ 8 := by rw [amCv_cats]; omega
            have behind : ∀ {st0 : List Value} {aa : Array Value}, va_Run p l e R s m args below meth c H locs cells slots (σ1.1.1 - σ.1.1) (σ1.1.2.1 - σ.1.2.1) (F0 m pc lsR st0) (rest.map (amCv (amAd z b adK))) (amQc z b L xs adK dC dI cA v1 σ1 aa) (fun q => z ≤ q) → W p l e R s m args below meth c H locs cells slots Q (F0 m pc lsR st0) := by
              intro st0 aa hr
              refine am_after hr fun v0 st₀ t Lo h0 hLo hq => ?_
              obtain ⟨q1, q2, ⟨q3, q4⟩, hSv1⟩ := hq
              cases q1
              rw [h0] at q3 q4
              have hS1 : va_S (fun q => z ≤ q) s.heap t.heap (locs ++ Lo) := ⟨Nat.le_trans hS.1 q3, fun q g1 g2 => by rw [q4 q (Nat.lt_of_lt_of_le g1 hS.1) g2]; exact hS.2.1 q g1 g2, fun q hq => by
                rcases List.mem_append.mp hq with g | g
                · exact hS.2.2 q g
                · exact hLo q g⟩
              have e1 : (v1.map (amCv (amAd z b adK))).toList ++ rest.map (amCv (amAd z b adK)) = (v1.toList ++ rest).map (amCv (amAd z b adK)) := by cases v1 <;> rfl
              rw [e1]
              refine ih j (pc + 3) ls (v1.toList ++ rest) σ1 v τ h hx hb hml hown hts hWo hnm hRf hRl hrk (by omega) (by omega) q2 hS1 hSv1 hL ?_
              intro i' pc' len' st' lsR' H' locs' c' s' g1 g2 g3 g4 g5 g6 g7 g8
              exact kret i' pc' len' st' lsR' H' locs' c' s' g1 g2 g3 g4 g5 g6 (by omega) (by omega)
            have hfix : CallFix p m c (amB j) (amMx j) s args amWd (amY j).cls := ⟨hx, hb, hml, hown, hts⟩
            rw [kst, List.map_append, List.map_reverse]
            have hnest : ∀ {own : String} {idx : Nat} {ps : List Nat}, amLink op own idx ps = true → (Cond.methodLinkNest own idx (amY op) "RootFence").before args s = true ∨ (Cond.methodLink own idx (amY op)).before args s = true := by
              intro own idx ps hl
              unfold amLink at hl
              split at hl
              · simp only [decide_eq_true_eq] at hl
                exact Or.inl (va_Nw.use rfl (hWo.2.1 _ (List.mem_of_getElem? hl)))
              · exact Or.inr (hts _ (amW_spec hl))
            rcases kcase with ⟨idx, rfl, hst⟩ | ⟨a, t, rfl, hst, kc⟩
            · -- static
              rw [hst] at t6
              have hna : ∀ sig, parseMethodDescriptor (amY op).desc = some sig → (as.map (amCv (amAd z b adK))).length = sig.parameters.length := fun sig hs => by
                rw [hs] at t6
                have t6 : some (sig.parameters.length + 0) = some (amNa op) := t6
                rw [List.length_map, kna]
                exact (Option.some.inj t6).symm
              simp only [amLk] at hlk
              rw [if_neg (by omega), if_neg (by omega)] at hlk
              simp only [Bool.and_eq_true] at hlk
              rcases hnest hlk.1 with hl | hl
              · exact behind (va_runSN (As := as.map (amCv (amAd z b adK))) hfix hM ⟨⟨⟨rfl, rfl, hroom1, hroom2, hpay, List.mem_cons_self⟩, hcode, hini, ⟨t4, t5⟩, hna, hl⟩, hts _ (amW_spec hlk.2), trivial⟩ ⟨hblind, fun U hU hW => ⟨rfl, hpre U hU hW⟩⟩ rfl rfl hL.1 rfl hcatR hd hcm)
              · exact behind (va_runS (As := as.map (amCv (amAd z b adK))) hfix hM ⟨⟨rfl, rfl, hroom1, hroom2, hpay, List.mem_cons_self, hcode, hini, ⟨t4, t5⟩, hna, hl⟩, hts _ (amW_spec hlk.2)⟩ ⟨hblind, fun U hU hW => ⟨rfl, hpre U hU hW⟩⟩ rfl rfl hL.1 rfl hcatR hd hcm)
            · rw [hst] at t6
              have hna : ∀ sig, parseMethodDescriptor (amY op).desc = some sig → (t.map (amCv (amAd z b adK))).length = sig.parameters.length := fun sig hs => by
                rw [hs] at t6
                have t6 : some (sig.parameters.length + 1) = some (amNa op) := t6
                have t6 := Option.some.inj t6
                rw [List.length_map]
                rw [List.length_cons] at kna
                omega
              have estk : (List.map (amCv (amAd z b adK)) (Value.ref a :: t)).reverse ++ rest.map (amCv (amAd z b adK)) = (t.map (amCv (amAd z b adK))).reverse ++ .ref (amAd z b adK a) :: rest.map (amCv (amAd z b adK)) := by
                rw [List.map_cons, List.reverse_cons, List.append_assoc]; rfl
              rw [estk]
              rcases kc with ⟨idx, rfl, ha, hKa⟩ | ⟨idx, rfl⟩
              · -- virtual
                simp only [amLk] at hlk
                rw [if_neg (by omega), if_neg (by omega), if_neg (by omega)] at hlk
                simp only [Bool.and_eq_true, decide_eq_true_eq] at hlk
                have hl : (Cond.methodLink (amY j).cls idx (amY op)).before args s = true := by
                  have h9 := hlk.1.1.2
                  unfold amLink at h9
                  rw [if_neg (by rw [hlk.1.1.1]; decide)] at h9
                  exact hts _ (amW_spec h9)
                have hale : a ≤ σ.1.1 := hSv.le hKa
                obtain ⟨hc13, cellB, b1, b2, b3, -⟩ := (hRp.cell ha hale).2.obj hKa
                have hcls : (amCd (amCi op)).1 = (amY op).cls := by
                  rcases t8 with q | q | q
                  · rw [hst] at q; cases q
                  · omega
                  · exact q
                have hfc := (hWo.1.1 _ _ (hcl _ hc13).2.2.2.2.1).2.1
                rw [hcls] at hfc
                exact behind (va_runV (C := (amY op).cls) (As := t.map (amCv (amAd z b adK))) hfix hM ⟨⟨rfl, rfl, hroom1, hroom2, hpay, List.mem_cons_self, hcode, hini, ⟨t4, t5⟩, hna, hl⟩, hts _ (amW_spec hlk.1.2), hts _ (amW_spec hlk.2)⟩ ⟨hblind, ⟨cellB, b1, by rw [b3]; rfl, by rw [b2]; exact hfc⟩, fun U hU hW => ⟨rfl, hpre U hU hW⟩⟩ rfl rfl hL.1 rfl hcatR hd hcm)
              · -- special
                simp only [amLk] at hlk
                rw [if_neg (by omega)] at hlk
                simp only [Bool.and_eq_true, decide_eq_true_eq] at hlk
                have hrn : amRt op = none := hlk.2
                rw [hrn] at hcode
                have hmem : Cond.code (amY op) (amB op) (amMx op) none ∈ amWs op := by rw [← hrn]; exact List.mem_cons_self
                rcases hnest hlk.1.1.1 with hl | hl
                · exact behind (va_runIN (As := t.map (amCv (amAd z b adK))) hfix hM ⟨⟨⟨rfl, rfl, hroom1, hroom2, hpay, hmem⟩, hcode, hini, ⟨t4, t5⟩, hna, hl⟩, hlk.1.2, hts _ (amW_spec hlk.1.1.2)⟩ ⟨hblind, fun U hU hW => ⟨rfl, hpre U hU hW⟩⟩ rfl rfl hL.1 rfl hcatR hd hcm)
                · exact behind (va_runI (As := t.map (amCv (amAd z b adK))) hfix hM ⟨⟨rfl, rfl, hroom1, hroom2, hpay, hmem, hcode, hini, ⟨t4, t5⟩, hna, hl⟩, hlk.1.2, hts _ (amW_spec hlk.1.1.2)⟩ ⟨hblind, fun U hU hW => ⟨rfl, hpre U hU hW⟩⟩ rfl rfl hL.1 rfl hcatR hd hcm)
          · cases h
        · split at h
          · rename_i pc' ls' st' hpure
            refine am_pure (own := (amY j).cls) (ad := amAd z b adK) (nL := amMx j) hx hb hn hd hL hml ?_ ?_ ?_ hown ?_ ?_ ?_ (by omega) (by omega) (by omega) (by omega) ?_ ?_ hpure ?_
            · rintro idx rfl
              exact hts _ (amW_spec hlk)
            · rintro idx rfl
              exact hts _ (amW_spec hlk)
            · rintro idx rfl hop
              simp only [amLk, Bool.and_eq_true, decide_eq_true_eq] at hlk
              have hR := hWo.2.2.2.2.2.1 op hop
              refine ⟨(amSc.getD op amS1).2.2, ?_⟩
              rw [amStr_bound (by omega), Nat.add_sub_cancel_left, ← hlk.1, ← hlk.2]
              exact hR
            · rintro idx rfl rfl
              simp only [amLk] at hlk
              exact ⟨hts _ (amW_spec hlk), hts _ hmaxc.2.1, hts _ hmaxc.2.2, hts _ hmaxc.1⟩
            · rintro idx rfl rfl
              simp only [amLk] at hlk
              exact ⟨hts _ (amW_spec hlk), hts _ habsc.2.1, hts _ habsc.2.2, hts _ habsc.1⟩
            · rintro idx rfl rfl
              simp only [amLk, if_true, Bool.and_eq_true] at hlk
              exact ⟨hts _ (amW_spec hlk.1.1), hts _ (amW_spec hlk.1.2), hts _ (amW_spec hlk.2)⟩
            · rintro idx rfl a r rfl hcat h1 h2 kk
              have hlen3 : len = 3 := by simpa [amLn] using hn
              subst hlen3
              simp only [amLk] at hlk
              have hrk8 := amStr_ok hent (Or.inl rfl)
              rw [amStr_bound h1]
              exact am_str1 hx hb hml hL.1 hown hts (amW_spec hlk) hWo.2.2.2.2.2 hS (by omega) (by omega) (by omega) (by omega) (by omega) (by rw [amCv_cats]; exact hcat) hd kk
            · rintro idx rfl a k r rfl hcat h1 h2 h3 h4 kk
              have hlen3 : len = 3 := by simpa [amLn] using hn
              subst hlen3
              simp only [amLk] at hlk
              have hrk8 := amStr_ok hent (Or.inr rfl)
              rw [amStr_bound h1]
              exact am_str2 hx hb hml hL.1 hown hts (amW_spec hlk) hWo.2.2.2.2.2 hS (by omega) (by omega) (by omega) (by omega) (by omega) h3 h4 (by rw [amCv_cats]; exact hcat) hd kk
            · intro lsR' hL'
              exact ih j pc' ls' st' σ v τ h hx hb hml hown hts hWo hnm hRf hRl hrk hRc hRs hRp hS hSv hL' kret
          · split at h
            · rename_i st' σ1 hheap
              have m1 := amHeap_n hheap
              have m2 := amX_n _ _ _ _ _ _ _ _ h
              refine am_heap (L := L) (xs := xs) (dC := dC) (dI := dI) (cA := cA) (PS := amPQ z adK adV) hx hb hn hd hlk hts hown hnm hcl hWo hRp hS hSv ?_ (by omega) (by omega) hheap ?_
              · rintro k n r idx rfl rfl g1 g2 g3 g4 g5 hτ kk
                have hlen3 : len = 4 := by simpa [amLn] using hn
                subst hlen3
                have hnn := amNews_n k.toNatClampNeg n.toNatClampNeg (amNew σ (.inr (4, n.toNatClampNeg)) n.toNatClampNeg)
                rw [amNew_n, amNew_q] at hnn
                have e1 : σ1.1.1 = σ.1.1 + 1 + n.toNatClampNeg := by rw [hτ]; exact hnn.1
                have e2 : σ1.1.2.1 = σ.1.2.1 + n.toNatClampNeg + n.toNatClampNeg * k.toNatClampNeg := by rw [hτ]; exact hnn.2
                exact am_multi hx hb hd hlk hts hown hWo.1 hWo.2.2.2.2.1 hRp hS hSv g1 g2 g3 g4 g5 (by omega) (by omega) hτ kk
              · intro H1 locs1 c1 s1 n1 n2 e1 e2 g1 g2 g3
                refine ih j (pc + len) ls st' σ1 v τ h hx hb hml hown hts hWo hnm hRf hRl hrk (by omega) (by omega) g1 g2 g3 hL ?_
                intro i' pc' len' st'' lsR' H' locs' c' s' q1 q2 q3 q4 q5 q6 q7 q8
                exact kret i' pc' len' st'' lsR' H' locs' c' s' q1 q2 q3 q4 q5 q6 (by omega) (by omega)
            · cases h
end AMMAIN
