/-! the law: the script stays; class and reference side by side (printed by wip/whole/t9i.py) -/
theorem amNews_I0 (k i : Nat) (n : Nat) (σ : amH) : (amNews σ k n).2.1 0 i = σ.2.1 0 i := by
  induction n with
  | zero => rfl
  | succ n ih =>
    show (amZ (amNews σ k n).2.1 ((amNews σ k n).1.1 + 1) (fun _ => 0)) 0 i = _
    unfold amZ
    rw [if_neg (Nat.ne_of_lt (Nat.succ_pos _))]
    exact ih
theorem amHeap_I0 {i : Instr} {op : Nat} {st st' : List Value} {σ τ : amH} (h : amHeap i op st σ = some (st', τ)) (q : Nat) : τ.2.1 0 q = σ.2.1 0 q := by
  have up : ∀ {f : Nat → Nat → Int32} {a k : Nat} {x : Int32}, 0 < a → amU f a k x 0 q = f 0 q := fun ha => by
    unfold amU
    rw [if_neg (fun z => absurd z.1 (by omega))]
  have nw : ∀ {kd : amK} {m : Nat}, (amNew σ kd m).2.1 0 q = σ.2.1 0 q := fun {kd m} => by
    show (amZ σ.2.1 (σ.1.1 + 1) (fun _ => 0)) 0 q = _
    unfold amZ
    rw [if_neg (Nat.ne_of_lt (Nat.succ_pos _))]
  unfold amHeap at h
  (repeat' split at h) <;> first | (cases h; done) | (cases h; rfl) | (cases h; exact nw) | (cases h; exact up (And.left (by assumption))) | skip
  all_goals
    cases h
    exact (amNews_I0 _ _ _ _).trans nw
theorem amX_I0 (q : Nat) : ∀ (f j pc : Nat) (ls : amL) (st : List Value) (σ : amH) (v : Option Value) (τ : amH), amX f j pc ls st σ = some (v, τ) → τ.2.1 0 q = σ.2.1 0 q
  | 0, _, _, _, _, _, _, _, h => by cases h
  | f + 1, j, pc, ls, st, σ, v, τ, h => by
    unfold amX at h
    split at h
    · cases h
    · split at h
      · cases h; rfl
      · split at h
        · split at h
          · rename_i h1
            exact (amX_I0 q f _ _ _ _ _ _ _ h).trans (amX_I0 q f _ _ _ _ _ _ _ h1)
          · cases h
        · split at h
          · exact amX_I0 q f _ _ _ _ _ _ _ h
          · split at h
            · rename_i h1
              exact (amX_I0 q f _ _ _ _ _ _ _ h).trans (amHeap_I0 h1 q)
            · cases h
theorem sub6a : ∀ n, n < 6 → (nI n - 6).toInt = (n : Int) - 6 := by decide
theorem sub6 (n : Nat) (h : n ≤ 3072) : (nI n - 6).toInt = (n : Int) - 6 := by
  by_cases g : n < 6
  · exact sub6a n g
  · rw [show (6 : Int32) = nI 6 from rfl, pk_sub (by omega), nI_toInt (by omega)]
    omega
section REF42
variable {L i j pc pc' op : Nat} {Ia : amI} {Ja : amJ} {Ra : amR} {Q : amQ} {σ τ : PS} {X : Nat → Int32} {ls : amL} {st : List Value}
theorem Ex.scr {SS : amS} (h : Ex j pc ls st SS Ia Ja Ra Q) : Ex j pc ls st SS Ia Ja Ra (fun v Ia' Ja' Ra' => Q v Ia' Ja' Ra' ∧ Ia' 0 = Ia 0) := by
  obtain ⟨f, v, τ, h1, h2, h3⟩ := h
  exact ⟨f, v, τ, h1, h2, h3, funext (fun q => amX_I0 q f _ _ _ _ _ _ _ h1)⟩
theorem AsN {SS : amS} {k : Nat} {x : Int32} (he : amT j pc pc' .iaload op) (hK : SS.2.2 0 = .inr (8, L)) (hx : x = nI k) (hk : k < L) (hL : L < 2 ^ 31) (hX : Ia 0 = X) (kk : Ex j pc' ls (.int (X k) :: st) SS Ia Ja Ra Q) : Ex j pc ls (.int x :: .ref 0 :: st) SS Ia Ja Ra Q := by
  subst hx
  subst hX
  refine As0 he hK ?_ ?_ ?_
  · exact nI_nn (by omega)
  · rw [nI_cl (by omega)]
    exact hk
  · rw [nI_cl (by omega)]
    exact kk
/-- the reference's cells don't feel the class's call -/
theorem MSt.cl {Ia' : amI} {Ja' : amJ} {Ra' : amR} (h : MSt Ia Ja Ra σ) (hR : amRok Ra') (hI : ∀ y, 152 ≤ y → Ia' y = Ia y) : MSt Ia' Ja' Ra' σ := by
  obtain ⟨-, h2, h3, h4, h5, h6, h7⟩ := h
  have h3 : M3 Ia σ.2.1 := h3
  have h4 : M4 Ia σ.2.2.1 σ.2.2.2.1 := h4
  have h5 : M5 Ia σ.2.2.2.2.1 := h5
  have h6 : M6 Ia σ.2.2.2.2.2.1 σ.2.2.2.2.2.2 := h6
  have e : ∀ y, 152 ≤ y → ∀ i, Ia' y i = Ia y i := fun y hy i => by rw [hI y hy]
  exact ⟨hR, h2.cg (e _ (by omega) _) (fun i => e _ (by omega) i), h3.cg (e _ (by omega) _) (fun i => e _ (by omega) i), h4.cg (e _ (by omega) _) (fun i => e _ (by omega) i), h5.cg (e _ (by omega) _) (fun i => e _ (by omega) i), h6.cg (fun i => e _ (by omega) i) (fun i => e _ (by omega) i), h7⟩
/-- nor the class's cells the reference's -/
theorem CSt.cl {Ia' : amI} {Ja' : amJ} (h : CSt Ia Ja Ra σ) (hI : ∀ y, y < 152 → Ia' y = Ia y) (hJ : ∀ y, y < 152 → Ja' y = Ja y) : CSt Ia' Ja' Ra σ := by
  obtain ⟨h1, h2, h3, h4, h5, h6, h7, h8⟩ := h
  refine ⟨h1, h2, h3.cg (hI 2 (by omega)) (fun k hk => hJ _ (by have := h8.1.1; omega)), ?_, ?_, ?_, ?_, h8⟩
  · rcases h4 with h4 | ⟨l, e, h4, h9⟩
    · exact Or.inl ⟨h4.1, by rw [hI 1 (by omega)]; exact h4.2⟩
    · exact Or.inr ⟨l, e, by rw [hI 1 (by omega)]; exact h4, h9.cg (hI 20 (by omega)) (fun k hk => hJ _ (by have := (h8.2.1 l e).1; omega))⟩
  · exact ⟨by rw [hI 143 (by omega)]; exact h5.1, h5.2.1, fun k hk => by rw [hI 144 (by omega)]; exact h5.2.2.1 k hk, h5.2.2.2⟩
  · exact ⟨by rw [hI 147 (by omega)]; exact h6.1, fun k hk => by rw [hI 148 (by omega)]; exact h6.2 k hk⟩
  · intro k hk4
    rw [hI 151 (by omega), hI 150 (by omega)]
    exact h7 k hk4
theorem and31 (x : Int32) : 0 ≤ (x &&& 31).toInt ∧ (x &&& 31).toInt ≤ 31 := by
  have e : (x &&& 31).toBitVec.toNat ≤ 31 := by
    show (x.toBitVec &&& 31#32).toNat ≤ 31
    rw [BitVec.toNat_and]
    exact Nat.and_le_right
  have e2 : (x &&& 31).toInt = ((x &&& 31).toBitVec.toNat : Int) := BitVec.toInt_eq_toNat_of_lt (by omega)
  omega
set_option maxHeartbeats 2000000 in
theorem lw_poly (h : CSt Ia Ja Ra σ) (hm : MSt Ia Ja Ra σ) (hX : Ia 0 = X) (hi : i + 6 ≤ L) (hL : L ≤ 3072) (hK : ∀ Ia' Ja' Ra' σ', CSt Ia' Ja' Ra' σ' → MSt Ia' Ja' Ra' σ' → Ia' 0 = X → Ex 0 1274 [some (.ref 0), some (.ref 1), some (.ref 152), some (.int (nI i))] [] (amSH L) Ia' Ja' Ra' Q) : Ex 0 172 [some (.ref 0), some (.ref 1), some (.ref 152), some (.int (nI i))] [] (amSH L) Ia Ja Ra Q := by
  refine LA1 e0_172 ?_
  refine LA0 e0_173 ?_
  refine LI3 e0_174 ?_
  refine Ki e0_175 kiconst_1 ?_
  refine IaddN (a := i) (b := 1) e0_176 rfl (by decide) ?_
  refine AsN (k := (i + 1)) e0_177 rfl rfl (by omega) (by omega) hX ?_
  refine LA0 e0_178 ?_
  refine LI3 e0_179 ?_
  refine Ki e0_180 kiconst_2 ?_
  refine IaddN (a := i) (b := 2) e0_181 rfl (by decide) ?_
  refine AsN (k := (i + 2)) e0_182 rfl rfl (by omega) (by omega) hX ?_
  refine LA0 e0_183 ?_
  refine LI3 e0_184 ?_
  refine Ki e0_185 kiconst_3 ?_
  refine IaddN (a := i) (b := 3) e0_186 rfl (by decide) ?_
  refine AsN (k := (i + 3)) e0_187 rfl rfl (by omega) (by omega) hX ?_
  refine LA0 e0_188 ?_
  refine LI3 e0_189 ?_
  refine Ki e0_190 kiconst_4 ?_
  refine IaddN (a := i) (b := 4) e0_191 rfl (by decide) ?_
  refine AsN (k := (i + 4)) e0_192 rfl rfl (by omega) (by omega) hX ?_
  refine LA0 e0_193 ?_
  refine LI3 e0_194 ?_
  refine Ki e0_195 kiconst_5 ?_
  refine IaddN (a := i) (b := 5) e0_196 rfl (by decide) ?_
  refine AsN (k := (i + 5)) e0_197 rfl rfl (by omega) (by omega) hX ?_
  refine Cv5p e0_198 c0_111 (o1 L) (Nat.le_of_ble_eq_true rfl) (Nat.le_of_ble_eq_true rfl) ((k_poly h).scr) ?_
  rintro v1 Ia1 Ja1 Ra1 ⟨⟨hv, hC1, hI1, hJ1, hR1⟩, hX1⟩
  subst hv
  have hm1 : MSt Ia1 Ja1 Ra1 σ := hm.cl hC1.1 hI1
  have hX1 := hX1.trans hX
  refine LA2 e0_201 ?_
  refine LA0 e0_202 ?_
  refine LI3 e0_203 ?_
  refine Ki e0_204 kiconst_1 ?_
  refine IaddN (a := i) (b := 1) e0_205 rfl (by decide) ?_
  refine AsN (k := (i + 1)) e0_206 rfl rfl (by omega) (by omega) hX1 ?_
  refine LA0 e0_207 ?_
  refine LI3 e0_208 ?_
  refine Ki e0_209 kiconst_2 ?_
  refine IaddN (a := i) (b := 2) e0_210 rfl (by decide) ?_
  refine AsN (k := (i + 2)) e0_211 rfl rfl (by omega) (by omega) hX1 ?_
  refine LA0 e0_212 ?_
  refine LI3 e0_213 ?_
  refine Ki e0_214 kiconst_3 ?_
  refine IaddN (a := i) (b := 3) e0_215 rfl (by decide) ?_
  refine AsN (k := (i + 3)) e0_216 rfl rfl (by omega) (by omega) hX1 ?_
  refine LA0 e0_217 ?_
  refine LI3 e0_218 ?_
  refine Ki e0_219 kiconst_4 ?_
  refine IaddN (a := i) (b := 4) e0_220 rfl (by decide) ?_
  refine AsN (k := (i + 4)) e0_221 rfl rfl (by omega) (by omega) hX1 ?_
  refine LA0 e0_222 ?_
  refine LI3 e0_223 ?_
  refine Ki e0_224 kiconst_5 ?_
  refine IaddN (a := i) (b := 5) e0_225 rfl (by decide) ?_
  refine AsN (k := (i + 5)) e0_226 rfl rfl (by omega) (by omega) hX1 ?_
  refine Cv5p e0_227 c0_160 (o152 L) (Nat.le_of_ble_eq_true rfl) (Nat.le_of_ble_eq_true rfl) ((n_poly hm1).scr) ?_
  rintro v2 Ia2 Ja2 Ra2 ⟨⟨hv, hM2, hI2, hJ2, hR2⟩, hX2⟩
  subst hv
  have hR2 := hR2.symm
  subst hR2
  have hC2 := hC1.cl hI2 hJ2
  have hX2 := hX2.trans hX1
  refine C_eq e0_230 t0_230 (fun _ => ?_) (fun q => absurd (rfl) q)
  exact hK Ia2 Ja2 Ra1 _ hC2 hM2 hX2
set_option maxHeartbeats 2000000 in
theorem lw_make (h : CSt Ia Ja Ra σ) (hm : MSt Ia Ja Ra σ) (hX : Ia 0 = X) (hi : i + 6 ≤ L) (hL : L ≤ 3072) (hK : ∀ Ia' Ja' Ra' σ', CSt Ia' Ja' Ra' σ' → MSt Ia' Ja' Ra' σ' → Ia' 0 = X → Ex 0 1274 [some (.ref 0), some (.ref 1), some (.ref 152), some (.int (nI i))] [] (amSH L) Ia' Ja' Ra' Q) : Ex 0 235 [some (.ref 0), some (.ref 1), some (.ref 152), some (.int (nI i))] [] (amSH L) Ia Ja Ra Q := by
  refine LA1 e0_235 ?_
  refine LA0 e0_236 ?_
  refine LI3 e0_237 ?_
  refine Ki e0_238 kiconst_1 ?_
  refine IaddN (a := i) (b := 1) e0_239 rfl (by decide) ?_
  refine AsN (k := (i + 1)) e0_240 rfl rfl (by omega) (by omega) hX ?_
  refine LA0 e0_241 ?_
  refine LI3 e0_242 ?_
  refine Ki e0_243 kiconst_2 ?_
  refine IaddN (a := i) (b := 2) e0_244 rfl (by decide) ?_
  refine AsN (k := (i + 2)) e0_245 rfl rfl (by omega) (by omega) hX ?_
  refine LA0 e0_246 ?_
  refine LI3 e0_247 ?_
  refine Ki e0_248 kiconst_3 ?_
  refine IaddN (a := i) (b := 3) e0_249 rfl (by decide) ?_
  refine AsN (k := (i + 3)) e0_250 rfl rfl (by omega) (by omega) hX ?_
  refine Cv3p e0_251 c0_112 (o1 L) (Nat.le_of_ble_eq_true rfl) (Nat.le_of_ble_eq_true rfl) ((k_make h).scr) ?_
  rintro v1 Ia1 Ja1 Ra1 ⟨⟨hv, hC1, hI1, hJ1, hR1⟩, hX1⟩
  subst hv
  have hm1 : MSt Ia1 Ja1 Ra1 σ := hm.cl hC1.1 hI1
  have hX1 := hX1.trans hX
  refine LA2 e0_254 ?_
  refine LA0 e0_255 ?_
  refine LI3 e0_256 ?_
  refine Ki e0_257 kiconst_1 ?_
  refine IaddN (a := i) (b := 1) e0_258 rfl (by decide) ?_
  refine AsN (k := (i + 1)) e0_259 rfl rfl (by omega) (by omega) hX1 ?_
  refine LA0 e0_260 ?_
  refine LI3 e0_261 ?_
  refine Ki e0_262 kiconst_2 ?_
  refine IaddN (a := i) (b := 2) e0_263 rfl (by decide) ?_
  refine AsN (k := (i + 2)) e0_264 rfl rfl (by omega) (by omega) hX1 ?_
  refine LA0 e0_265 ?_
  refine LI3 e0_266 ?_
  refine Ki e0_267 kiconst_3 ?_
  refine IaddN (a := i) (b := 3) e0_268 rfl (by decide) ?_
  refine AsN (k := (i + 3)) e0_269 rfl rfl (by omega) (by omega) hX1 ?_
  refine Cv3p e0_270 c0_219 (o152 L) (Nat.le_of_ble_eq_true rfl) (Nat.le_of_ble_eq_true rfl) ((n_make hm1).scr) ?_
  rintro v2 Ia2 Ja2 Ra2 ⟨⟨hv, hM2, hI2, hJ2, hR2⟩, hX2⟩
  subst hv
  have hR2 := hR2.symm
  subst hR2
  have hC2 := hC1.cl hI2 hJ2
  have hX2 := hX2.trans hX1
  refine C_eq e0_273 t0_273 (fun _ => ?_) (fun q => absurd (rfl) q)
  exact hK Ia2 Ja2 Ra1 _ hC2 hM2 hX2
set_option maxHeartbeats 2000000 in
theorem lw_drop (h : CSt Ia Ja Ra σ) (hm : MSt Ia Ja Ra σ) (hX : Ia 0 = X) (hi : i + 6 ≤ L) (hL : L ≤ 3072) (hK : ∀ Ia' Ja' Ra' σ', CSt Ia' Ja' Ra' σ' → MSt Ia' Ja' Ra' σ' → Ia' 0 = X → Ex 0 1274 [some (.ref 0), some (.ref 1), some (.ref 152), some (.int (nI i))] [] (amSH L) Ia' Ja' Ra' Q) : Ex 0 278 [some (.ref 0), some (.ref 1), some (.ref 152), some (.int (nI i))] [] (amSH L) Ia Ja Ra Q := by
  refine LA1 e0_278 ?_
  refine Cv0p e0_279 c0_113 (o1 L) (Nat.le_of_ble_eq_true rfl) (Nat.le_of_ble_eq_true rfl) ((k_drop h).scr) ?_
  rintro v1 Ia1 Ja1 Ra1 ⟨⟨hv, hC1, hI1, hJ1, hR1⟩, hX1⟩
  subst hv
  have hm1 : MSt Ia1 Ja1 Ra1 σ := hm.cl hC1.1 hI1
  have hX1 := hX1.trans hX
  refine LA2 e0_282 ?_
  refine Cv0p e0_283 c0_161 (o152 L) (Nat.le_of_ble_eq_true rfl) (Nat.le_of_ble_eq_true rfl) ((n_drop hm1).scr) ?_
  rintro v2 Ia2 Ja2 Ra2 ⟨⟨hv, hM2, hI2, hJ2, hR2⟩, hX2⟩
  subst hv
  have hR2 := hR2.symm
  subst hR2
  have hC2 := hC1.cl hI2 hJ2
  have hX2 := hX2.trans hX1
  refine C_eq e0_286 t0_286 (fun _ => ?_) (fun q => absurd (rfl) q)
  exact hK Ia2 Ja2 Ra1 _ hC2 hM2 hX2
set_option maxHeartbeats 2000000 in
theorem lw_number (h : CSt Ia Ja Ra σ) (hm : MSt Ia Ja Ra σ) (hX : Ia 0 = X) (hi : i + 6 ≤ L) (hL : L ≤ 3072) (hK : ∀ Ia' Ja' Ra' σ', CSt Ia' Ja' Ra' σ' → MSt Ia' Ja' Ra' σ' → Ia' 0 = X → Ex 0 1274 [some (.ref 0), some (.ref 1), some (.ref 152), some (.int (nI i))] [] (amSH L) Ia' Ja' Ra' Q) : Ex 0 291 [some (.ref 0), some (.ref 1), some (.ref 152), some (.int (nI i))] [] (amSH L) Ia Ja Ra Q := by
  refine LA1 e0_291 ?_
  refine LA0 e0_292 ?_
  refine LI3 e0_293 ?_
  refine Ki e0_294 kiconst_1 ?_
  refine IaddN (a := i) (b := 1) e0_295 rfl (by decide) ?_
  refine AsN (k := (i + 1)) e0_296 rfl rfl (by omega) (by omega) hX ?_
  refine LA0 e0_297 ?_
  refine LI3 e0_298 ?_
  refine Ki e0_299 kiconst_2 ?_
  refine IaddN (a := i) (b := 2) e0_300 rfl (by decide) ?_
  refine AsN (k := (i + 2)) e0_301 rfl rfl (by omega) (by omega) hX ?_
  refine Cv2p e0_302 c0_114 (o1 L) (Nat.le_of_ble_eq_true rfl) (Nat.le_of_ble_eq_true rfl) ((k_number h).scr) ?_
  rintro v1 Ia1 Ja1 Ra1 ⟨⟨hv, hC1, hI1, hJ1, hR1⟩, hX1⟩
  subst hv
  have hm1 : MSt Ia1 Ja1 Ra1 σ := hm.cl hC1.1 hI1
  have hX1 := hX1.trans hX
  refine LA2 e0_305 ?_
  refine LA0 e0_306 ?_
  refine LI3 e0_307 ?_
  refine Ki e0_308 kiconst_1 ?_
  refine IaddN (a := i) (b := 1) e0_309 rfl (by decide) ?_
  refine AsN (k := (i + 1)) e0_310 rfl rfl (by omega) (by omega) hX1 ?_
  refine LA0 e0_311 ?_
  refine LI3 e0_312 ?_
  refine Ki e0_313 kiconst_2 ?_
  refine IaddN (a := i) (b := 2) e0_314 rfl (by decide) ?_
  refine AsN (k := (i + 2)) e0_315 rfl rfl (by omega) (by omega) hX1 ?_
  refine Cv2p e0_316 c0_162 (o152 L) (Nat.le_of_ble_eq_true rfl) (Nat.le_of_ble_eq_true rfl) ((n_number hm1).scr) ?_
  rintro v2 Ia2 Ja2 Ra2 ⟨⟨hv, hM2, hI2, hJ2, hR2⟩, hX2⟩
  subst hv
  have hR2 := hR2.symm
  subst hR2
  have hC2 := hC1.cl hI2 hJ2
  have hX2 := hX2.trans hX1
  refine D_eq e0_319 e0_320 t0_320 (fun _ => ?_) (fun q => absurd (rfl) q)
  exact hK Ia2 Ja2 Ra1 _ hC2 hM2 hX2
set_option maxHeartbeats 2000000 in
theorem lw_of (h : CSt Ia Ja Ra σ) (hm : MSt Ia Ja Ra σ) (hX : Ia 0 = X) (hi : i + 6 ≤ L) (hL : L ≤ 3072) (hK : ∀ Ia' Ja' Ra' σ', CSt Ia' Ja' Ra' σ' → MSt Ia' Ja' Ra' σ' → Ia' 0 = X → Ex 0 1274 [some (.ref 0), some (.ref 1), some (.ref 152), some (.int (nI i))] [] (amSH L) Ia' Ja' Ra' Q) : Ex 0 325 [some (.ref 0), some (.ref 1), some (.ref 152), some (.int (nI i))] [] (amSH L) Ia Ja Ra Q := by
  refine LA1 e0_325 ?_
  refine LA0 e0_326 ?_
  refine LI3 e0_327 ?_
  refine Ki e0_328 kiconst_1 ?_
  refine IaddN (a := i) (b := 1) e0_329 rfl (by decide) ?_
  refine AsN (k := (i + 1)) e0_330 rfl rfl (by omega) (by omega) hX ?_
  refine LA0 e0_331 ?_
  refine LI3 e0_332 ?_
  refine Ki e0_333 kiconst_2 ?_
  refine IaddN (a := i) (b := 2) e0_334 rfl (by decide) ?_
  refine AsN (k := (i + 2)) e0_335 rfl rfl (by omega) (by omega) hX ?_
  refine Cv2p e0_336 c0_115 (o1 L) (Nat.le_of_ble_eq_true rfl) (Nat.le_of_ble_eq_true rfl) ((k_of h).scr) ?_
  rintro v1 Ia1 Ja1 Ra1 ⟨⟨hv, hC1, hI1, hJ1, hR1⟩, hX1⟩
  subst hv
  have hm1 : MSt Ia1 Ja1 Ra1 σ := hm.cl hC1.1 hI1
  have hX1 := hX1.trans hX
  refine LA2 e0_339 ?_
  refine LA0 e0_340 ?_
  refine LI3 e0_341 ?_
  refine Ki e0_342 kiconst_1 ?_
  refine IaddN (a := i) (b := 1) e0_343 rfl (by decide) ?_
  refine AsN (k := (i + 1)) e0_344 rfl rfl (by omega) (by omega) hX1 ?_
  refine LA0 e0_345 ?_
  refine LI3 e0_346 ?_
  refine Ki e0_347 kiconst_2 ?_
  refine IaddN (a := i) (b := 2) e0_348 rfl (by decide) ?_
  refine AsN (k := (i + 2)) e0_349 rfl rfl (by omega) (by omega) hX1 ?_
  refine Cv2p e0_350 c0_166 (o152 L) (Nat.le_of_ble_eq_true rfl) (Nat.le_of_ble_eq_true rfl) ((n_of hm1).scr) ?_
  rintro v2 Ia2 Ja2 Ra2 ⟨⟨hv, hM2, hI2, hJ2, hR2⟩, hX2⟩
  subst hv
  have hR2 := hR2.symm
  subst hR2
  have hC2 := hC1.cl hI2 hJ2
  have hX2 := hX2.trans hX1
  refine C_eq e0_353 t0_353 (fun _ => ?_) (fun q => absurd (rfl) q)
  exact hK Ia2 Ja2 Ra1 _ hC2 hM2 hX2
set_option maxHeartbeats 2000000 in
theorem lw_value (h : CSt Ia Ja Ra σ) (hm : MSt Ia Ja Ra σ) (hX : Ia 0 = X) (hi : i + 6 ≤ L) (hL : L ≤ 3072) (hK : ∀ Ia' Ja' Ra' σ', CSt Ia' Ja' Ra' σ' → MSt Ia' Ja' Ra' σ' → Ia' 0 = X → Ex 0 1274 [some (.ref 0), some (.ref 1), some (.ref 152), some (.int (nI i))] [] (amSH L) Ia' Ja' Ra' Q) : Ex 0 358 [some (.ref 0), some (.ref 1), some (.ref 152), some (.int (nI i))] [] (amSH L) Ia Ja Ra Q := by
  refine LA1 e0_358 ?_
  refine LA0 e0_359 ?_
  refine LI3 e0_360 ?_
  refine Ki e0_361 kiconst_1 ?_
  refine IaddN (a := i) (b := 1) e0_362 rfl (by decide) ?_
  refine AsN (k := (i + 1)) e0_363 rfl rfl (by omega) (by omega) hX ?_
  refine LA0 e0_364 ?_
  refine LI3 e0_365 ?_
  refine Ki e0_366 kiconst_2 ?_
  refine IaddN (a := i) (b := 2) e0_367 rfl (by decide) ?_
  refine AsN (k := (i + 2)) e0_368 rfl rfl (by omega) (by omega) hX ?_
  refine LA0 e0_369 ?_
  refine LI3 e0_370 ?_
  refine Ki e0_371 kiconst_3 ?_
  refine IaddN (a := i) (b := 3) e0_372 rfl (by decide) ?_
  refine AsN (k := (i + 3)) e0_373 rfl rfl (by omega) (by omega) hX ?_
  refine Cv3p e0_374 c0_116 (o1 L) (Nat.le_of_ble_eq_true rfl) (Nat.le_of_ble_eq_true rfl) ((k_value h).scr) ?_
  rintro v1 Ia1 Ja1 Ra1 ⟨⟨hv, hC1, hI1, hJ1, hR1⟩, hX1⟩
  subst hv
  have hm1 : MSt Ia1 Ja1 Ra1 σ := hm.cl hC1.1 hI1
  have hX1 := hX1.trans hX
  refine LA2 e0_377 ?_
  refine LA0 e0_378 ?_
  refine LI3 e0_379 ?_
  refine Ki e0_380 kiconst_1 ?_
  refine IaddN (a := i) (b := 1) e0_381 rfl (by decide) ?_
  refine AsN (k := (i + 1)) e0_382 rfl rfl (by omega) (by omega) hX1 ?_
  refine LA0 e0_383 ?_
  refine LI3 e0_384 ?_
  refine Ki e0_385 kiconst_2 ?_
  refine IaddN (a := i) (b := 2) e0_386 rfl (by decide) ?_
  refine AsN (k := (i + 2)) e0_387 rfl rfl (by omega) (by omega) hX1 ?_
  refine LA0 e0_388 ?_
  refine LI3 e0_389 ?_
  refine Ki e0_390 kiconst_3 ?_
  refine IaddN (a := i) (b := 3) e0_391 rfl (by decide) ?_
  refine AsN (k := (i + 3)) e0_392 rfl rfl (by omega) (by omega) hX1 ?_
  refine Cv3p e0_393 c0_170 (o152 L) (Nat.le_of_ble_eq_true rfl) (Nat.le_of_ble_eq_true rfl) ((n_value hm1).scr) ?_
  rintro v2 Ia2 Ja2 Ra2 ⟨⟨hv, hM2, hI2, hJ2, hR2⟩, hX2⟩
  subst hv
  have hR2 := hR2.symm
  subst hR2
  have hC2 := hC1.cl hI2 hJ2
  have hX2 := hX2.trans hX1
  refine D_eq e0_396 e0_397 t0_397 (fun _ => ?_) (fun q => absurd (rfl) q)
  exact hK Ia2 Ja2 Ra1 _ hC2 hM2 hX2
set_option maxHeartbeats 2000000 in
theorem lw_chain (h : CSt Ia Ja Ra σ) (hm : MSt Ia Ja Ra σ) (hX : Ia 0 = X) (hi : i + 6 ≤ L) (hL : L ≤ 3072) (hK : ∀ Ia' Ja' Ra' σ', CSt Ia' Ja' Ra' σ' → MSt Ia' Ja' Ra' σ' → Ia' 0 = X → Ex 0 1274 [some (.ref 0), some (.ref 1), some (.ref 152), some (.int (nI i))] [] (amSH L) Ia' Ja' Ra' Q) : Ex 0 402 [some (.ref 0), some (.ref 1), some (.ref 152), some (.int (nI i))] [] (amSH L) Ia Ja Ra Q := by
  refine LA1 e0_402 ?_
  refine LA0 e0_403 ?_
  refine LI3 e0_404 ?_
  refine Ki e0_405 kiconst_1 ?_
  refine IaddN (a := i) (b := 1) e0_406 rfl (by decide) ?_
  refine AsN (k := (i + 1)) e0_407 rfl rfl (by omega) (by omega) hX ?_
  refine LA0 e0_408 ?_
  refine LI3 e0_409 ?_
  refine Ki e0_410 kiconst_2 ?_
  refine IaddN (a := i) (b := 2) e0_411 rfl (by decide) ?_
  refine AsN (k := (i + 2)) e0_412 rfl rfl (by omega) (by omega) hX ?_
  refine LA0 e0_413 ?_
  refine LI3 e0_414 ?_
  refine Ki e0_415 kiconst_3 ?_
  refine IaddN (a := i) (b := 3) e0_416 rfl (by decide) ?_
  refine AsN (k := (i + 3)) e0_417 rfl rfl (by omega) (by omega) hX ?_
  refine Cv3p e0_418 c0_117 (o1 L) (Nat.le_of_ble_eq_true rfl) (Nat.le_of_ble_eq_true rfl) ((k_chain h).scr) ?_
  rintro v1 Ia1 Ja1 Ra1 ⟨⟨hv, hC1, hI1, hJ1, hR1⟩, hX1⟩
  subst hv
  have hm1 : MSt Ia1 Ja1 Ra1 σ := hm.cl hC1.1 hI1
  have hX1 := hX1.trans hX
  refine LA2 e0_421 ?_
  refine LA0 e0_422 ?_
  refine LI3 e0_423 ?_
  refine Ki e0_424 kiconst_1 ?_
  refine IaddN (a := i) (b := 1) e0_425 rfl (by decide) ?_
  refine AsN (k := (i + 1)) e0_426 rfl rfl (by omega) (by omega) hX1 ?_
  refine LA0 e0_427 ?_
  refine LI3 e0_428 ?_
  refine Ki e0_429 kiconst_2 ?_
  refine IaddN (a := i) (b := 2) e0_430 rfl (by decide) ?_
  refine AsN (k := (i + 2)) e0_431 rfl rfl (by omega) (by omega) hX1 ?_
  refine LA0 e0_432 ?_
  refine LI3 e0_433 ?_
  refine Ki e0_434 kiconst_3 ?_
  refine IaddN (a := i) (b := 3) e0_435 rfl (by decide) ?_
  refine AsN (k := (i + 3)) e0_436 rfl rfl (by omega) (by omega) hX1 ?_
  refine Cv3p e0_437 c0_190 (o152 L) (Nat.le_of_ble_eq_true rfl) (Nat.le_of_ble_eq_true rfl) ((n_chain hm1).scr) ?_
  rintro v2 Ia2 Ja2 Ra2 ⟨⟨hv, hM2, hI2, hJ2, hR2⟩, hX2⟩
  subst hv
  have hR2 := hR2.symm
  subst hR2
  have hC2 := hC1.cl hI2 hJ2
  have hX2 := hX2.trans hX1
  refine D_eq e0_440 e0_441 t0_441 (fun _ => ?_) (fun q => absurd (rfl) q)
  exact hK Ia2 Ja2 Ra1 _ hC2 hM2 hX2
set_option maxHeartbeats 2000000 in
theorem lw_changes (h : CSt Ia Ja Ra σ) (hm : MSt Ia Ja Ra σ) (hX : Ia 0 = X) (hi : i + 6 ≤ L) (hL : L ≤ 3072) (hK : ∀ Ia' Ja' Ra' σ', CSt Ia' Ja' Ra' σ' → MSt Ia' Ja' Ra' σ' → Ia' 0 = X → Ex 0 1274 [some (.ref 0), some (.ref 1), some (.ref 152), some (.int (nI i))] [] (amSH L) Ia' Ja' Ra' Q) : Ex 0 446 [some (.ref 0), some (.ref 1), some (.ref 152), some (.int (nI i))] [] (amSH L) Ia Ja Ra Q := by
  refine LA1 e0_446 ?_
  refine LA0 e0_447 ?_
  refine LI3 e0_448 ?_
  refine Ki e0_449 kiconst_1 ?_
  refine IaddN (a := i) (b := 1) e0_450 rfl (by decide) ?_
  refine AsN (k := (i + 1)) e0_451 rfl rfl (by omega) (by omega) hX ?_
  refine LA0 e0_452 ?_
  refine LI3 e0_453 ?_
  refine Ki e0_454 kiconst_2 ?_
  refine IaddN (a := i) (b := 2) e0_455 rfl (by decide) ?_
  refine AsN (k := (i + 2)) e0_456 rfl rfl (by omega) (by omega) hX ?_
  refine LA0 e0_457 ?_
  refine LI3 e0_458 ?_
  refine Ki e0_459 kiconst_3 ?_
  refine IaddN (a := i) (b := 3) e0_460 rfl (by decide) ?_
  refine AsN (k := (i + 3)) e0_461 rfl rfl (by omega) (by omega) hX ?_
  refine Cv3p e0_462 c0_118 (o1 L) (Nat.le_of_ble_eq_true rfl) (Nat.le_of_ble_eq_true rfl) ((k_changes h).scr) ?_
  rintro v1 Ia1 Ja1 Ra1 ⟨⟨hv, hC1, hI1, hJ1, hR1⟩, hX1⟩
  subst hv
  have hm1 : MSt Ia1 Ja1 Ra1 σ := hm.cl hC1.1 hI1
  have hX1 := hX1.trans hX
  refine LA2 e0_465 ?_
  refine LA0 e0_466 ?_
  refine LI3 e0_467 ?_
  refine Ki e0_468 kiconst_1 ?_
  refine IaddN (a := i) (b := 1) e0_469 rfl (by decide) ?_
  refine AsN (k := (i + 1)) e0_470 rfl rfl (by omega) (by omega) hX1 ?_
  refine LA0 e0_471 ?_
  refine LI3 e0_472 ?_
  refine Ki e0_473 kiconst_2 ?_
  refine IaddN (a := i) (b := 2) e0_474 rfl (by decide) ?_
  refine AsN (k := (i + 2)) e0_475 rfl rfl (by omega) (by omega) hX1 ?_
  refine LA0 e0_476 ?_
  refine LI3 e0_477 ?_
  refine Ki e0_478 kiconst_3 ?_
  refine IaddN (a := i) (b := 3) e0_479 rfl (by decide) ?_
  refine AsN (k := (i + 3)) e0_480 rfl rfl (by omega) (by omega) hX1 ?_
  refine Cv3p e0_481 c0_191 (o152 L) (Nat.le_of_ble_eq_true rfl) (Nat.le_of_ble_eq_true rfl) ((n_changes hm1).scr) ?_
  rintro v2 Ia2 Ja2 Ra2 ⟨⟨hv, hM2, hI2, hJ2, hR2⟩, hX2⟩
  subst hv
  have hR2 := hR2.symm
  subst hR2
  have hC2 := hC1.cl hI2 hJ2
  have hX2 := hX2.trans hX1
  refine C_eq e0_484 t0_484 (fun _ => ?_) (fun q => absurd (rfl) q)
  exact hK Ia2 Ja2 Ra1 _ hC2 hM2 hX2
set_option maxHeartbeats 2000000 in
theorem lw_roots (h : CSt Ia Ja Ra σ) (hm : MSt Ia Ja Ra σ) (hX : Ia 0 = X) (hi : i + 6 ≤ L) (hL : L ≤ 3072) (hK : ∀ Ia' Ja' Ra' σ', CSt Ia' Ja' Ra' σ' → MSt Ia' Ja' Ra' σ' → Ia' 0 = X → Ex 0 1274 [some (.ref 0), some (.ref 1), some (.ref 152), some (.int (nI i))] [] (amSH L) Ia' Ja' Ra' Q) : Ex 0 489 [some (.ref 0), some (.ref 1), some (.ref 152), some (.int (nI i))] [] (amSH L) Ia Ja Ra Q := by
  refine LA1 e0_489 ?_
  refine LA0 e0_490 ?_
  refine LI3 e0_491 ?_
  refine Ki e0_492 kiconst_1 ?_
  refine IaddN (a := i) (b := 1) e0_493 rfl (by decide) ?_
  refine AsN (k := (i + 1)) e0_494 rfl rfl (by omega) (by omega) hX ?_
  refine Cv1p e0_495 c0_119 (o1 L) (Nat.le_of_ble_eq_true rfl) (Nat.le_of_ble_eq_true rfl) ((k_roots h).scr) ?_
  rintro v1 Ia1 Ja1 Ra1 ⟨⟨hv, hC1, hI1, hJ1, hR1⟩, hX1⟩
  subst hv
  have hm1 : MSt Ia1 Ja1 Ra1 σ := hm.cl hC1.1 hI1
  have hX1 := hX1.trans hX
  refine LA2 e0_498 ?_
  refine LA0 e0_499 ?_
  refine LI3 e0_500 ?_
  refine Ki e0_501 kiconst_1 ?_
  refine IaddN (a := i) (b := 1) e0_502 rfl (by decide) ?_
  refine AsN (k := (i + 1)) e0_503 rfl rfl (by omega) (by omega) hX1 ?_
  refine Cv1p e0_504 c0_192 (o152 L) (Nat.le_of_ble_eq_true rfl) (Nat.le_of_ble_eq_true rfl) ((n_roots hm1).scr) ?_
  rintro v2 Ia2 Ja2 Ra2 ⟨⟨hv, hM2, hI2, hJ2, hR2⟩, hX2⟩
  subst hv
  have hR2 := hR2.symm
  subst hR2
  have hC2 := hC1.cl hI2 hJ2
  have hX2 := hX2.trans hX1
  refine C_eq e0_507 t0_507 (fun _ => ?_) (fun q => absurd (rfl) q)
  exact hK Ia2 Ja2 Ra1 _ hC2 hM2 hX2
set_option maxHeartbeats 2000000 in
theorem lw_within (h : CSt Ia Ja Ra σ) (hm : MSt Ia Ja Ra σ) (hX : Ia 0 = X) (hi : i + 6 ≤ L) (hL : L ≤ 3072) (hK : ∀ Ia' Ja' Ra' σ', CSt Ia' Ja' Ra' σ' → MSt Ia' Ja' Ra' σ' → Ia' 0 = X → Ex 0 1274 [some (.ref 0), some (.ref 1), some (.ref 152), some (.int (nI i))] [] (amSH L) Ia' Ja' Ra' Q) : Ex 0 512 [some (.ref 0), some (.ref 1), some (.ref 152), some (.int (nI i))] [] (amSH L) Ia Ja Ra Q := by
  refine LA1 e0_512 ?_
  refine LA0 e0_513 ?_
  refine LI3 e0_514 ?_
  refine Ki e0_515 kiconst_1 ?_
  refine IaddN (a := i) (b := 1) e0_516 rfl (by decide) ?_
  refine AsN (k := (i + 1)) e0_517 rfl rfl (by omega) (by omega) hX ?_
  refine LA0 e0_518 ?_
  refine LI3 e0_519 ?_
  refine Ki e0_520 kiconst_2 ?_
  refine IaddN (a := i) (b := 2) e0_521 rfl (by decide) ?_
  refine AsN (k := (i + 2)) e0_522 rfl rfl (by omega) (by omega) hX ?_
  refine LA0 e0_523 ?_
  refine LI3 e0_524 ?_
  refine Ki e0_525 kiconst_3 ?_
  refine IaddN (a := i) (b := 3) e0_526 rfl (by decide) ?_
  refine AsN (k := (i + 3)) e0_527 rfl rfl (by omega) (by omega) hX ?_
  refine LA0 e0_528 ?_
  refine LI3 e0_529 ?_
  refine Ki e0_530 kiconst_4 ?_
  refine IaddN (a := i) (b := 4) e0_531 rfl (by decide) ?_
  refine AsN (k := (i + 4)) e0_532 rfl rfl (by omega) (by omega) hX ?_
  refine LA0 e0_533 ?_
  refine LI3 e0_534 ?_
  refine Ki e0_535 kiconst_5 ?_
  refine IaddN (a := i) (b := 5) e0_536 rfl (by decide) ?_
  refine AsN (k := (i + 5)) e0_537 rfl rfl (by omega) (by omega) hX ?_
  refine Cv5p e0_538 c0_120 (o1 L) (Nat.le_of_ble_eq_true rfl) (Nat.le_of_ble_eq_true rfl) ((k_within h).scr) ?_
  rintro v1 Ia1 Ja1 Ra1 ⟨⟨hv, hC1, hI1, hJ1, hR1⟩, hX1⟩
  subst hv
  have hm1 : MSt Ia1 Ja1 Ra1 σ := hm.cl hC1.1 hI1
  have hX1 := hX1.trans hX
  refine LA2 e0_541 ?_
  refine LA0 e0_542 ?_
  refine LI3 e0_543 ?_
  refine Ki e0_544 kiconst_1 ?_
  refine IaddN (a := i) (b := 1) e0_545 rfl (by decide) ?_
  refine AsN (k := (i + 1)) e0_546 rfl rfl (by omega) (by omega) hX1 ?_
  refine LA0 e0_547 ?_
  refine LI3 e0_548 ?_
  refine Ki e0_549 kiconst_2 ?_
  refine IaddN (a := i) (b := 2) e0_550 rfl (by decide) ?_
  refine AsN (k := (i + 2)) e0_551 rfl rfl (by omega) (by omega) hX1 ?_
  refine LA0 e0_552 ?_
  refine LI3 e0_553 ?_
  refine Ki e0_554 kiconst_3 ?_
  refine IaddN (a := i) (b := 3) e0_555 rfl (by decide) ?_
  refine AsN (k := (i + 3)) e0_556 rfl rfl (by omega) (by omega) hX1 ?_
  refine LA0 e0_557 ?_
  refine LI3 e0_558 ?_
  refine Ki e0_559 kiconst_4 ?_
  refine IaddN (a := i) (b := 4) e0_560 rfl (by decide) ?_
  refine AsN (k := (i + 4)) e0_561 rfl rfl (by omega) (by omega) hX1 ?_
  refine LA0 e0_562 ?_
  refine LI3 e0_563 ?_
  refine Ki e0_564 kiconst_5 ?_
  refine IaddN (a := i) (b := 5) e0_565 rfl (by decide) ?_
  refine AsN (k := (i + 5)) e0_566 rfl rfl (by omega) (by omega) hX1 ?_
  refine Cv5p e0_567 c0_193 (o152 L) (Nat.le_of_ble_eq_true rfl) (Nat.le_of_ble_eq_true rfl) ((n_within hm1).scr) ?_
  rintro v2 Ia2 Ja2 Ra2 ⟨⟨hv, hM2, hI2, hJ2, hR2⟩, hX2⟩
  subst hv
  have hR2 := hR2.symm
  subst hR2
  have hC2 := hC1.cl hI2 hJ2
  have hX2 := hX2.trans hX1
  refine C_eq e0_570 t0_570 (fun _ => ?_) (fun q => absurd (rfl) q)
  exact hK Ia2 Ja2 Ra1 _ hC2 hM2 hX2
set_option maxHeartbeats 2000000 in
theorem lw_bound (h : CSt Ia Ja Ra σ) (hm : MSt Ia Ja Ra σ) (hX : Ia 0 = X) (hi : i + 6 ≤ L) (hL : L ≤ 3072) (hK : ∀ Ia' Ja' Ra' σ', CSt Ia' Ja' Ra' σ' → MSt Ia' Ja' Ra' σ' → Ia' 0 = X → Ex 0 1274 [some (.ref 0), some (.ref 1), some (.ref 152), some (.int (nI i))] [] (amSH L) Ia' Ja' Ra' Q) : Ex 0 575 [some (.ref 0), some (.ref 1), some (.ref 152), some (.int (nI i))] [] (amSH L) Ia Ja Ra Q := by
  refine LA1 e0_575 ?_
  refine LA0 e0_576 ?_
  refine LI3 e0_577 ?_
  refine Ki e0_578 kiconst_1 ?_
  refine IaddN (a := i) (b := 1) e0_579 rfl (by decide) ?_
  refine AsN (k := (i + 1)) e0_580 rfl rfl (by omega) (by omega) hX ?_
  refine Cv1p e0_581 c0_121 (o1 L) (Nat.le_of_ble_eq_true rfl) (Nat.le_of_ble_eq_true rfl) ((k_bound h).scr) ?_
  rintro v1 Ia1 Ja1 Ra1 ⟨⟨hv, hC1, hI1, hJ1, hR1⟩, hX1⟩
  subst hv
  have hm1 : MSt Ia1 Ja1 Ra1 σ := hm.cl hC1.1 hI1
  have hX1 := hX1.trans hX
  refine LA2 e0_584 ?_
  refine LA0 e0_585 ?_
  refine LI3 e0_586 ?_
  refine Ki e0_587 kiconst_1 ?_
  refine IaddN (a := i) (b := 1) e0_588 rfl (by decide) ?_
  refine AsN (k := (i + 1)) e0_589 rfl rfl (by omega) (by omega) hX1 ?_
  refine Cv1p e0_590 c0_195 (o152 L) (Nat.le_of_ble_eq_true rfl) (Nat.le_of_ble_eq_true rfl) ((n_bound hm1).scr) ?_
  rintro v2 Ia2 Ja2 Ra2 ⟨⟨hv, hM2, hI2, hJ2, hR2⟩, hX2⟩
  subst hv
  have hR2 := hR2.symm
  subst hR2
  have hC2 := hC1.cl hI2 hJ2
  have hX2 := hX2.trans hX1
  refine C_eq e0_593 t0_593 (fun _ => ?_) (fun q => absurd (rfl) q)
  exact hK Ia2 Ja2 Ra1 _ hC2 hM2 hX2
set_option maxHeartbeats 2000000 in
theorem lw_fence (h : CSt Ia Ja Ra σ) (hm : MSt Ia Ja Ra σ) (hX : Ia 0 = X) (hi : i + 6 ≤ L) (hL : L ≤ 3072) (hK : ∀ Ia' Ja' Ra' σ', CSt Ia' Ja' Ra' σ' → MSt Ia' Ja' Ra' σ' → Ia' 0 = X → Ex 0 1274 [some (.ref 0), some (.ref 1), some (.ref 152), some (.int (nI i))] [] (amSH L) Ia' Ja' Ra' Q) : Ex 0 598 [some (.ref 0), some (.ref 1), some (.ref 152), some (.int (nI i))] [] (amSH L) Ia Ja Ra Q := by
  refine LA1 e0_598 ?_
  refine LA0 e0_599 ?_
  refine LI3 e0_600 ?_
  refine Ki e0_601 kiconst_1 ?_
  refine IaddN (a := i) (b := 1) e0_602 rfl (by decide) ?_
  refine AsN (k := (i + 1)) e0_603 rfl rfl (by omega) (by omega) hX ?_
  refine LA0 e0_604 ?_
  refine LI3 e0_605 ?_
  refine Ki e0_606 kiconst_2 ?_
  refine IaddN (a := i) (b := 2) e0_607 rfl (by decide) ?_
  refine AsN (k := (i + 2)) e0_608 rfl rfl (by omega) (by omega) hX ?_
  refine LA0 e0_609 ?_
  refine LI3 e0_610 ?_
  refine Ki e0_611 kiconst_3 ?_
  refine IaddN (a := i) (b := 3) e0_612 rfl (by decide) ?_
  refine AsN (k := (i + 3)) e0_613 rfl rfl (by omega) (by omega) hX ?_
  refine LA0 e0_614 ?_
  refine LI3 e0_615 ?_
  refine Ki e0_616 kiconst_4 ?_
  refine IaddN (a := i) (b := 4) e0_617 rfl (by decide) ?_
  refine AsN (k := (i + 4)) e0_618 rfl rfl (by omega) (by omega) hX ?_
  refine Cv4p e0_619 c0_122 (o1 L) (Nat.le_of_ble_eq_true rfl) (Nat.le_of_ble_eq_true rfl) ((k_fence h).scr) ?_
  rintro v1 Ia1 Ja1 Ra1 ⟨⟨hv, hC1, hI1, hJ1, hR1⟩, hX1⟩
  subst hv
  have hm1 : MSt Ia1 Ja1 Ra1 σ := hm.cl hC1.1 hI1
  have hX1 := hX1.trans hX
  refine LA2 e0_622 ?_
  refine LA0 e0_623 ?_
  refine LI3 e0_624 ?_
  refine Ki e0_625 kiconst_1 ?_
  refine IaddN (a := i) (b := 1) e0_626 rfl (by decide) ?_
  refine AsN (k := (i + 1)) e0_627 rfl rfl (by omega) (by omega) hX1 ?_
  refine LA0 e0_628 ?_
  refine LI3 e0_629 ?_
  refine Ki e0_630 kiconst_2 ?_
  refine IaddN (a := i) (b := 2) e0_631 rfl (by decide) ?_
  refine AsN (k := (i + 2)) e0_632 rfl rfl (by omega) (by omega) hX1 ?_
  refine LA0 e0_633 ?_
  refine LI3 e0_634 ?_
  refine Ki e0_635 kiconst_3 ?_
  refine IaddN (a := i) (b := 3) e0_636 rfl (by decide) ?_
  refine AsN (k := (i + 3)) e0_637 rfl rfl (by omega) (by omega) hX1 ?_
  refine LA0 e0_638 ?_
  refine LI3 e0_639 ?_
  refine Ki e0_640 kiconst_4 ?_
  refine IaddN (a := i) (b := 4) e0_641 rfl (by decide) ?_
  refine AsN (k := (i + 4)) e0_642 rfl rfl (by omega) (by omega) hX1 ?_
  refine Cv4p e0_643 c0_198 (o152 L) (Nat.le_of_ble_eq_true rfl) (Nat.le_of_ble_eq_true rfl) ((n_fence hm1).scr) ?_
  rintro v2 Ia2 Ja2 Ra2 ⟨⟨hv, hM2, hI2, hJ2, hR2⟩, hX2⟩
  subst hv
  have hR2 := hR2.symm
  subst hR2
  have hC2 := hC1.cl hI2 hJ2
  have hX2 := hX2.trans hX1
  refine D_eq e0_646 e0_647 t0_647 (fun _ => ?_) (fun q => absurd (rfl) q)
  exact hK Ia2 Ja2 Ra1 _ hC2 hM2 hX2
set_option maxHeartbeats 2000000 in
theorem lw_times (h : CSt Ia Ja Ra σ) (hm : MSt Ia Ja Ra σ) (hX : Ia 0 = X) (hi : i + 6 ≤ L) (hL : L ≤ 3072) (hK : ∀ Ia' Ja' Ra' σ', CSt Ia' Ja' Ra' σ' → MSt Ia' Ja' Ra' σ' → Ia' 0 = X → Ex 0 1274 [some (.ref 0), some (.ref 1), some (.ref 152), some (.int (nI i))] [] (amSH L) Ia' Ja' Ra' Q) : Ex 0 652 [some (.ref 0), some (.ref 1), some (.ref 152), some (.int (nI i))] [] (amSH L) Ia Ja Ra Q := by
  refine LA1 e0_652 ?_
  refine LA0 e0_653 ?_
  refine LI3 e0_654 ?_
  refine Ki e0_655 kiconst_1 ?_
  refine IaddN (a := i) (b := 1) e0_656 rfl (by decide) ?_
  refine AsN (k := (i + 1)) e0_657 rfl rfl (by omega) (by omega) hX ?_
  refine LA0 e0_658 ?_
  refine LI3 e0_659 ?_
  refine Ki e0_660 kiconst_2 ?_
  refine IaddN (a := i) (b := 2) e0_661 rfl (by decide) ?_
  refine AsN (k := (i + 2)) e0_662 rfl rfl (by omega) (by omega) hX ?_
  refine Cv2p e0_663 c0_123 (o1 L) (Nat.le_of_ble_eq_true rfl) (Nat.le_of_ble_eq_true rfl) ((k_times h).scr) ?_
  rintro v1 Ia1 Ja1 Ra1 ⟨⟨hv, hC1, hI1, hJ1, hR1⟩, hX1⟩
  subst hv
  have hm1 : MSt Ia1 Ja1 Ra1 σ := hm.cl hC1.1 hI1
  have hX1 := hX1.trans hX
  refine LA2 e0_666 ?_
  refine LA0 e0_667 ?_
  refine LI3 e0_668 ?_
  refine Ki e0_669 kiconst_1 ?_
  refine IaddN (a := i) (b := 1) e0_670 rfl (by decide) ?_
  refine AsN (k := (i + 1)) e0_671 rfl rfl (by omega) (by omega) hX1 ?_
  refine LA0 e0_672 ?_
  refine LI3 e0_673 ?_
  refine Ki e0_674 kiconst_2 ?_
  refine IaddN (a := i) (b := 2) e0_675 rfl (by decide) ?_
  refine AsN (k := (i + 2)) e0_676 rfl rfl (by omega) (by omega) hX1 ?_
  refine Cv2p e0_677 c0_201 (o152 L) (Nat.le_of_ble_eq_true rfl) (Nat.le_of_ble_eq_true rfl) ((n_times hm1).scr) ?_
  rintro v2 Ia2 Ja2 Ra2 ⟨⟨hv, hM2, hI2, hJ2, hR2⟩, hX2⟩
  subst hv
  have hR2 := hR2.symm
  subst hR2
  have hC2 := hC1.cl hI2 hJ2
  have hX2 := hX2.trans hX1
  refine C_eq e0_680 t0_680 (fun _ => ?_) (fun q => absurd (rfl) q)
  exact hK Ia2 Ja2 Ra1 _ hC2 hM2 hX2
set_option maxHeartbeats 2000000 in
theorem lw_shared (h : CSt Ia Ja Ra σ) (hm : MSt Ia Ja Ra σ) (hX : Ia 0 = X) (hi : i + 6 ≤ L) (hL : L ≤ 3072) (hK : ∀ Ia' Ja' Ra' σ', CSt Ia' Ja' Ra' σ' → MSt Ia' Ja' Ra' σ' → Ia' 0 = X → Ex 0 1274 [some (.ref 0), some (.ref 1), some (.ref 152), some (.int (nI i))] [] (amSH L) Ia' Ja' Ra' Q) : Ex 0 685 [some (.ref 0), some (.ref 1), some (.ref 152), some (.int (nI i))] [] (amSH L) Ia Ja Ra Q := by
  refine LA1 e0_685 ?_
  refine LA0 e0_686 ?_
  refine LI3 e0_687 ?_
  refine Ki e0_688 kiconst_1 ?_
  refine IaddN (a := i) (b := 1) e0_689 rfl (by decide) ?_
  refine AsN (k := (i + 1)) e0_690 rfl rfl (by omega) (by omega) hX ?_
  refine LA0 e0_691 ?_
  refine LI3 e0_692 ?_
  refine Ki e0_693 kiconst_2 ?_
  refine IaddN (a := i) (b := 2) e0_694 rfl (by decide) ?_
  refine AsN (k := (i + 2)) e0_695 rfl rfl (by omega) (by omega) hX ?_
  refine Cv2p e0_696 c0_124 (o1 L) (Nat.le_of_ble_eq_true rfl) (Nat.le_of_ble_eq_true rfl) ((k_shared h).scr) ?_
  rintro v1 Ia1 Ja1 Ra1 ⟨⟨hv, hC1, hI1, hJ1, hR1⟩, hX1⟩
  subst hv
  have hm1 : MSt Ia1 Ja1 Ra1 σ := hm.cl hC1.1 hI1
  have hX1 := hX1.trans hX
  refine LA2 e0_699 ?_
  refine LA0 e0_700 ?_
  refine LI3 e0_701 ?_
  refine Ki e0_702 kiconst_1 ?_
  refine IaddN (a := i) (b := 1) e0_703 rfl (by decide) ?_
  refine AsN (k := (i + 1)) e0_704 rfl rfl (by omega) (by omega) hX1 ?_
  refine LA0 e0_705 ?_
  refine LI3 e0_706 ?_
  refine Ki e0_707 kiconst_2 ?_
  refine IaddN (a := i) (b := 2) e0_708 rfl (by decide) ?_
  refine AsN (k := (i + 2)) e0_709 rfl rfl (by omega) (by omega) hX1 ?_
  refine Cv2p e0_710 c0_203 (o152 L) (Nat.le_of_ble_eq_true rfl) (Nat.le_of_ble_eq_true rfl) ((n_shared hm1).scr) ?_
  rintro v2 Ia2 Ja2 Ra2 ⟨⟨hv, hM2, hI2, hJ2, hR2⟩, hX2⟩
  subst hv
  have hR2 := hR2.symm
  subst hR2
  have hC2 := hC1.cl hI2 hJ2
  have hX2 := hX2.trans hX1
  refine C_eq e0_713 t0_713 (fun _ => ?_) (fun q => absurd (rfl) q)
  exact hK Ia2 Ja2 Ra1 _ hC2 hM2 hX2
set_option maxHeartbeats 2000000 in
theorem lw_sign (h : CSt Ia Ja Ra σ) (hm : MSt Ia Ja Ra σ) (hX : Ia 0 = X) (hi : i + 6 ≤ L) (hL : L ≤ 3072) (hK : ∀ Ia' Ja' Ra' σ', CSt Ia' Ja' Ra' σ' → MSt Ia' Ja' Ra' σ' → Ia' 0 = X → Ex 0 1274 [some (.ref 0), some (.ref 1), some (.ref 152), some (.int (nI i))] [] (amSH L) Ia' Ja' Ra' Q) : Ex 0 718 [some (.ref 0), some (.ref 1), some (.ref 152), some (.int (nI i))] [] (amSH L) Ia Ja Ra Q := by
  refine LA1 e0_718 ?_
  refine LA0 e0_719 ?_
  refine LI3 e0_720 ?_
  refine Ki e0_721 kiconst_1 ?_
  refine IaddN (a := i) (b := 1) e0_722 rfl (by decide) ?_
  refine AsN (k := (i + 1)) e0_723 rfl rfl (by omega) (by omega) hX ?_
  refine LA0 e0_724 ?_
  refine LI3 e0_725 ?_
  refine Ki e0_726 kiconst_2 ?_
  refine IaddN (a := i) (b := 2) e0_727 rfl (by decide) ?_
  refine AsN (k := (i + 2)) e0_728 rfl rfl (by omega) (by omega) hX ?_
  refine LA0 e0_729 ?_
  refine LI3 e0_730 ?_
  refine Ki e0_731 kiconst_3 ?_
  refine IaddN (a := i) (b := 3) e0_732 rfl (by decide) ?_
  refine AsN (k := (i + 3)) e0_733 rfl rfl (by omega) (by omega) hX ?_
  refine Cv3p e0_734 c0_125 (o1 L) (Nat.le_of_ble_eq_true rfl) (Nat.le_of_ble_eq_true rfl) ((k_sign h).scr) ?_
  rintro v1 Ia1 Ja1 Ra1 ⟨⟨hv, hC1, hI1, hJ1, hR1⟩, hX1⟩
  subst hv
  have hm1 : MSt Ia1 Ja1 Ra1 σ := hm.cl hC1.1 hI1
  have hX1 := hX1.trans hX
  refine LA2 e0_737 ?_
  refine LA0 e0_738 ?_
  refine LI3 e0_739 ?_
  refine Ki e0_740 kiconst_1 ?_
  refine IaddN (a := i) (b := 1) e0_741 rfl (by decide) ?_
  refine AsN (k := (i + 1)) e0_742 rfl rfl (by omega) (by omega) hX1 ?_
  refine LA0 e0_743 ?_
  refine LI3 e0_744 ?_
  refine Ki e0_745 kiconst_2 ?_
  refine IaddN (a := i) (b := 2) e0_746 rfl (by decide) ?_
  refine AsN (k := (i + 2)) e0_747 rfl rfl (by omega) (by omega) hX1 ?_
  refine LA0 e0_748 ?_
  refine LI3 e0_749 ?_
  refine Ki e0_750 kiconst_3 ?_
  refine IaddN (a := i) (b := 3) e0_751 rfl (by decide) ?_
  refine AsN (k := (i + 3)) e0_752 rfl rfl (by omega) (by omega) hX1 ?_
  refine Cv3p e0_753 c0_204 (o152 L) (Nat.le_of_ble_eq_true rfl) (Nat.le_of_ble_eq_true rfl) ((n_sign hm1).scr) ?_
  rintro v2 Ia2 Ja2 Ra2 ⟨⟨hv, hM2, hI2, hJ2, hR2⟩, hX2⟩
  subst hv
  have hR2 := hR2.symm
  subst hR2
  have hC2 := hC1.cl hI2 hJ2
  have hX2 := hX2.trans hX1
  refine D_eq e0_756 e0_757 t0_757 (fun _ => ?_) (fun q => absurd (rfl) q)
  exact hK Ia2 Ja2 Ra1 _ hC2 hM2 hX2
set_option maxHeartbeats 2000000 in
theorem lw_signs (h : CSt Ia Ja Ra σ) (hm : MSt Ia Ja Ra σ) (hX : Ia 0 = X) (hi : i + 6 ≤ L) (hL : L ≤ 3072) (hK : ∀ Ia' Ja' Ra' σ', CSt Ia' Ja' Ra' σ' → MSt Ia' Ja' Ra' σ' → Ia' 0 = X → Ex 0 1274 [some (.ref 0), some (.ref 1), some (.ref 152), some (.int (nI i))] [] (amSH L) Ia' Ja' Ra' Q) : Ex 0 762 [some (.ref 0), some (.ref 1), some (.ref 152), some (.int (nI i))] [] (amSH L) Ia Ja Ra Q := by
  refine LA1 e0_762 ?_
  refine LA0 e0_763 ?_
  refine LI3 e0_764 ?_
  refine Ki e0_765 kiconst_1 ?_
  refine IaddN (a := i) (b := 1) e0_766 rfl (by decide) ?_
  refine AsN (k := (i + 1)) e0_767 rfl rfl (by omega) (by omega) hX ?_
  refine LA0 e0_768 ?_
  refine LI3 e0_769 ?_
  refine Ki e0_770 kiconst_2 ?_
  refine IaddN (a := i) (b := 2) e0_771 rfl (by decide) ?_
  refine AsN (k := (i + 2)) e0_772 rfl rfl (by omega) (by omega) hX ?_
  refine Cv2p e0_773 c0_126 (o1 L) (Nat.le_of_ble_eq_true rfl) (Nat.le_of_ble_eq_true rfl) ((k_signs h).scr) ?_
  rintro v1 Ia1 Ja1 Ra1 ⟨⟨hv, hC1, hI1, hJ1, hR1⟩, hX1⟩
  subst hv
  have hm1 : MSt Ia1 Ja1 Ra1 σ := hm.cl hC1.1 hI1
  have hX1 := hX1.trans hX
  refine LA2 e0_776 ?_
  refine LA0 e0_777 ?_
  refine LI3 e0_778 ?_
  refine Ki e0_779 kiconst_1 ?_
  refine IaddN (a := i) (b := 1) e0_780 rfl (by decide) ?_
  refine AsN (k := (i + 1)) e0_781 rfl rfl (by omega) (by omega) hX1 ?_
  refine LA0 e0_782 ?_
  refine LI3 e0_783 ?_
  refine Ki e0_784 kiconst_2 ?_
  refine IaddN (a := i) (b := 2) e0_785 rfl (by decide) ?_
  refine AsN (k := (i + 2)) e0_786 rfl rfl (by omega) (by omega) hX1 ?_
  refine Cv2p e0_787 c0_206 (o152 L) (Nat.le_of_ble_eq_true rfl) (Nat.le_of_ble_eq_true rfl) ((n_signs hm1).scr) ?_
  rintro v2 Ia2 Ja2 Ra2 ⟨⟨hv, hM2, hI2, hJ2, hR2⟩, hX2⟩
  subst hv
  have hR2 := hR2.symm
  subst hR2
  have hC2 := hC1.cl hI2 hJ2
  have hX2 := hX2.trans hX1
  refine D_eq e0_790 e0_791 t0_791 (fun _ => ?_) (fun q => absurd (rfl) q)
  exact hK Ia2 Ja2 Ra1 _ hC2 hM2 hX2
set_option maxHeartbeats 2000000 in
theorem lw_which (h : CSt Ia Ja Ra σ) (hm : MSt Ia Ja Ra σ) (hX : Ia 0 = X) (hi : i + 6 ≤ L) (hL : L ≤ 3072) (hK : ∀ Ia' Ja' Ra' σ', CSt Ia' Ja' Ra' σ' → MSt Ia' Ja' Ra' σ' → Ia' 0 = X → Ex 0 1274 [some (.ref 0), some (.ref 1), some (.ref 152), some (.int (nI i))] [] (amSH L) Ia' Ja' Ra' Q) : Ex 0 796 [some (.ref 0), some (.ref 1), some (.ref 152), some (.int (nI i))] [] (amSH L) Ia Ja Ra Q := by
  refine LA1 e0_796 ?_
  refine LA0 e0_797 ?_
  refine LI3 e0_798 ?_
  refine Ki e0_799 kiconst_1 ?_
  refine IaddN (a := i) (b := 1) e0_800 rfl (by decide) ?_
  refine AsN (k := (i + 1)) e0_801 rfl rfl (by omega) (by omega) hX ?_
  refine LA0 e0_802 ?_
  refine LI3 e0_803 ?_
  refine Ki e0_804 kiconst_2 ?_
  refine IaddN (a := i) (b := 2) e0_805 rfl (by decide) ?_
  refine AsN (k := (i + 2)) e0_806 rfl rfl (by omega) (by omega) hX ?_
  refine LA0 e0_807 ?_
  refine LI3 e0_808 ?_
  refine Ki e0_809 kiconst_3 ?_
  refine IaddN (a := i) (b := 3) e0_810 rfl (by decide) ?_
  refine AsN (k := (i + 3)) e0_811 rfl rfl (by omega) (by omega) hX ?_
  refine LA0 e0_812 ?_
  refine LI3 e0_813 ?_
  refine Ki e0_814 kiconst_4 ?_
  refine IaddN (a := i) (b := 4) e0_815 rfl (by decide) ?_
  refine AsN (k := (i + 4)) e0_816 rfl rfl (by omega) (by omega) hX ?_
  refine Cv4p e0_817 c0_127 (o1 L) (Nat.le_of_ble_eq_true rfl) (Nat.le_of_ble_eq_true rfl) ((k_which h).scr) ?_
  rintro v1 Ia1 Ja1 Ra1 ⟨⟨hv, hC1, hI1, hJ1, hR1⟩, hX1⟩
  subst hv
  have hm1 : MSt Ia1 Ja1 Ra1 σ := hm.cl hC1.1 hI1
  have hX1 := hX1.trans hX
  refine LA2 e0_820 ?_
  refine LA0 e0_821 ?_
  refine LI3 e0_822 ?_
  refine Ki e0_823 kiconst_1 ?_
  refine IaddN (a := i) (b := 1) e0_824 rfl (by decide) ?_
  refine AsN (k := (i + 1)) e0_825 rfl rfl (by omega) (by omega) hX1 ?_
  refine LA0 e0_826 ?_
  refine LI3 e0_827 ?_
  refine Ki e0_828 kiconst_2 ?_
  refine IaddN (a := i) (b := 2) e0_829 rfl (by decide) ?_
  refine AsN (k := (i + 2)) e0_830 rfl rfl (by omega) (by omega) hX1 ?_
  refine LA0 e0_831 ?_
  refine LI3 e0_832 ?_
  refine Ki e0_833 kiconst_3 ?_
  refine IaddN (a := i) (b := 3) e0_834 rfl (by decide) ?_
  refine AsN (k := (i + 3)) e0_835 rfl rfl (by omega) (by omega) hX1 ?_
  refine LA0 e0_836 ?_
  refine LI3 e0_837 ?_
  refine Ki e0_838 kiconst_4 ?_
  refine IaddN (a := i) (b := 4) e0_839 rfl (by decide) ?_
  refine AsN (k := (i + 4)) e0_840 rfl rfl (by omega) (by omega) hX1 ?_
  refine Cv4p e0_841 c0_209 (o152 L) (Nat.le_of_ble_eq_true rfl) (Nat.le_of_ble_eq_true rfl) ((n_which hm1).scr) ?_
  rintro v2 Ia2 Ja2 Ra2 ⟨⟨hv, hM2, hI2, hJ2, hR2⟩, hX2⟩
  subst hv
  have hR2 := hR2.symm
  subst hR2
  have hC2 := hC1.cl hI2 hJ2
  have hX2 := hX2.trans hX1
  refine D_eq e0_844 e0_845 t0_845 (fun _ => ?_) (fun q => absurd (rfl) q)
  exact hK Ia2 Ja2 Ra1 _ hC2 hM2 hX2
set_option maxHeartbeats 2000000 in
theorem lw_fraction (h : CSt Ia Ja Ra σ) (hm : MSt Ia Ja Ra σ) (hX : Ia 0 = X) (hi : i + 6 ≤ L) (hL : L ≤ 3072) (hK : ∀ Ia' Ja' Ra' σ', CSt Ia' Ja' Ra' σ' → MSt Ia' Ja' Ra' σ' → Ia' 0 = X → Ex 0 1274 [some (.ref 0), some (.ref 1), some (.ref 152), some (.int (nI i))] [] (amSH L) Ia' Ja' Ra' Q) : Ex 0 850 [some (.ref 0), some (.ref 1), some (.ref 152), some (.int (nI i))] [] (amSH L) Ia Ja Ra Q := by
  refine LA1 e0_850 ?_
  refine LA0 e0_851 ?_
  refine LI3 e0_852 ?_
  refine Ki e0_853 kiconst_1 ?_
  refine IaddN (a := i) (b := 1) e0_854 rfl (by decide) ?_
  refine AsN (k := (i + 1)) e0_855 rfl rfl (by omega) (by omega) hX ?_
  refine LA0 e0_856 ?_
  refine LI3 e0_857 ?_
  refine Ki e0_858 kiconst_2 ?_
  refine IaddN (a := i) (b := 2) e0_859 rfl (by decide) ?_
  refine AsN (k := (i + 2)) e0_860 rfl rfl (by omega) (by omega) hX ?_
  refine LA0 e0_861 ?_
  refine LI3 e0_862 ?_
  refine Ki e0_863 kiconst_3 ?_
  refine IaddN (a := i) (b := 3) e0_864 rfl (by decide) ?_
  refine AsN (k := (i + 3)) e0_865 rfl rfl (by omega) (by omega) hX ?_
  refine Cv3p e0_866 c0_128 (o1 L) (Nat.le_of_ble_eq_true rfl) (Nat.le_of_ble_eq_true rfl) ((k_fraction h).scr) ?_
  rintro v1 Ia1 Ja1 Ra1 ⟨⟨hv, hC1, hI1, hJ1, hR1⟩, hX1⟩
  subst hv
  have hm1 : MSt Ia1 Ja1 Ra1 σ := hm.cl hC1.1 hI1
  have hX1 := hX1.trans hX
  refine LA2 e0_869 ?_
  refine LA0 e0_870 ?_
  refine LI3 e0_871 ?_
  refine Ki e0_872 kiconst_1 ?_
  refine IaddN (a := i) (b := 1) e0_873 rfl (by decide) ?_
  refine AsN (k := (i + 1)) e0_874 rfl rfl (by omega) (by omega) hX1 ?_
  refine LA0 e0_875 ?_
  refine LI3 e0_876 ?_
  refine Ki e0_877 kiconst_2 ?_
  refine IaddN (a := i) (b := 2) e0_878 rfl (by decide) ?_
  refine AsN (k := (i + 2)) e0_879 rfl rfl (by omega) (by omega) hX1 ?_
  refine LA0 e0_880 ?_
  refine LI3 e0_881 ?_
  refine Ki e0_882 kiconst_3 ?_
  refine IaddN (a := i) (b := 3) e0_883 rfl (by decide) ?_
  refine AsN (k := (i + 3)) e0_884 rfl rfl (by omega) (by omega) hX1 ?_
  refine Cv3p e0_885 c0_212 (o152 L) (Nat.le_of_ble_eq_true rfl) (Nat.le_of_ble_eq_true rfl) ((n_fraction hm1).scr) ?_
  rintro v2 Ia2 Ja2 Ra2 ⟨⟨hv, hM2, hI2, hJ2, hR2⟩, hX2⟩
  subst hv
  have hR2 := hR2.symm
  subst hR2
  have hC2 := hC1.cl hI2 hJ2
  have hX2 := hX2.trans hX1
  refine D_eq e0_888 e0_889 t0_889 (fun _ => ?_) (fun q => absurd (rfl) q)
  exact hK Ia2 Ja2 Ra1 _ hC2 hM2 hX2
set_option maxHeartbeats 2000000 in
theorem lw_feed (h : CSt Ia Ja Ra σ) (hm : MSt Ia Ja Ra σ) (hX : Ia 0 = X) (hi : i + 6 ≤ L) (hL : L ≤ 3072) (hK : ∀ Ia' Ja' Ra' σ', CSt Ia' Ja' Ra' σ' → MSt Ia' Ja' Ra' σ' → Ia' 0 = X → Ex 0 1274 [some (.ref 0), some (.ref 1), some (.ref 152), some (.int (nI i))] [] (amSH L) Ia' Ja' Ra' Q) : Ex 0 894 [some (.ref 0), some (.ref 1), some (.ref 152), some (.int (nI i))] [] (amSH L) Ia Ja Ra Q := by
  refine LA1 e0_894 ?_
  refine LA0 e0_895 ?_
  refine LI3 e0_896 ?_
  refine Ki e0_897 kiconst_1 ?_
  refine IaddN (a := i) (b := 1) e0_898 rfl (by decide) ?_
  refine AsN (k := (i + 1)) e0_899 rfl rfl (by omega) (by omega) hX ?_
  refine Cv1p e0_900 c0_129 (o1 L) (Nat.le_of_ble_eq_true rfl) (Nat.le_of_ble_eq_true rfl) ((k_feed h).scr) ?_
  rintro v1 Ia1 Ja1 Ra1 ⟨⟨hv, hC1, hI1, hJ1, hR1⟩, hX1⟩
  subst hv
  have hm1 : MSt Ia1 Ja1 Ra1 σ := hm.cl hC1.1 hI1
  have hX1 := hX1.trans hX
  refine LA2 e0_903 ?_
  refine LA0 e0_904 ?_
  refine LI3 e0_905 ?_
  refine Ki e0_906 kiconst_1 ?_
  refine IaddN (a := i) (b := 1) e0_907 rfl (by decide) ?_
  refine AsN (k := (i + 1)) e0_908 rfl rfl (by omega) (by omega) hX1 ?_
  refine Cv1p e0_909 c0_220 (o152 L) (Nat.le_of_ble_eq_true rfl) (Nat.le_of_ble_eq_true rfl) ((n_feed hm1).scr) ?_
  rintro v2 Ia2 Ja2 Ra2 ⟨⟨hv, hM2, hI2, hJ2, hR2⟩, hX2⟩
  subst hv
  have hR2 := hR2.symm
  subst hR2
  have hC2 := hC1.cl hI2 hJ2
  have hX2 := hX2.trans hX1
  refine C_eq e0_912 t0_912 (fun _ => ?_) (fun q => absurd (rfl) q)
  exact hK Ia2 Ja2 Ra1 _ hC2 hM2 hX2
set_option maxHeartbeats 2000000 in
theorem lw_reads (h : CSt Ia Ja Ra σ) (hm : MSt Ia Ja Ra σ) (hX : Ia 0 = X) (hi : i + 6 ≤ L) (hL : L ≤ 3072) (hK : ∀ Ia' Ja' Ra' σ', CSt Ia' Ja' Ra' σ' → MSt Ia' Ja' Ra' σ' → Ia' 0 = X → Ex 0 1274 [some (.ref 0), some (.ref 1), some (.ref 152), some (.int (nI i))] [] (amSH L) Ia' Ja' Ra' Q) : Ex 0 917 [some (.ref 0), some (.ref 1), some (.ref 152), some (.int (nI i))] [] (amSH L) Ia Ja Ra Q := by
  refine LA1 e0_917 ?_
  refine Cv0p e0_918 c0_130 (o1 L) (Nat.le_of_ble_eq_true rfl) (Nat.le_of_ble_eq_true rfl) ((k_reads h).scr) ?_
  rintro v1 Ia1 Ja1 Ra1 ⟨⟨hv, hC1, hI1, hJ1, hR1⟩, hX1⟩
  subst hv
  have hm1 : MSt Ia1 Ja1 Ra1 σ := hm.cl hC1.1 hI1
  have hX1 := hX1.trans hX
  refine LA2 e0_921 ?_
  refine Cv0p e0_922 c0_231 (o152 L) (Nat.le_of_ble_eq_true rfl) (Nat.le_of_ble_eq_true rfl) ((n_reads hm1 h.2.2.2.2.1.2.2.2).scr) ?_
  rintro v2 Ia2 Ja2 Ra2 ⟨⟨hv, hM2, hI2, hJ2, hR2⟩, hX2⟩
  subst hv
  have hR2 := hR2.symm
  subst hR2
  have hC2 := hC1.cl hI2 hJ2
  have hX2 := hX2.trans hX1
  refine C_eq e0_925 t0_925 (fun _ => ?_) (fun q => absurd (rfl) q)
  exact hK Ia2 Ja2 Ra1 _ hC2 hM2 hX2
set_option maxHeartbeats 2000000 in
theorem lw_prints (h : CSt Ia Ja Ra σ) (hm : MSt Ia Ja Ra σ) (hX : Ia 0 = X) (hi : i + 6 ≤ L) (hL : L ≤ 3072) (hK : ∀ Ia' Ja' Ra' σ', CSt Ia' Ja' Ra' σ' → MSt Ia' Ja' Ra' σ' → Ia' 0 = X → Ex 0 1274 [some (.ref 0), some (.ref 1), some (.ref 152), some (.int (nI i))] [] (amSH L) Ia' Ja' Ra' Q) : Ex 0 930 [some (.ref 0), some (.ref 1), some (.ref 152), some (.int (nI i))] [] (amSH L) Ia Ja Ra Q := by
  refine LA1 e0_930 ?_
  refine LA0 e0_931 ?_
  refine LI3 e0_932 ?_
  refine Ki e0_933 kiconst_1 ?_
  refine IaddN (a := i) (b := 1) e0_934 rfl (by decide) ?_
  refine AsN (k := (i + 1)) e0_935 rfl rfl (by omega) (by omega) hX ?_
  refine Cv1p e0_936 c0_131 (o1 L) (Nat.le_of_ble_eq_true rfl) (Nat.le_of_ble_eq_true rfl) ((k_prints h).scr) ?_
  rintro v1 Ia1 Ja1 Ra1 ⟨⟨hv, hC1, hI1, hJ1, hR1⟩, hX1⟩
  subst hv
  have hm1 : MSt Ia1 Ja1 Ra1 σ := hm.cl hC1.1 hI1
  have hX1 := hX1.trans hX
  refine LA2 e0_939 ?_
  refine LA0 e0_940 ?_
  refine LI3 e0_941 ?_
  refine Ki e0_942 kiconst_1 ?_
  refine IaddN (a := i) (b := 1) e0_943 rfl (by decide) ?_
  refine AsN (k := (i + 1)) e0_944 rfl rfl (by omega) (by omega) hX1 ?_
  refine Cv1p e0_945 c0_234 (o152 L) (Nat.le_of_ble_eq_true rfl) (Nat.le_of_ble_eq_true rfl) ((n_prints hm1).scr) ?_
  rintro v2 Ia2 Ja2 Ra2 ⟨⟨hv, hM2, hI2, hJ2, hR2⟩, hX2⟩
  subst hv
  have hR2 := hR2.symm
  subst hR2
  have hC2 := hC1.cl hI2 hJ2
  have hX2 := hX2.trans hX1
  refine C_eq e0_948 t0_948 (fun _ => ?_) (fun q => absurd (rfl) q)
  exact hK Ia2 Ja2 Ra1 _ hC2 hM2 hX2
set_option maxHeartbeats 2000000 in
theorem lw_paper (h : CSt Ia Ja Ra σ) (hm : MSt Ia Ja Ra σ) (hX : Ia 0 = X) (hi : i + 6 ≤ L) (hL : L ≤ 3072) (hK : ∀ Ia' Ja' Ra' σ', CSt Ia' Ja' Ra' σ' → MSt Ia' Ja' Ra' σ' → Ia' 0 = X → Ex 0 1274 [some (.ref 0), some (.ref 1), some (.ref 152), some (.int (nI i))] [] (amSH L) Ia' Ja' Ra' Q) : Ex 0 953 [some (.ref 0), some (.ref 1), some (.ref 152), some (.int (nI i))] [] (amSH L) Ia Ja Ra Q := by
  refine LA1 e0_953 ?_
  refine LA0 e0_954 ?_
  refine LI3 e0_955 ?_
  refine Ki e0_956 kiconst_1 ?_
  refine IaddN (a := i) (b := 1) e0_957 rfl (by decide) ?_
  refine AsN (k := (i + 1)) e0_958 rfl rfl (by omega) (by omega) hX ?_
  refine Cv1p e0_959 c0_132 (o1 L) (Nat.le_of_ble_eq_true rfl) (Nat.le_of_ble_eq_true rfl) ((k_paper h).scr) ?_
  rintro v1 Ia1 Ja1 Ra1 ⟨⟨hv, hC1, hI1, hJ1, hR1⟩, hX1⟩
  subst hv
  have hm1 : MSt Ia1 Ja1 Ra1 σ := hm.cl hC1.1 hI1
  have hX1 := hX1.trans hX
  refine LA2 e0_962 ?_
  refine LA0 e0_963 ?_
  refine LI3 e0_964 ?_
  refine Ki e0_965 kiconst_1 ?_
  refine IaddN (a := i) (b := 1) e0_966 rfl (by decide) ?_
  refine AsN (k := (i + 1)) e0_967 rfl rfl (by omega) (by omega) hX1 ?_
  refine Cv1p e0_968 c0_235 (o152 L) (Nat.le_of_ble_eq_true rfl) (Nat.le_of_ble_eq_true rfl) ((n_paper hm1).scr) ?_
  rintro v2 Ia2 Ja2 Ra2 ⟨⟨hv, hM2, hI2, hJ2, hR2⟩, hX2⟩
  subst hv
  have hR2 := hR2.symm
  subst hR2
  have hC2 := hC1.cl hI2 hJ2
  have hX2 := hX2.trans hX1
  refine C_eq e0_971 t0_971 (fun _ => ?_) (fun q => absurd (rfl) q)
  exact hK Ia2 Ja2 Ra1 _ hC2 hM2 hX2
set_option maxHeartbeats 2000000 in
theorem lw_judge (h : CSt Ia Ja Ra σ) (hm : MSt Ia Ja Ra σ) (hX : Ia 0 = X) (hi : i + 6 ≤ L) (hL : L ≤ 3072) (hK : ∀ Ia' Ja' Ra' σ', CSt Ia' Ja' Ra' σ' → MSt Ia' Ja' Ra' σ' → Ia' 0 = X → Ex 0 1274 [some (.ref 0), some (.ref 1), some (.ref 152), some (.int (nI i))] [] (amSH L) Ia' Ja' Ra' Q) : Ex 0 976 [some (.ref 0), some (.ref 1), some (.ref 152), some (.int (nI i))] [] (amSH L) Ia Ja Ra Q := by
  refine LA1 e0_976 ?_
  refine LA0 e0_977 ?_
  refine LI3 e0_978 ?_
  refine Ki e0_979 kiconst_1 ?_
  refine IaddN (a := i) (b := 1) e0_980 rfl (by decide) ?_
  refine AsN (k := (i + 1)) e0_981 rfl rfl (by omega) (by omega) hX ?_
  refine LA0 e0_982 ?_
  refine LI3 e0_983 ?_
  refine Ki e0_984 kiconst_2 ?_
  refine IaddN (a := i) (b := 2) e0_985 rfl (by decide) ?_
  refine AsN (k := (i + 2)) e0_986 rfl rfl (by omega) (by omega) hX ?_
  refine LA0 e0_987 ?_
  refine LI3 e0_988 ?_
  refine Ki e0_989 kiconst_3 ?_
  refine IaddN (a := i) (b := 3) e0_990 rfl (by decide) ?_
  refine AsN (k := (i + 3)) e0_991 rfl rfl (by omega) (by omega) hX ?_
  refine Cv3p e0_992 c0_133 (o1 L) (Nat.le_of_ble_eq_true rfl) (Nat.le_of_ble_eq_true rfl) ((k_judge h).scr) ?_
  rintro v1 Ia1 Ja1 Ra1 ⟨⟨hv, hC1, hI1, hJ1, hR1⟩, hX1⟩
  subst hv
  have hm1 : MSt Ia1 Ja1 Ra1 σ := hm.cl hC1.1 hI1
  have hX1 := hX1.trans hX
  refine LA2 e0_995 ?_
  refine LA0 e0_996 ?_
  refine LI3 e0_997 ?_
  refine Ki e0_998 kiconst_1 ?_
  refine IaddN (a := i) (b := 1) e0_999 rfl (by decide) ?_
  refine AsN (k := (i + 1)) e0_1000 rfl rfl (by omega) (by omega) hX1 ?_
  refine LA0 e0_1001 ?_
  refine LI3 e0_1002 ?_
  refine Ki e0_1003 kiconst_2 ?_
  refine IaddN (a := i) (b := 2) e0_1004 rfl (by decide) ?_
  refine AsN (k := (i + 2)) e0_1005 rfl rfl (by omega) (by omega) hX1 ?_
  refine LA0 e0_1006 ?_
  refine LI3 e0_1007 ?_
  refine Ki e0_1008 kiconst_3 ?_
  refine IaddN (a := i) (b := 3) e0_1009 rfl (by decide) ?_
  refine AsN (k := (i + 3)) e0_1010 rfl rfl (by omega) (by omega) hX1 ?_
  refine Cv3p e0_1011 c0_237 (o152 L) (Nat.le_of_ble_eq_true rfl) (Nat.le_of_ble_eq_true rfl) ((n_judge hm1).scr) ?_
  rintro v2 Ia2 Ja2 Ra2 ⟨⟨hv, hM2, hI2, hJ2, hR2⟩, hX2⟩
  subst hv
  have hR2 := hR2.symm
  subst hR2
  have hC2 := hC1.cl hI2 hJ2
  have hX2 := hX2.trans hX1
  refine C_eq e0_1014 t0_1014 (fun _ => ?_) (fun q => absurd (rfl) q)
  exact hK Ia2 Ja2 Ra1 _ hC2 hM2 hX2
set_option maxHeartbeats 2000000 in
theorem lw_lots (h : CSt Ia Ja Ra σ) (hm : MSt Ia Ja Ra σ) (hX : Ia 0 = X) (hi : i + 6 ≤ L) (hL : L ≤ 3072) (hK : ∀ Ia' Ja' Ra' σ', CSt Ia' Ja' Ra' σ' → MSt Ia' Ja' Ra' σ' → Ia' 0 = X → Ex 0 1274 [some (.ref 0), some (.ref 1), some (.ref 152), some (.int (nI i))] [] (amSH L) Ia' Ja' Ra' Q) : Ex 0 1019 [some (.ref 0), some (.ref 1), some (.ref 152), some (.int (nI i))] [] (amSH L) Ia Ja Ra Q := by
  refine LA1 e0_1019 ?_
  refine LA0 e0_1020 ?_
  refine LI3 e0_1021 ?_
  refine Ki e0_1022 kiconst_1 ?_
  refine IaddN (a := i) (b := 1) e0_1023 rfl (by decide) ?_
  refine AsN (k := (i + 1)) e0_1024 rfl rfl (by omega) (by omega) hX ?_
  refine LA0 e0_1025 ?_
  refine LI3 e0_1026 ?_
  refine Ki e0_1027 kiconst_2 ?_
  refine IaddN (a := i) (b := 2) e0_1028 rfl (by decide) ?_
  refine AsN (k := (i + 2)) e0_1029 rfl rfl (by omega) (by omega) hX ?_
  refine LA0 e0_1030 ?_
  refine LI3 e0_1031 ?_
  refine Ki e0_1032 kiconst_3 ?_
  refine IaddN (a := i) (b := 3) e0_1033 rfl (by decide) ?_
  refine AsN (k := (i + 3)) e0_1034 rfl rfl (by omega) (by omega) hX ?_
  refine LA0 e0_1035 ?_
  refine LI3 e0_1036 ?_
  refine Ki e0_1037 kiconst_4 ?_
  refine IaddN (a := i) (b := 4) e0_1038 rfl (by decide) ?_
  refine AsN (k := (i + 4)) e0_1039 rfl rfl (by omega) (by omega) hX ?_
  refine Cv4p e0_1040 c0_134 (o1 L) (Nat.le_of_ble_eq_true rfl) (Nat.le_of_ble_eq_true rfl) ((k_lots h).scr) ?_
  rintro v1 Ia1 Ja1 Ra1 ⟨⟨hv, hC1, hI1, hJ1, hR1⟩, hX1⟩
  subst hv
  have hm1 : MSt Ia1 Ja1 Ra1 σ := hm.cl hC1.1 hI1
  have hX1 := hX1.trans hX
  refine LA2 e0_1043 ?_
  refine LA0 e0_1044 ?_
  refine LI3 e0_1045 ?_
  refine Ki e0_1046 kiconst_1 ?_
  refine IaddN (a := i) (b := 1) e0_1047 rfl (by decide) ?_
  refine AsN (k := (i + 1)) e0_1048 rfl rfl (by omega) (by omega) hX1 ?_
  refine LA0 e0_1049 ?_
  refine LI3 e0_1050 ?_
  refine Ki e0_1051 kiconst_2 ?_
  refine IaddN (a := i) (b := 2) e0_1052 rfl (by decide) ?_
  refine AsN (k := (i + 2)) e0_1053 rfl rfl (by omega) (by omega) hX1 ?_
  refine LA0 e0_1054 ?_
  refine LI3 e0_1055 ?_
  refine Ki e0_1056 kiconst_3 ?_
  refine IaddN (a := i) (b := 3) e0_1057 rfl (by decide) ?_
  refine AsN (k := (i + 3)) e0_1058 rfl rfl (by omega) (by omega) hX1 ?_
  refine LA0 e0_1059 ?_
  refine LI3 e0_1060 ?_
  refine Ki e0_1061 kiconst_4 ?_
  refine IaddN (a := i) (b := 4) e0_1062 rfl (by decide) ?_
  refine AsN (k := (i + 4)) e0_1063 rfl rfl (by omega) (by omega) hX1 ?_
  refine Cv4p e0_1064 c0_239 (o152 L) (Nat.le_of_ble_eq_true rfl) (Nat.le_of_ble_eq_true rfl) ((n_lots hm1).scr) ?_
  rintro v2 Ia2 Ja2 Ra2 ⟨⟨hv, hM2, hI2, hJ2, hR2⟩, hX2⟩
  subst hv
  have hR2 := hR2.symm
  subst hR2
  have hC2 := hC1.cl hI2 hJ2
  have hX2 := hX2.trans hX1
  refine C_eq e0_1067 t0_1067 (fun _ => ?_) (fun q => absurd (rfl) q)
  exact hK Ia2 Ja2 Ra1 _ hC2 hM2 hX2
set_option maxHeartbeats 2000000 in
theorem lw_list (h : CSt Ia Ja Ra σ) (hm : MSt Ia Ja Ra σ) (hX : Ia 0 = X) (hi : i + 6 ≤ L) (hL : L ≤ 3072) (hK : ∀ Ia' Ja' Ra' σ', CSt Ia' Ja' Ra' σ' → MSt Ia' Ja' Ra' σ' → Ia' 0 = X → Ex 0 1274 [some (.ref 0), some (.ref 1), some (.ref 152), some (.int (nI i))] [] (amSH L) Ia' Ja' Ra' Q) : Ex 0 1072 [some (.ref 0), some (.ref 1), some (.ref 152), some (.int (nI i))] [] (amSH L) Ia Ja Ra Q := by
  refine LA1 e0_1072 ?_
  refine LA0 e0_1073 ?_
  refine LI3 e0_1074 ?_
  refine Ki e0_1075 kiconst_1 ?_
  refine IaddN (a := i) (b := 1) e0_1076 rfl (by decide) ?_
  refine AsN (k := (i + 1)) e0_1077 rfl rfl (by omega) (by omega) hX ?_
  refine LA0 e0_1078 ?_
  refine LI3 e0_1079 ?_
  refine Ki e0_1080 kiconst_2 ?_
  refine IaddN (a := i) (b := 2) e0_1081 rfl (by decide) ?_
  refine AsN (k := (i + 2)) e0_1082 rfl rfl (by omega) (by omega) hX ?_
  refine Cv2p e0_1083 c0_135 (o1 L) (Nat.le_of_ble_eq_true rfl) (Nat.le_of_ble_eq_true rfl) ((k_list h).scr) ?_
  rintro v1 Ia1 Ja1 Ra1 ⟨⟨hv, hC1, hI1, hJ1, hR1⟩, hX1⟩
  subst hv
  have hm1 : MSt Ia1 Ja1 Ra1 σ := hm.cl hC1.1 hI1
  have hX1 := hX1.trans hX
  refine LA2 e0_1086 ?_
  refine LA0 e0_1087 ?_
  refine LI3 e0_1088 ?_
  refine Ki e0_1089 kiconst_1 ?_
  refine IaddN (a := i) (b := 1) e0_1090 rfl (by decide) ?_
  refine AsN (k := (i + 1)) e0_1091 rfl rfl (by omega) (by omega) hX1 ?_
  refine LA0 e0_1092 ?_
  refine LI3 e0_1093 ?_
  refine Ki e0_1094 kiconst_2 ?_
  refine IaddN (a := i) (b := 2) e0_1095 rfl (by decide) ?_
  refine AsN (k := (i + 2)) e0_1096 rfl rfl (by omega) (by omega) hX1 ?_
  refine Cv2p e0_1097 c0_241 (o152 L) (Nat.le_of_ble_eq_true rfl) (Nat.le_of_ble_eq_true rfl) ((n_list hm1).scr) ?_
  rintro v2 Ia2 Ja2 Ra2 ⟨⟨hv, hM2, hI2, hJ2, hR2⟩, hX2⟩
  subst hv
  have hR2 := hR2.symm
  subst hR2
  have hC2 := hC1.cl hI2 hJ2
  have hX2 := hX2.trans hX1
  refine C_eq e0_1100 t0_1100 (fun _ => ?_) (fun q => absurd (rfl) q)
  exact hK Ia2 Ja2 Ra1 _ hC2 hM2 hX2
set_option maxHeartbeats 2000000 in
theorem lw_set (h : CSt Ia Ja Ra σ) (hm : MSt Ia Ja Ra σ) (hX : Ia 0 = X) (hi : i + 6 ≤ L) (hL : L ≤ 3072) (hK : ∀ Ia' Ja' Ra' σ', CSt Ia' Ja' Ra' σ' → MSt Ia' Ja' Ra' σ' → Ia' 0 = X → Ex 0 1274 [some (.ref 0), some (.ref 1), some (.ref 152), some (.int (nI i))] [] (amSH L) Ia' Ja' Ra' Q) : Ex 0 1105 [some (.ref 0), some (.ref 1), some (.ref 152), some (.int (nI i))] [] (amSH L) Ia Ja Ra Q := by
  refine LA1 e0_1105 ?_
  refine LA0 e0_1106 ?_
  refine LI3 e0_1107 ?_
  refine Ki e0_1108 kiconst_1 ?_
  refine IaddN (a := i) (b := 1) e0_1109 rfl (by decide) ?_
  refine AsN (k := (i + 1)) e0_1110 rfl rfl (by omega) (by omega) hX ?_
  refine LA0 e0_1111 ?_
  refine LI3 e0_1112 ?_
  refine Ki e0_1113 kiconst_2 ?_
  refine IaddN (a := i) (b := 2) e0_1114 rfl (by decide) ?_
  refine AsN (k := (i + 2)) e0_1115 rfl rfl (by omega) (by omega) hX ?_
  refine LA0 e0_1116 ?_
  refine LI3 e0_1117 ?_
  refine Ki e0_1118 kiconst_3 ?_
  refine IaddN (a := i) (b := 3) e0_1119 rfl (by decide) ?_
  refine AsN (k := (i + 3)) e0_1120 rfl rfl (by omega) (by omega) hX ?_
  refine Cv3p e0_1121 c0_136 (o1 L) (Nat.le_of_ble_eq_true rfl) (Nat.le_of_ble_eq_true rfl) ((k_set h).scr) ?_
  rintro v1 Ia1 Ja1 Ra1 ⟨⟨hv, hC1, hI1, hJ1, hR1⟩, hX1⟩
  subst hv
  have hm1 : MSt Ia1 Ja1 Ra1 σ := hm.cl hC1.1 hI1
  have hX1 := hX1.trans hX
  refine LA2 e0_1124 ?_
  refine LA0 e0_1125 ?_
  refine LI3 e0_1126 ?_
  refine Ki e0_1127 kiconst_1 ?_
  refine IaddN (a := i) (b := 1) e0_1128 rfl (by decide) ?_
  refine AsN (k := (i + 1)) e0_1129 rfl rfl (by omega) (by omega) hX1 ?_
  refine LA0 e0_1130 ?_
  refine LI3 e0_1131 ?_
  refine Ki e0_1132 kiconst_2 ?_
  refine IaddN (a := i) (b := 2) e0_1133 rfl (by decide) ?_
  refine AsN (k := (i + 2)) e0_1134 rfl rfl (by omega) (by omega) hX1 ?_
  refine LA0 e0_1135 ?_
  refine LI3 e0_1136 ?_
  refine Ki e0_1137 kiconst_3 ?_
  refine IaddN (a := i) (b := 3) e0_1138 rfl (by decide) ?_
  refine AsN (k := (i + 3)) e0_1139 rfl rfl (by omega) (by omega) hX1 ?_
  refine Cv3p e0_1140 c0_242 (o152 L) (Nat.le_of_ble_eq_true rfl) (Nat.le_of_ble_eq_true rfl) ((n_set hm1).scr) ?_
  rintro v2 Ia2 Ja2 Ra2 ⟨⟨hv, hM2, hI2, hJ2, hR2⟩, hX2⟩
  subst hv
  have hR2 := hR2.symm
  subst hR2
  have hC2 := hC1.cl hI2 hJ2
  have hX2 := hX2.trans hX1
  refine C_eq e0_1143 t0_1143 (fun _ => ?_) (fun q => absurd (rfl) q)
  exact hK Ia2 Ja2 Ra1 _ hC2 hM2 hX2
set_option maxHeartbeats 2000000 in
theorem lw_get (h : CSt Ia Ja Ra σ) (hm : MSt Ia Ja Ra σ) (hX : Ia 0 = X) (hi : i + 6 ≤ L) (hL : L ≤ 3072) (hK : ∀ Ia' Ja' Ra' σ', CSt Ia' Ja' Ra' σ' → MSt Ia' Ja' Ra' σ' → Ia' 0 = X → Ex 0 1274 [some (.ref 0), some (.ref 1), some (.ref 152), some (.int (nI i))] [] (amSH L) Ia' Ja' Ra' Q) : Ex 0 1148 [some (.ref 0), some (.ref 1), some (.ref 152), some (.int (nI i))] [] (amSH L) Ia Ja Ra Q := by
  refine LA1 e0_1148 ?_
  refine LA0 e0_1149 ?_
  refine LI3 e0_1150 ?_
  refine Ki e0_1151 kiconst_1 ?_
  refine IaddN (a := i) (b := 1) e0_1152 rfl (by decide) ?_
  refine AsN (k := (i + 1)) e0_1153 rfl rfl (by omega) (by omega) hX ?_
  refine LA0 e0_1154 ?_
  refine LI3 e0_1155 ?_
  refine Ki e0_1156 kiconst_2 ?_
  refine IaddN (a := i) (b := 2) e0_1157 rfl (by decide) ?_
  refine AsN (k := (i + 2)) e0_1158 rfl rfl (by omega) (by omega) hX ?_
  refine Cv2p e0_1159 c0_137 (o1 L) (Nat.le_of_ble_eq_true rfl) (Nat.le_of_ble_eq_true rfl) ((k_get h).scr) ?_
  rintro v1 Ia1 Ja1 Ra1 ⟨⟨hv, hC1, hI1, hJ1, hR1⟩, hX1⟩
  subst hv
  have hm1 : MSt Ia1 Ja1 Ra1 σ := hm.cl hC1.1 hI1
  have hX1 := hX1.trans hX
  refine LA2 e0_1162 ?_
  refine LA0 e0_1163 ?_
  refine LI3 e0_1164 ?_
  refine Ki e0_1165 kiconst_1 ?_
  refine IaddN (a := i) (b := 1) e0_1166 rfl (by decide) ?_
  refine AsN (k := (i + 1)) e0_1167 rfl rfl (by omega) (by omega) hX1 ?_
  refine LA0 e0_1168 ?_
  refine LI3 e0_1169 ?_
  refine Ki e0_1170 kiconst_2 ?_
  refine IaddN (a := i) (b := 2) e0_1171 rfl (by decide) ?_
  refine AsN (k := (i + 2)) e0_1172 rfl rfl (by omega) (by omega) hX1 ?_
  refine Cv2p e0_1173 c0_243 (o152 L) (Nat.le_of_ble_eq_true rfl) (Nat.le_of_ble_eq_true rfl) ((n_get hm1).scr) ?_
  rintro v2 Ia2 Ja2 Ra2 ⟨⟨hv, hM2, hI2, hJ2, hR2⟩, hX2⟩
  subst hv
  have hR2 := hR2.symm
  subst hR2
  have hC2 := hC1.cl hI2 hJ2
  have hX2 := hX2.trans hX1
  refine D_eq e0_1176 e0_1177 t0_1177 (fun _ => ?_) (fun q => absurd (rfl) q)
  exact hK Ia2 Ja2 Ra1 _ hC2 hM2 hX2
set_option maxHeartbeats 2000000 in
theorem lw_into (h : CSt Ia Ja Ra σ) (hm : MSt Ia Ja Ra σ) (hX : Ia 0 = X) (hi : i + 6 ≤ L) (hL : L ≤ 3072) (hK : ∀ Ia' Ja' Ra' σ', CSt Ia' Ja' Ra' σ' → MSt Ia' Ja' Ra' σ' → Ia' 0 = X → Ex 0 1274 [some (.ref 0), some (.ref 1), some (.ref 152), some (.int (nI i))] [] (amSH L) Ia' Ja' Ra' Q) : Ex 0 1182 [some (.ref 0), some (.ref 1), some (.ref 152), some (.int (nI i))] [] (amSH L) Ia Ja Ra Q := by
  refine LA1 e0_1182 ?_
  refine LA0 e0_1183 ?_
  refine LI3 e0_1184 ?_
  refine Ki e0_1185 kiconst_1 ?_
  refine IaddN (a := i) (b := 1) e0_1186 rfl (by decide) ?_
  refine AsN (k := (i + 1)) e0_1187 rfl rfl (by omega) (by omega) hX ?_
  refine LA0 e0_1188 ?_
  refine LI3 e0_1189 ?_
  refine Ki e0_1190 kiconst_2 ?_
  refine IaddN (a := i) (b := 2) e0_1191 rfl (by decide) ?_
  refine AsN (k := (i + 2)) e0_1192 rfl rfl (by omega) (by omega) hX ?_
  refine LA0 e0_1193 ?_
  refine LI3 e0_1194 ?_
  refine Ki e0_1195 kiconst_3 ?_
  refine IaddN (a := i) (b := 3) e0_1196 rfl (by decide) ?_
  refine AsN (k := (i + 3)) e0_1197 rfl rfl (by omega) (by omega) hX ?_
  refine Cv3p e0_1198 c0_138 (o1 L) (Nat.le_of_ble_eq_true rfl) (Nat.le_of_ble_eq_true rfl) ((k_into h).scr) ?_
  rintro v1 Ia1 Ja1 Ra1 ⟨⟨hv, hC1, hI1, hJ1, hR1⟩, hX1⟩
  subst hv
  have hm1 : MSt Ia1 Ja1 Ra1 σ := hm.cl hC1.1 hI1
  have hX1 := hX1.trans hX
  refine LA2 e0_1201 ?_
  refine LA0 e0_1202 ?_
  refine LI3 e0_1203 ?_
  refine Ki e0_1204 kiconst_1 ?_
  refine IaddN (a := i) (b := 1) e0_1205 rfl (by decide) ?_
  refine AsN (k := (i + 1)) e0_1206 rfl rfl (by omega) (by omega) hX1 ?_
  refine LA0 e0_1207 ?_
  refine LI3 e0_1208 ?_
  refine Ki e0_1209 kiconst_2 ?_
  refine IaddN (a := i) (b := 2) e0_1210 rfl (by decide) ?_
  refine AsN (k := (i + 2)) e0_1211 rfl rfl (by omega) (by omega) hX1 ?_
  refine LA0 e0_1212 ?_
  refine LI3 e0_1213 ?_
  refine Ki e0_1214 kiconst_3 ?_
  refine IaddN (a := i) (b := 3) e0_1215 rfl (by decide) ?_
  refine AsN (k := (i + 3)) e0_1216 rfl rfl (by omega) (by omega) hX1 ?_
  refine Cv3p e0_1217 c0_244 (o152 L) (Nat.le_of_ble_eq_true rfl) (Nat.le_of_ble_eq_true rfl) ((n_into hm1).scr) ?_
  rintro v2 Ia2 Ja2 Ra2 ⟨⟨hv, hM2, hI2, hJ2, hR2⟩, hX2⟩
  subst hv
  have hR2 := hR2.symm
  subst hR2
  have hC2 := hC1.cl hI2 hJ2
  have hX2 := hX2.trans hX1
  refine C_eq e0_1220 t0_1220 (fun _ => ?_) (fun q => absurd (rfl) q)
  exact hK Ia2 Ja2 Ra1 _ hC2 hM2 hX2
set_option maxHeartbeats 2000000 in
theorem lw_image (h : CSt Ia Ja Ra σ) (hm : MSt Ia Ja Ra σ) (hX : Ia 0 = X) (hi : i + 6 ≤ L) (hL : L ≤ 3072) (hK : ∀ Ia' Ja' Ra' σ', CSt Ia' Ja' Ra' σ' → MSt Ia' Ja' Ra' σ' → Ia' 0 = X → Ex 0 1274 [some (.ref 0), some (.ref 1), some (.ref 152), some (.int (nI i))] [] (amSH L) Ia' Ja' Ra' Q) : Ex 0 1225 [some (.ref 0), some (.ref 1), some (.ref 152), some (.int (nI i))] [] (amSH L) Ia Ja Ra Q := by
  refine LA1 e0_1225 ?_
  refine Cv0p e0_1226 c0_139 (o1 L) (Nat.le_of_ble_eq_true rfl) (Nat.le_of_ble_eq_true rfl) ((k_image h).scr) ?_
  rintro v1 Ia1 Ja1 Ra1 ⟨⟨hv, hC1, hI1, hJ1, hR1⟩, hX1⟩
  subst hv
  have hm1 : MSt Ia1 Ja1 Ra1 σ := hm.cl hC1.1 hI1
  have hX1 := hX1.trans hX
  refine LA2 e0_1229 ?_
  refine Cv0p e0_1230 c0_245 (o152 L) (Nat.le_of_ble_eq_true rfl) (Nat.le_of_ble_eq_true rfl) ((n_image hm1).scr) ?_
  rintro v2 Ia2 Ja2 Ra2 ⟨⟨hv, hM2, hI2, hJ2, hR2⟩, hX2⟩
  subst hv
  have hR2 := hR2.symm
  subst hR2
  have hC2 := hC1.cl hI2 hJ2
  have hX2 := hX2.trans hX1
  refine C_eq e0_1233 t0_1233 (fun _ => ?_) (fun q => absurd (rfl) q)
  exact hK Ia2 Ja2 Ra1 _ hC2 hM2 hX2
set_option maxHeartbeats 2000000 in
theorem lw_back (h : CSt Ia Ja Ra σ) (hm : MSt Ia Ja Ra σ) (hX : Ia 0 = X) (hi : i + 6 ≤ L) (hL : L ≤ 3072) (hK : ∀ Ia' Ja' Ra' σ', CSt Ia' Ja' Ra' σ' → MSt Ia' Ja' Ra' σ' → Ia' 0 = X → Ex 0 1274 [some (.ref 0), some (.ref 1), some (.ref 152), some (.int (nI i))] [] (amSH L) Ia' Ja' Ra' Q) : Ex 0 1238 [some (.ref 0), some (.ref 1), some (.ref 152), some (.int (nI i))] [] (amSH L) Ia Ja Ra Q := by
  refine LA1 e0_1238 ?_
  refine Cv0p e0_1239 c0_140 (o1 L) (Nat.le_of_ble_eq_true rfl) (Nat.le_of_ble_eq_true rfl) ((k_back h).scr) ?_
  rintro v1 Ia1 Ja1 Ra1 ⟨⟨hv, hC1, hI1, hJ1, hR1⟩, hX1⟩
  subst hv
  have hm1 : MSt Ia1 Ja1 Ra1 σ := hm.cl hC1.1 hI1
  have hX1 := hX1.trans hX
  refine LA2 e0_1242 ?_
  refine Cv0p e0_1243 c0_246 (o152 L) (Nat.le_of_ble_eq_true rfl) (Nat.le_of_ble_eq_true rfl) ((n_back hm1).scr) ?_
  rintro v2 Ia2 Ja2 Ra2 ⟨⟨hv, hM2, hI2, hJ2, hR2⟩, hX2⟩
  subst hv
  have hR2 := hR2.symm
  subst hR2
  have hC2 := hC1.cl hI2 hJ2
  have hX2 := hX2.trans hX1
  refine C_eq e0_1246 t0_1246 (fun _ => ?_) (fun q => absurd (rfl) q)
  exact hK Ia2 Ja2 Ra1 _ hC2 hM2 hX2
set_option maxHeartbeats 2000000 in
theorem lw_count (h : CSt Ia Ja Ra σ) (hm : MSt Ia Ja Ra σ) (hX : Ia 0 = X) (hi : i + 6 ≤ L) (hL : L ≤ 3072) (hK : ∀ Ia' Ja' Ra' σ', CSt Ia' Ja' Ra' σ' → MSt Ia' Ja' Ra' σ' → Ia' 0 = X → Ex 0 1274 [some (.ref 0), some (.ref 1), some (.ref 152), some (.int (nI i))] [] (amSH L) Ia' Ja' Ra' Q) : Ex 0 1251 [some (.ref 0), some (.ref 1), some (.ref 152), some (.int (nI i))] [] (amSH L) Ia Ja Ra Q := by
  refine LA1 e0_1251 ?_
  refine LA0 e0_1252 ?_
  refine LI3 e0_1253 ?_
  refine Ki e0_1254 kiconst_1 ?_
  refine IaddN (a := i) (b := 1) e0_1255 rfl (by decide) ?_
  refine AsN (k := (i + 1)) e0_1256 rfl rfl (by omega) (by omega) hX ?_
  refine Cv1p e0_1257 c0_141 (o1 L) (Nat.le_of_ble_eq_true rfl) (Nat.le_of_ble_eq_true rfl) ((k_count h).scr) ?_
  rintro v1 Ia1 Ja1 Ra1 ⟨⟨hv, hC1, hI1, hJ1, hR1⟩, hX1⟩
  subst hv
  have hm1 : MSt Ia1 Ja1 Ra1 σ := hm.cl hC1.1 hI1
  have hX1 := hX1.trans hX
  refine LA2 e0_1260 ?_
  refine LA0 e0_1261 ?_
  refine LI3 e0_1262 ?_
  refine Ki e0_1263 kiconst_1 ?_
  refine IaddN (a := i) (b := 1) e0_1264 rfl (by decide) ?_
  refine AsN (k := (i + 1)) e0_1265 rfl rfl (by omega) (by omega) hX1 ?_
  refine Cv1p e0_1266 c0_247 (o152 L) (Nat.le_of_ble_eq_true rfl) (Nat.le_of_ble_eq_true rfl) ((n_count hm1).scr) ?_
  rintro v2 Ia2 Ja2 Ra2 ⟨⟨hv, hM2, hI2, hJ2, hR2⟩, hX2⟩
  subst hv
  have hR2 := hR2.symm
  subst hR2
  have hC2 := hC1.cl hI2 hJ2
  have hX2 := hX2.trans hX1
  refine C_eq e0_1269 t0_1269 (fun _ => ?_) (fun q => absurd (rfl) q)
  exact hK Ia2 Ja2 Ra1 _ hC2 hM2 hX2
set_option maxHeartbeats 2000000 in
theorem lw_loop {X : Nat → Int32} (hL : L ≤ 3072) : ∀ (m i : Nat) (Ia : amI) (Ja : amJ) (Ra : amR) (σ : PS), L - i < m → i ≤ L → CSt Ia Ja Ra σ → MSt Ia Ja Ra σ → Ia 0 = X → Ex 0 18 [some (.ref 0), some (.ref 1), some (.ref 152), some (.int (nI i))] [] (amSH L) Ia Ja Ra (fun v _ _ _ => v = some (.int 1)) := by
  intro m
  induction m with
  | zero => intro i Ia Ja Ra σ h1; omega
  | succ m ih =>
    intro i Ia Ja Ra σ h1 h2 h hm hX
    have e6 : (nI L - 6).toInt = (L : Int) - 6 := sub6 L hL
    have ei : (nI i).toInt = (i : Int) := nI_toInt (by omega)
    refine LI3 e0_18 ?_
    refine LA0 e0_19 ?_
    refine Len0 e0_20 rfl ?_
    refine Ki e0_21 kbipush_6 ?_
    refine Isub e0_23 ?_
    show Ex 0 24 _ [.int (nI L - 6), .int (nI i)] (amSH L) Ia Ja Ra _
    refine C_gt e0_24 t0_24 (fun h24 => ?_) (fun h24 => ?_)
    · refine Ki e0_1280 kiconst_1 ?_
      exact Rz e0_1281 rt0 (by decide) (rfl)
    · have hi : i + 6 ≤ L := by
        rw [i32lt, e6, ei] at h24
        omega
      refine LA0 e0_27 ?_
      refine LI3 e0_28 ?_
      refine AsN (k := i) e0_29 rfl rfl (by omega) (by omega) hX ?_
      refine Ki e0_30 kbipush_31 ?_
      refine Iand e0_32 ?_
      have hb := and31 (X i)
      have go : ∀ Ia' Ja' Ra' σ', CSt Ia' Ja' Ra' σ' → MSt Ia' Ja' Ra' σ' → Ia' 0 = X → Ex 0 1274 [some (.ref 0), some (.ref 1), some (.ref 152), some (.int (nI i))] [] (amSH L) Ia' Ja' Ra' (fun v _ _ _ => v = some (.int 1)) := fun Ia' Ja' Ra' σ' a b c => by
        refine Inc3 (d := 6) e0_1274 rfl rfl ?_
        refine Go e0_1277 t0_1277 ?_
        rw [show nI i + 6 = nI (i + 6) from by rw [show (6 : Int32) = nI 6 from rfl, ← nI_add]]
        exact ih (i + 6) Ia' Ja' Ra' σ' (by omega) (by omega) a b c
      rcases (by omega : (X i &&& 31).toInt = 0 ∨ (X i &&& 31).toInt = 1 ∨ (X i &&& 31).toInt = 2 ∨ (X i &&& 31).toInt = 3 ∨ (X i &&& 31).toInt = 4 ∨ (X i &&& 31).toInt = 5 ∨ (X i &&& 31).toInt = 6 ∨ (X i &&& 31).toInt = 7 ∨ (X i &&& 31).toInt = 8 ∨ (X i &&& 31).toInt = 9 ∨ (X i &&& 31).toInt = 10 ∨ (X i &&& 31).toInt = 11 ∨ (X i &&& 31).toInt = 12 ∨ (X i &&& 31).toInt = 13 ∨ (X i &&& 31).toInt = 14 ∨ (X i &&& 31).toInt = 15 ∨ (X i &&& 31).toInt = 16 ∨ (X i &&& 31).toInt = 17 ∨ (X i &&& 31).toInt = 18 ∨ (X i &&& 31).toInt = 19 ∨ (X i &&& 31).toInt = 20 ∨ (X i &&& 31).toInt = 21 ∨ (X i &&& 31).toInt = 22 ∨ (X i &&& 31).toInt = 23 ∨ (X i &&& 31).toInt = 24 ∨ (X i &&& 31).toInt = 25 ∨ (X i &&& 31).toInt = 26 ∨ (X i &&& 31).toInt = 27 ∨ (X i &&& 31).toInt = 28 ∨ (X i &&& 31).toInt = 29 ∨ (X i &&& 31).toInt = 30 ∨ (X i &&& 31).toInt = 31) with e | e | e | e | e | e | e | e | e | e | e | e | e | e | e | e | e | e | e | e | e | e | e | e | e | e | e | e | e | e | e | e
      · refine Tin e0_33 0 e (by decide) rfl (show amTg 33 139 = some 172 from by decide) ?_
        exact lw_poly h hm hX hi hL go
      · refine Tin e0_33 1 e (by decide) rfl (show amTg 33 202 = some 235 from by decide) ?_
        exact lw_make h hm hX hi hL go
      · refine Tin e0_33 2 e (by decide) rfl (show amTg 33 245 = some 278 from by decide) ?_
        exact lw_drop h hm hX hi hL go
      · refine Tin e0_33 3 e (by decide) rfl (show amTg 33 258 = some 291 from by decide) ?_
        exact lw_number h hm hX hi hL go
      · refine Tin e0_33 4 e (by decide) rfl (show amTg 33 292 = some 325 from by decide) ?_
        exact lw_of h hm hX hi hL go
      · refine Tin e0_33 5 e (by decide) rfl (show amTg 33 325 = some 358 from by decide) ?_
        exact lw_value h hm hX hi hL go
      · refine Tin e0_33 6 e (by decide) rfl (show amTg 33 369 = some 402 from by decide) ?_
        exact lw_chain h hm hX hi hL go
      · refine Tin e0_33 7 e (by decide) rfl (show amTg 33 413 = some 446 from by decide) ?_
        exact lw_changes h hm hX hi hL go
      · refine Tin e0_33 8 e (by decide) rfl (show amTg 33 456 = some 489 from by decide) ?_
        exact lw_roots h hm hX hi hL go
      · refine Tin e0_33 9 e (by decide) rfl (show amTg 33 479 = some 512 from by decide) ?_
        exact lw_within h hm hX hi hL go
      · refine Tin e0_33 10 e (by decide) rfl (show amTg 33 542 = some 575 from by decide) ?_
        exact lw_bound h hm hX hi hL go
      · refine Tin e0_33 11 e (by decide) rfl (show amTg 33 565 = some 598 from by decide) ?_
        exact lw_fence h hm hX hi hL go
      · refine Tin e0_33 12 e (by decide) rfl (show amTg 33 619 = some 652 from by decide) ?_
        exact lw_times h hm hX hi hL go
      · refine Tin e0_33 13 e (by decide) rfl (show amTg 33 652 = some 685 from by decide) ?_
        exact lw_shared h hm hX hi hL go
      · refine Tin e0_33 14 e (by decide) rfl (show amTg 33 685 = some 718 from by decide) ?_
        exact lw_sign h hm hX hi hL go
      · refine Tin e0_33 15 e (by decide) rfl (show amTg 33 729 = some 762 from by decide) ?_
        exact lw_signs h hm hX hi hL go
      · refine Tin e0_33 16 e (by decide) rfl (show amTg 33 763 = some 796 from by decide) ?_
        exact lw_which h hm hX hi hL go
      · refine Tin e0_33 17 e (by decide) rfl (show amTg 33 817 = some 850 from by decide) ?_
        exact lw_fraction h hm hX hi hL go
      · refine Tin e0_33 18 e (by decide) rfl (show amTg 33 861 = some 894 from by decide) ?_
        exact lw_feed h hm hX hi hL go
      · refine Tin e0_33 19 e (by decide) rfl (show amTg 33 884 = some 917 from by decide) ?_
        exact lw_reads h hm hX hi hL go
      · refine Tin e0_33 20 e (by decide) rfl (show amTg 33 897 = some 930 from by decide) ?_
        exact lw_prints h hm hX hi hL go
      · refine Tin e0_33 21 e (by decide) rfl (show amTg 33 920 = some 953 from by decide) ?_
        exact lw_paper h hm hX hi hL go
      · refine Tin e0_33 22 e (by decide) rfl (show amTg 33 943 = some 976 from by decide) ?_
        exact lw_judge h hm hX hi hL go
      · refine Tin e0_33 23 e (by decide) rfl (show amTg 33 986 = some 1019 from by decide) ?_
        exact lw_lots h hm hX hi hL go
      · refine Tin e0_33 24 e (by decide) rfl (show amTg 33 1039 = some 1072 from by decide) ?_
        exact lw_list h hm hX hi hL go
      · refine Tin e0_33 25 e (by decide) rfl (show amTg 33 1072 = some 1105 from by decide) ?_
        exact lw_set h hm hX hi hL go
      · refine Tin e0_33 26 e (by decide) rfl (show amTg 33 1115 = some 1148 from by decide) ?_
        exact lw_get h hm hX hi hL go
      · refine Tin e0_33 27 e (by decide) rfl (show amTg 33 1149 = some 1182 from by decide) ?_
        exact lw_into h hm hX hi hL go
      · refine Tin e0_33 28 e (by decide) rfl (show amTg 33 1192 = some 1225 from by decide) ?_
        exact lw_image h hm hX hi hL go
      · refine Tin e0_33 29 e (by decide) rfl (show amTg 33 1205 = some 1238 from by decide) ?_
        exact lw_back h hm hX hi hL go
      · refine Tin e0_33 30 e (by decide) rfl (show amTg 33 1218 = some 1251 from by decide) ?_
        exact lw_count h hm hX hi hL go
      · refine Tout e0_33 (show amTg 33 1241 = some 1274 from by decide) (by omega) ?_
        exact go Ia Ja Ra σ h hm hX
end REF42
