/-! small steps along the fractions: signs -/
theorem rq_mul {a b A B : Rat} (h1 : -A ≤ a) (h2 : a ≤ A) (h3 : -B ≤ b) (h4 : b ≤ B) : -(A * B) ≤ a * b ∧ a * b ≤ A * B := by
  have e1 : 0 ≤ (A - a) * (B + b) := Rat.mul_nonneg (by grind) (by grind)
  have e2 : 0 ≤ (A + a) * (B - b) := Rat.mul_nonneg (by grind) (by grind)
  have e3 : 0 ≤ (A - a) * (B - b) := Rat.mul_nonneg (by grind) (by grind)
  have e4 : 0 ≤ (A + a) * (B + b) := Rat.mul_nonneg (by grind) (by grind)
  constructor
  · grind
  · grind
theorem rq_nat (n : Nat) : (0 : Rat) ≤ (n : Rat) := by
  have := Rat.natCast_le_natCast.mpr (Nat.zero_le n)
  exact this
theorem rq_one {n : Nat} (h : 1 ≤ n) : (1 : Rat) ≤ (n : Rat) := by
  have := Rat.natCast_le_natCast.mpr h
  exact this
theorem rq_add (n m : Nat) : ((n + m : Nat) : Rat) = (n : Rat) + (m : Rat) := Rat.natCast_add n m
theorem rq_mulc (n m : Nat) : ((n * m : Nat) : Rat) = (n : Rat) * (m : Rat) := Rat.natCast_mul n m
theorem rq_abs (z : Int) : -((z.natAbs : Nat) : Rat) ≤ (z : Rat) ∧ (z : Rat) ≤ ((z.natAbs : Nat) : Rat) := by
  have e : ((z.natAbs : Nat) : Rat) = (((z.natAbs : Nat) : Int) : Rat) := (Rat.intCast_natCast _).symm
  rw [e, ← Rat.intCast_neg]
  exact ⟨Rat.intCast_le_intCast.mpr (by omega), Rat.intCast_le_intCast.mpr (by omega)⟩
theorem rq_int1 {c : Int} (h : 0 < c) : (1 : Rat) ≤ (c : Rat) := by
  have : ((1 : Int) : Rat) ≤ (c : Rat) := Rat.intCast_le_intCast.mpr (by omega)
  exact this
theorem rq_intn {c : Int} (h : c ≠ 0) : (1 : Rat) ≤ (c : Rat) ∨ (c : Rat) ≤ -1 := by
  rcases Int.lt_or_lt_of_ne h with l | l
  · right
    have : (c : Rat) ≤ ((-1 : Int) : Rat) := Rat.intCast_le_intCast.mpr (by omega)
    exact this
  · exact Or.inl (rq_int1 l)
abbrev inR (x : Rat) : Prop := -1000 ≤ x ∧ x ≤ 1000
def bdd (F : Rat → Rat) : Prop := ∃ B : Nat, ∀ x, inR x → -(B : Rat) ≤ F x ∧ F x ≤ (B : Rat)
theorem bdd.add {F G : Rat → Rat} (h1 : bdd F) (h2 : bdd G) : bdd (fun x => F x + G x) := by
  obtain ⟨A, h1⟩ := h1
  obtain ⟨B, h2⟩ := h2
  refine ⟨A + B, fun x hx => ?_⟩
  obtain ⟨a1, a2⟩ := h1 x hx
  obtain ⟨b1, b2⟩ := h2 x hx
  rw [rq_add]
  exact ⟨by grind, by grind⟩
theorem bdd.mul {F G : Rat → Rat} (h1 : bdd F) (h2 : bdd G) : bdd (fun x => F x * G x) := by
  obtain ⟨A, h1⟩ := h1
  obtain ⟨B, h2⟩ := h2
  refine ⟨A * B, fun x hx => ?_⟩
  obtain ⟨a1, a2⟩ := h1 x hx
  obtain ⟨b1, b2⟩ := h2 x hx
  rw [rq_mulc]
  exact rq_mul a1 a2 b1 b2
theorem bdd_c (z : Int) : bdd (fun _ => (z : Rat)) := ⟨z.natAbs, fun _ _ => rq_abs z⟩
theorem bdd_id : bdd (fun x => x) := ⟨1000, fun x hx => by
  obtain ⟨h1, h2⟩ := hx
  rw [show ((1000 : Nat) : Rat) = 1000 from rfl]
  exact ⟨h1, h2⟩⟩
theorem bdd_pw : ∀ n : Nat, bdd (fun x => x ^ n)
  | 0 => ⟨1, fun x _ => by
    dsimp only
    rw [Rat.pow_zero, show ((1 : Nat) : Rat) = 1 from rfl]
    exact ⟨by grind, by grind⟩⟩
  | n + 1 => by
    obtain ⟨B, h⟩ := (bdd_pw n).mul bdd_id
    exact ⟨B, fun x hx => by
      have := h x hx
      dsimp only at this ⊢
      rw [Rat.pow_succ]
      exact this⟩
theorem bdd_evN {p : Nat → Int} : ∀ n, bdd (fun x => evN p n x)
  | 0 => bdd_c 0
  | n + 1 => (bdd_evN n).add ((bdd_c (p n)).mul (bdd_pw n))
theorem bdd_dN {p : Nat → Int} : ∀ n, bdd (fun x => dN p n x)
  | 0 => bdd_c 0
  | n + 1 => by
    obtain ⟨B, h⟩ := (bdd_dN (p := p) n).add ((bdd_c (p n)).mul ((bdd_c (n : Int)).mul (bdd_pw (n - 1))))
    exact ⟨B, fun x hx => h x hx⟩
theorem isP.bdd {F : Rat → Rat} (h : isP F) : bdd F := by
  obtain ⟨f, t, hf⟩ := h
  obtain ⟨B, h⟩ := bdd_evN (p := f) t
  exact ⟨B, fun x hx => by rw [hf x]; exact h x hx⟩
/-- to the second order -/
def tay (F F' : Rat → Rat) : Prop := ∃ R : Rat → Rat → Rat, (∀ x y, F y - F x = (y - x) * F' x + (y - x) * ((y - x) * R x y)) ∧ ∃ B : Nat, ∀ x y, inR x → inR y → -(B : Rat) ≤ R x y ∧ R x y ≤ (B : Rat)
theorem pw_d {x : Rat} : ∀ n : Nat, x * ((n : Rat) * x ^ (n - 1)) = (n : Rat) * x ^ n
  | 0 => by
    rw [show ((0 : Nat) : Rat) = 0 from rfl]
    grind
  | n + 1 => by
    rw [Nat.add_sub_cancel, Rat.pow_succ]
    grind
theorem tay_pw : ∀ n : Nat, tay (fun x => x ^ n) (fun x => (n : Rat) * x ^ (n - 1))
  | 0 => ⟨fun _ _ => 0, fun x y => by
    show y ^ 0 - x ^ 0 = (y - x) * (((0 : Nat) : Rat) * x ^ (0 - 1)) + (y - x) * ((y - x) * 0)
    rw [Rat.pow_zero, Rat.pow_zero, show ((0 : Nat) : Rat) = 0 from rfl]
    grind, 0, fun x y _ _ => ⟨by show -((0 : Nat) : Rat) ≤ 0; rw [show ((0 : Nat) : Rat) = 0 from rfl]; grind, by show (0 : Rat) ≤ ((0 : Nat) : Rat); rw [show ((0 : Nat) : Rat) = 0 from rfl]; grind⟩⟩
  | n + 1 => by
    obtain ⟨R, h, B, hB⟩ := tay_pw n
    obtain ⟨D, hD⟩ := (bdd_c (n : Int)).mul (bdd_pw (n - 1))
    refine ⟨fun x y => (n : Rat) * x ^ (n - 1) + y * R x y, fun x y => ?_, D + 1000 * B, fun x y hx hy => ?_⟩
    · have e := h x y
      have e2 := pw_d (x := x) n
      dsimp only at e ⊢
      rw [Nat.add_sub_cancel, Rat.pow_succ, Rat.pow_succ, rq_add, show ((1 : Nat) : Rat) = 1 from rfl]
      generalize (n : Rat) * x ^ (n - 1) = d at *
      generalize R x y = r at *
      have e3 : y ^ n = x ^ n + (y - x) * d + (y - x) * ((y - x) * r) := by grind
      rw [e3]
      grind
    · obtain ⟨d1, d2⟩ := hD x hx
      have d1 : -(D : Rat) ≤ (n : Rat) * x ^ (n - 1) := d1
      have d2 : (n : Rat) * x ^ (n - 1) ≤ (D : Rat) := d2
      obtain ⟨b1, b2⟩ := hB x y hx hy
      obtain ⟨m1, m2⟩ := rq_mul hy.1 hy.2 b1 b2
      rw [rq_add, rq_mulc, show ((1000 : Nat) : Rat) = 1000 from rfl]
      dsimp only
      exact ⟨by grind, by grind⟩
theorem tay_evN {p : Nat → Int} : ∀ n, tay (fun x => evN p n x) (fun x => dN p n x)
  | 0 => ⟨fun _ _ => 0, fun x y => by
    show (0 : Rat) - 0 = (y - x) * 0 + (y - x) * ((y - x) * 0)
    grind, 0, fun x y _ _ => ⟨by show -((0 : Nat) : Rat) ≤ 0; rw [show ((0 : Nat) : Rat) = 0 from rfl]; grind, by show (0 : Rat) ≤ ((0 : Nat) : Rat); rw [show ((0 : Nat) : Rat) = 0 from rfl]; grind⟩⟩
  | n + 1 => by
    obtain ⟨R, h, B, hB⟩ := tay_evN (p := p) n
    obtain ⟨R2, h2, B2, hB2⟩ := tay_pw n
    refine ⟨fun x y => R x y + (p n : Rat) * R2 x y, fun x y => ?_, B + (p n).natAbs * B2, fun x y hx hy => ?_⟩
    · have e := h x y
      have e2 := h2 x y
      dsimp only at e e2 ⊢
      rw [evN_S, evN_S, dN_S]
      generalize (n : Rat) * x ^ (n - 1) = d at *
      generalize evN p n x = X at *
      generalize evN p n y = Y at *
      have s1 : Y + (p n : Rat) * y ^ n - (X + (p n : Rat) * x ^ n) = (Y - X) + (p n : Rat) * (y ^ n - x ^ n) := by grind
      rw [s1, e, e2]
      grind
    · obtain ⟨b1, b2⟩ := hB x y hx hy
      obtain ⟨c1, c2⟩ := hB2 x y hx hy
      obtain ⟨a1, a2⟩ := rq_abs (p n)
      obtain ⟨m1, m2⟩ := rq_mul a1 a2 c1 c2
      rw [rq_add, rq_mulc]
      dsimp only
      exact ⟨by grind, by grind⟩
theorem isD.tay {F F' : Rat → Rat} (h : isD F F') : tay F F' := by
  obtain ⟨f, t, h1, h2⟩ := h
  obtain ⟨R, e, hB⟩ := tay_evN (p := f) t
  exact ⟨R, fun x y => by rw [h1, h1, h2]; exact e x y, hB⟩
/-- no steeper than some number -/
def lip (F : Rat → Rat) : Prop := ∃ L : Nat, ∀ x y, inR x → inR y → x ≤ y → -((L : Rat) * (y - x)) ≤ F y - F x ∧ F y - F x ≤ (L : Rat) * (y - x)
theorem isP.lip {F : Rat → Rat} (h : isP F) : lip F := by
  obtain ⟨f, t, hf⟩ := h
  obtain ⟨R, e, B, hB⟩ := tay_evN (p := f) t
  obtain ⟨D, hD⟩ := bdd_dN (p := f) t
  refine ⟨D + 2000 * B, fun x y hx hy hxy => ?_⟩
  obtain ⟨d1, d2⟩ := hD x hx
  obtain ⟨b1, b2⟩ := hB x y hx hy
  have e1 := e x y
  dsimp only at e1 d1 d2
  rw [hf, hf, e1]
  obtain ⟨m1, m2⟩ := rq_mul (a := y - x) (A := 2000) (by grind) (by grind) b1 b2
  rw [rq_add, rq_mulc, show ((2000 : Nat) : Rat) = 2000 from rfl]
  generalize dN f t x = d at *
  generalize R x y = r at *
  have k1 : 0 ≤ (y - x) * ((D : Rat) + 2000 * (B : Rat) - (d + (y - x) * r)) := Rat.mul_nonneg (by grind) (by grind)
  have k2 : 0 ≤ (y - x) * ((D : Rat) + 2000 * (B : Rat) + (d + (y - x) * r)) := Rat.mul_nonneg (by grind) (by grind)
  exact ⟨by grind, by grind⟩
/-- for all steps that are small enough -/
def evk (P : Rat → Rat → Prop) : Prop := ∃ K : Nat, 0 < K ∧ ∀ x y, inR x → inR y → x ≤ y → (y - x) * (K : Rat) ≤ 1 → P x y
theorem evk.mono {P Q : Rat → Rat → Prop} (h : evk P) (hq : ∀ x y, P x y → Q x y) : evk Q := by
  obtain ⟨K, h0, h⟩ := h
  exact ⟨K, h0, fun x y a b c d => hq x y (h x y a b c d)⟩
theorem evk.and {P Q : Rat → Rat → Prop} (h : evk P) (h2 : evk Q) : evk (fun x y => P x y ∧ Q x y) := by
  obtain ⟨K, h0, h⟩ := h
  obtain ⟨K2, h02, h2⟩ := h2
  refine ⟨K + K2, by omega, fun x y a b c d => ?_⟩
  rw [rq_add] at d
  have p1 : 0 ≤ (y - x) * (K : Rat) := Rat.mul_nonneg (by grind) (rq_nat K)
  have p2 : 0 ≤ (y - x) * (K2 : Rat) := Rat.mul_nonneg (by grind) (rq_nat K2)
  exact ⟨h x y a b c (by grind), h2 x y a b c (by grind)⟩
def sgR (z : Rat) : Int32 := if z < 0 then -1 else if 0 < z then 1 else 0
/-- of one sign, and not 0 -/
abbrev SMe (z w : Rat) : Prop := (0 < z ∧ 0 < w) ∨ (z < 0 ∧ w < 0)
abbrev big (E z : Rat) : Prop := 1 ≤ E * z ∨ E * z ≤ -1
abbrev nb (E z : Rat) : Prop := -1 < E * z ∧ E * z < 1
theorem big_or (E z : Rat) : big E z ∨ nb E z := by
  by_cases h1 : 1 ≤ E * z
  · exact Or.inl (Or.inl h1)
  · by_cases h2 : E * z ≤ -1
    · exact Or.inl (Or.inr h2)
    · exact Or.inr ⟨by grind, by grind⟩
theorem pos_of {E z : Rat} (hE : 0 ≤ E) (h : 0 < E * z) : 0 < z := by
  by_cases g : 0 < z
  · exact g
  · have : 0 ≤ E * (-z) := Rat.mul_nonneg hE (by grind)
    grind
theorem neg_of {E z : Rat} (hE : 0 ≤ E) (h : E * z < 0) : z < 0 := by
  by_cases g : z < 0
  · exact g
  · have : 0 ≤ E * z := Rat.mul_nonneg hE (by grind)
    grind
theorem nb_mono {E R z : Rat} (hE : 0 ≤ E) (hR : 0 ≤ R) (h : nb (E + R) z) : nb E z := by
  obtain ⟨h1, h2⟩ := h
  by_cases g : 0 ≤ z
  · have a := Rat.mul_nonneg hE g
    have b := Rat.mul_nonneg hR g
    exact ⟨by grind, by grind⟩
  · have a := Rat.mul_nonneg hE (show 0 ≤ -z by grind)
    have b := Rat.mul_nonneg hR (show 0 ≤ -z by grind)
    exact ⟨by grind, by grind⟩
/-- where it is big it keeps its sign; where it is small it stays small -/
theorem evk_or {F : Rat → Rat} (hF : isP F) (E : Nat) : evk (fun x y => (big (E : Rat) (F x) → SMe (F x) (F y)) ∧ (nb (2 * (E : Rat)) (F x) → nb (E : Rat) (F y))) := by
  obtain ⟨L, hL⟩ := hF.lip
  refine ⟨2 * (E * L) + 1, by omega, fun x y hx hy hxy hK => ?_⟩
  obtain ⟨l1, l2⟩ := hL x y hx hy hxy
  rw [rq_add, rq_mulc, rq_mulc, show ((2 : Nat) : Rat) = 2 from rfl, show ((1 : Nat) : Rat) = 1 from rfl] at hK
  have hE := rq_nat E
  have k1 : 0 ≤ (E : Rat) * ((L : Rat) * (y - x) - (F y - F x)) := Rat.mul_nonneg hE (by grind)
  have k2 : 0 ≤ (E : Rat) * ((L : Rat) * (y - x) + (F y - F x)) := Rat.mul_nonneg hE (by grind)
  have k3 : 2 * ((E : Rat) * ((L : Rat) * (y - x))) ≤ 1 := by grind
  refine ⟨fun h => ?_, fun h => ?_⟩
  · rcases h with h | h
    · exact Or.inl ⟨pos_of hE (by grind), pos_of hE (by grind)⟩
    · exact Or.inr ⟨neg_of hE (by grind), neg_of hE (by grind)⟩
  · obtain ⟨h1, h2⟩ := h
    exact ⟨by grind, by grind⟩
/-- two without a common root aren't both small -/
def cop (F G : Rat → Rat) : Prop := ∃ (e : Int) (A B : Rat → Rat), e ≠ 0 ∧ isP A ∧ isP B ∧ ∀ x, (e : Rat) = A x * F x + B x * G x
theorem cop_big {F G : Rat → Rat} (h : cop F G) : ∃ E : Nat, 0 < E ∧ ∀ x, inR x → nb (E : Rat) (F x) → big (E : Rat) (G x) := by
  obtain ⟨e, A, B, he, hA, hB, h⟩ := h
  obtain ⟨M, hM⟩ := hA.bdd
  obtain ⟨N, hN⟩ := hB.bdd
  refine ⟨M + N + 1, by omega, fun x hx hf => ?_⟩
  rcases big_or ((M + N + 1 : Nat) : Rat) (G x) with g | g
  · exact g
  · exfalso
    obtain ⟨a1, a2⟩ := hM x hx
    obtain ⟨b1, b2⟩ := hN x hx
    obtain ⟨f1, f2⟩ := hf
    obtain ⟨g1, g2⟩ := g
    have e1 := h x
    obtain ⟨m1, m2⟩ := rq_mul (B := 1) a1 a2 (b := ((M + N + 1 : Nat) : Rat) * F x) (by grind) (by grind)
    obtain ⟨n1, n2⟩ := rq_mul (B := 1) b1 b2 (b := ((M + N + 1 : Nat) : Rat) * G x) (by grind) (by grind)
    have eE : ((M + N + 1 : Nat) : Rat) = (M : Rat) + (N : Rat) + 1 := by
      rw [rq_add, rq_add]
      rfl
    have hE0 : (0 : Rat) ≤ ((M + N + 1 : Nat) : Rat) := rq_nat _
    generalize ((M + N + 1 : Nat) : Rat) = E at *
    have s1 : E * (e : Rat) = A x * (E * F x) + B x * (E * G x) := by rw [e1]; grind
    rcases rq_intn he with c | c
    · have := Rat.mul_nonneg hE0 (show 0 ≤ (e : Rat) - 1 by grind)
      grind
    · have := Rat.mul_nonneg hE0 (show 0 ≤ -1 - (e : Rat) by grind)
      grind
theorem evk_same {F C : Rat → Rat} {c : Int} (hF : isP F) (hC : isP C) (hc : c ≠ 0) (h : ∀ x, (c : Rat) = C x * F x) : evk (fun x y => SMe (F x) (F y)) := by
  obtain ⟨E, h0, hE⟩ := cop_big (F := fun _ => 0) (G := F) ⟨c, fun _ => 0, C, hc, by simpa using isP_c 0, hC, fun x => by rw [h x]; grind⟩
  obtain ⟨K, k0, hK⟩ := evk_or hF E
  refine ⟨K, k0, fun x y hx hy a b => (hK x y hx hy a b).1 (hE x hx ⟨by grind, by grind⟩)⟩
/-- of three in a row -/
theorem evk_mid {F G H T : Rat → Rat} {c d : Int} (hF : isP F) (hG : isP G) (hH : isP H) (hT : isP T) (hc : 0 < c) (hd : 0 < d) (hr : ∀ x, (c : Rat) * F x = T x * G x - (d : Rat) * H x) (hcp : cop G H) : evk (fun x y => SMe (G x) (G y) ∨ (SMe (F x) (F y) ∧ SMe (H x) (H y) ∧ SMe (F x) (-H x))) := by
  obtain ⟨E, h0, hE⟩ := cop_big hcp
  obtain ⟨N, hN⟩ := hT.bdd
  have hE1 : (1 : Rat) ≤ (E : Rat) := rq_one h0
  have opp : ∀ x, inR x → nb ((E + N * E : Nat) : Rat) (G x) → (1 ≤ (E : Rat) * H x ∧ F x < 0) ∨ ((E : Rat) * H x ≤ -1 ∧ 0 < F x) := fun x hx hg => by
    rw [rq_add, rq_mulc] at hg
    have hNE : (0 : Rat) ≤ (N : Rat) * (E : Rat) := Rat.mul_nonneg (rq_nat N) (rq_nat E)
    have g1 := nb_mono (rq_nat E) hNE hg
    have hb := hE x hx g1
    obtain ⟨t1, t2⟩ := hN x hx
    have e1 := hr x
    have c1 := rq_int1 hc
    have d1 := rq_int1 hd
    obtain ⟨u1, u2⟩ := hg
    have tg : -1 < (E : Rat) * (T x * G x) ∧ (E : Rat) * (T x * G x) < 1 := by
      by_cases z : 0 ≤ G x
      · have z2 := Rat.mul_nonneg (rq_nat E) z
        have a := Rat.mul_nonneg (show 0 ≤ (N : Rat) - T x by grind) z2
        have b := Rat.mul_nonneg (show 0 ≤ (N : Rat) + T x by grind) z2
        exact ⟨by grind, by grind⟩
      · have z2 := Rat.mul_nonneg (rq_nat E) (show 0 ≤ -G x by grind)
        have a := Rat.mul_nonneg (show 0 ≤ (N : Rat) - T x by grind) z2
        have b := Rat.mul_nonneg (show 0 ≤ (N : Rat) + T x by grind) z2
        exact ⟨by grind, by grind⟩
    have e2 : ((E : Rat) * (c : Rat)) * F x = (E : Rat) * (T x * G x) - (d : Rat) * ((E : Rat) * H x) := by
      have : ((E : Rat) * (c : Rat)) * F x = (E : Rat) * ((c : Rat) * F x) := by grind
      rw [this, e1]
      grind
    have hEc : (0 : Rat) ≤ (E : Rat) * (c : Rat) := Rat.mul_nonneg (rq_nat E) (by grind)
    rcases hb with hb | hb
    · have := Rat.mul_nonneg (show 0 ≤ (d : Rat) - 1 by grind) (show 0 ≤ (E : Rat) * H x by grind)
      exact Or.inl ⟨hb, neg_of hEc (by grind)⟩
    · have := Rat.mul_nonneg (show 0 ≤ (d : Rat) - 1 by grind) (show 0 ≤ -((E : Rat) * H x) by grind)
      exact Or.inr ⟨hb, pos_of hEc (by grind)⟩
  obtain ⟨K, k0, hK⟩ := (evk_or hG (2 * (E + N * E))).and ((evk_or hG (E + N * E)).and (evk_or hH E))
  refine ⟨K, k0, fun x y hx hy hxy hk => ?_⟩
  obtain ⟨⟨a1, -⟩, ⟨-, a2⟩, a3, -⟩ := hK x y hx hy hxy hk
  rw [rq_mulc, show ((2 : Nat) : Rat) = 2 from rfl] at a1
  rcases big_or (2 * ((E + N * E : Nat) : Rat)) (G x) with g | g
  · exact Or.inl (a1 g)
  · right
    have gy := a2 g
    have gx : nb ((E + N * E : Nat) : Rat) (G x) := nb_mono (R := ((E + N * E : Nat) : Rat)) (rq_nat _) (rq_nat _) (by
      obtain ⟨g1, g2⟩ := g
      exact ⟨by grind, by grind⟩)
    have o1 := opp x hx gx
    have o2 := opp y hy gy
    have hE0 := rq_nat E
    rcases o1 with ⟨p1, p2⟩ | ⟨p1, p2⟩
    · have h1 := a3 (Or.inl p1)
      have hx1 : 0 < H x := pos_of hE0 (by grind)
      have hy1 : 0 < H y := by
        rcases h1 with z | z
        · exact z.2
        · grind
      rcases o2 with ⟨q1, q2⟩ | ⟨q1, q2⟩
      · exact ⟨Or.inr ⟨p2, q2⟩, Or.inl ⟨hx1, hy1⟩, Or.inr ⟨p2, by grind⟩⟩
      · have := neg_of (z := H y) hE0 (by grind)
        grind
    · have h1 := a3 (Or.inr p1)
      have hx1 : H x < 0 := neg_of hE0 (by grind)
      have hy1 : H y < 0 := by
        rcases h1 with z | z
        · grind
        · exact z.2
      rcases o2 with ⟨q1, q2⟩ | ⟨q1, q2⟩
      · have := pos_of (z := H y) hE0 (by grind)
        grind
      · exact ⟨Or.inl ⟨p2, q2⟩, Or.inr ⟨hx1, hy1⟩, Or.inl ⟨p2, by grind⟩⟩
/-- the first two -/
theorem evk_first {F F' G : Rat → Rat} {g : Int} (hF : isP F) (hG : isP G) (hD : tay F F') (hg : 0 < g) (hr : ∀ x, F' x = (g : Rat) * G x) (hcp : cop F G) : evk (fun x y => SMe (F x) (F y) ∨ (SMe (G x) (G y) ∧ ((0 < G x ∧ F x ≤ F y) ∨ (G x < 0 ∧ F y ≤ F x)))) := by
  obtain ⟨E, h0, hE⟩ := cop_big hcp
  obtain ⟨R, hR, B, hB⟩ := hD
  obtain ⟨K, k0, hK⟩ := (evk_or hF E).and (evk_or hG E)
  refine ⟨K + 2 * (E * B), by omega, fun x y hx hy hxy hk => ?_⟩
  rw [rq_add, rq_mulc, rq_mulc, show ((2 : Nat) : Rat) = 2 from rfl] at hk
  have hE0 := rq_nat E
  have y0 : 0 ≤ y - x := by grind
  have w1 : 0 ≤ (y - x) * (K : Rat) := Rat.mul_nonneg y0 (rq_nat K)
  have w2 : 0 ≤ (y - x) * (2 * ((E : Rat) * (B : Rat))) := Rat.mul_nonneg y0 (Rat.mul_nonneg (by grind) (Rat.mul_nonneg hE0 (rq_nat B)))
  obtain ⟨⟨a1, -⟩, a2, -⟩ := hK x y hx hy hxy (by grind)
  rcases big_or (E : Rat) (F x) with f | f
  · exact Or.inl (a1 f)
  · have gb := hE x hx f
    refine Or.inr ⟨a2 gb, ?_⟩
    have e1 := hR x y
    rw [hr x] at e1
    obtain ⟨b1, b2⟩ := hB x y hx hy
    have g1 := rq_int1 hg
    have k1 : 0 ≤ (E : Rat) * ((y - x) * ((B : Rat) - R x y)) := Rat.mul_nonneg hE0 (Rat.mul_nonneg y0 (by grind))
    have k2 : 0 ≤ (E : Rat) * ((y - x) * ((B : Rat) + R x y)) := Rat.mul_nonneg hE0 (Rat.mul_nonneg y0 (by grind))
    generalize R x y = r at *
    have e2 : F y - F x = (y - x) * ((g : Rat) * G x + (y - x) * r) := by rw [e1]; grind
    rcases gb with h | h
    · have hp : 0 < G x := pos_of hE0 (by grind)
      have m1 := Rat.mul_nonneg (show 0 ≤ (g : Rat) - 1 by grind) (show 0 ≤ (E : Rat) * G x by grind)
      have hs : 0 < (g : Rat) * G x + (y - x) * r := pos_of hE0 (by grind)
      have := Rat.mul_nonneg y0 (show 0 ≤ (g : Rat) * G x + (y - x) * r by grind)
      exact Or.inl ⟨hp, by grind⟩
    · have hp : G x < 0 := neg_of hE0 (by grind)
      have m1 := Rat.mul_nonneg (show 0 ≤ (g : Rat) - 1 by grind) (show 0 ≤ -((E : Rat) * G x) by grind)
      have hs : (g : Rat) * G x + (y - x) * r < 0 := neg_of hE0 (by grind)
      have := Rat.mul_nonneg y0 (show 0 ≤ -((g : Rat) * G x + (y - x) * r) by grind)
      exact Or.inr ⟨hp, by grind⟩
