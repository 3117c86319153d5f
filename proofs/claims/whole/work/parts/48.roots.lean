/-! polynomials over fractions: no more roots than the degree -/
/-- of n numbers at most -/
def PF : Nat → (Rat → Rat) → Prop
  | 0, f => ∀ x, f x = 0
  | n + 1, f => ∃ (c : Rat) (g : Rat → Rat), PF n g ∧ ∀ x, f x = c + x * g x
theorem PF.cg : ∀ {n : Nat} {f g : Rat → Rat}, PF n f → (∀ x, g x = f x) → PF n g
  | 0, _, _, h, e => fun x => by rw [e x]; exact h x
  | _ + 1, _, _, ⟨c, q, h, e1⟩, e => ⟨c, q, h, fun x => by rw [e x]; exact e1 x⟩
theorem PF.up : ∀ {n : Nat} {f : Rat → Rat}, PF n f → PF (n + 1) f
  | 0, f, h => ⟨0, fun _ => 0, fun _ => rfl, fun x => by rw [h x]; grind⟩
  | _ + 1, _, ⟨c, q, h, e⟩ => ⟨c, q, PF.up h, e⟩
theorem PF.lin {r : Rat} : ∀ {n : Nat} {f g : Rat → Rat}, PF n f → PF n g → PF n (fun x => f x + r * g x)
  | 0, _, _, h1, h2 => fun x => by dsimp only; rw [h1 x, h2 x]; grind
  | _ + 1, _, _, ⟨c, q, h1, e1⟩, ⟨d, t, h2, e2⟩ => ⟨c + r * d, fun x => q x + r * t x, PF.lin h1 h2, fun x => by dsimp only; rw [e1 x, e2 x]; grind⟩
theorem PF.div : ∀ {n : Nat} {f : Rat → Rat}, PF (n + 1) f → ∀ r, ∃ q, PF n q ∧ ∀ x, f x - f r = (x - r) * q x
  | 0, f, ⟨c, g, h, e⟩, r => ⟨fun _ => 0, fun _ => rfl, fun x => by rw [e x, e r, h x, h r]; grind⟩
  | n + 1, f, ⟨c, g, h, e⟩, r => by
    obtain ⟨q, h2, e2⟩ := PF.div h r
    refine ⟨fun x => g x + r * q x, PF.lin h (PF.up h2), fun x => ?_⟩
    have := e2 x
    rw [e x, e r]
    grind
theorem rat_mul_zero {a b : Rat} (h : a * b = 0) (ha : a ≠ 0) : b = 0 := by grind
theorem PF.roots : ∀ {n : Nat} {f : Rat → Rat}, PF n f → ∀ (t : Nat → Rat), (∀ i, i < n → f (t i) = 0) → (∀ i j, i < j → j < n → t i ≠ t j) → ∀ x, f x = 0
  | 0, _, h, _, _, _ => h
  | n + 1, f, h, t, h1, h2 => by
    obtain ⟨q, hq, e⟩ := PF.div h (t n)
    have hn : f (t n) = 0 := h1 n (by omega)
    have hr := PF.roots hq t (fun i hi => by
      have e1 := e (t i)
      rw [h1 i (by omega), hn] at e1
      have e2 := h2 i n hi (by omega)
      exact rat_mul_zero (a := t i - t n) (by grind) (by grind)) (fun i j hij hj => h2 i j hij (by omega))
    intro x
    have e1 := e x
    rw [hr x, hn] at e1
    grind
/-- the value at x of the n numbers from k on -/
def evS (p : Po) : Nat → Nat → Rat → Rat
  | _, 0, _ => 0
  | k, n + 1, x => (p k : Rat) + x * evS p (k + 1) n x
theorem PF.ev {p : Po} : ∀ {n k : Nat}, PF n (evS p k n)
  | 0, _ => fun _ => rfl
  | n + 1, k => ⟨(p k : Rat), evS p (k + 1) n, PF.ev, fun _ => rfl⟩
theorem nat_rat_ne {i j : Nat} (h : i < j) : ((i + 1 : Nat) : Rat) ≠ ((j + 1 : Nat) : Rat) := fun e => by
  have := Rat.natCast_inj.mp e
  omega
theorem evS_zero {p : Po} : ∀ {n k : Nat}, (∀ x, evS p k n x = 0) → ∀ i, i < n → p (k + i) = 0
  | 0, _, _, i, hi => absurd hi (Nat.not_lt_zero i)
  | n + 1, k, h, i, hi => by
    have h0 : (p k : Rat) = 0 := by
      have := h 0
      rw [evS] at this
      grind
    have hk : p k = 0 := Rat.intCast_eq_zero_iff.mp h0
    have hr := PF.roots (PF.ev (p := p) (n := n) (k := k + 1)) (fun i => ((i + 1 : Nat) : Rat)) (fun i _ => by
      have e := h ((i + 1 : Nat) : Rat)
      rw [evS, h0] at e
      have nz : ((i + 1 : Nat) : Rat) ≠ 0 := fun z => by
        have := Rat.natCast_inj.mp (z.trans (by rfl : (0 : Rat) = ((0 : Nat) : Rat)))
        omega
      exact rat_mul_zero (a := ((i + 1 : Nat) : Rat)) (by grind) nz) (fun i j hij _ => nat_rat_ne hij)
    cases i with
    | zero => exact hk
    | succ i =>
      have := evS_zero hr i (by omega)
      rw [show k + (i + 1) = k + 1 + i by omega]
      exact this
/-- Horner's way over whole numbers, homogeneous -/
theorem hN_ev {p : Po} {u v : Int} {s : Nat} {x : Rat} (hx : x * (v : Rat) = (u : Rat)) : ∀ {j : Nat}, j ≤ s → (hN p u v s j : Rat) * (v : Rat) = (v : Rat) ^ j * evS p (s - j) j x
  | 0, _ => by
    rw [hN, evS]
    grind
  | j + 1, h => by
    have ih := hN_ev (p := p) (s := s) hx (j := j) (by omega)
    rw [hN, evS, show s - (j + 1) + 1 = s - j by omega, show s - (j + 1) = s - 1 - j by omega]
    rw [Rat.intCast_add, Rat.intCast_mul, Rat.intCast_mul, Rat.intCast_pow, Rat.pow_succ]
    generalize evS p (s - j) j x = E at *
    generalize (hN p u v s j : Rat) = H at *
    generalize (p (s - 1 - j) : Rat) = P at *
    generalize (v : Rat) ^ j = V at *
    grind
theorem hv_zero {p : Po} {u v : Int} {x : Rat} (hv1 : 1 ≤ v) (hx : x * (v : Rat) = (u : Rat)) : hv p u v = 0 ↔ evS p 0 (sz p) x = 0 := by
  have h := hN_ev (p := p) (s := sz p) hx (j := sz p) (Nat.le_refl _)
  rw [Nat.sub_self] at h
  have nv : (v : Rat) ≠ 0 := fun z => by
    have := Rat.intCast_eq_zero_iff.mp z
    omega
  have np : (v : Rat) ^ (sz p) ≠ 0 := fun z => by
    have hp : (0 : Rat) < (v : Rat) := by
      have : ((0 : Int) : Rat) < (v : Rat) := Rat.intCast_lt_intCast.mpr (by omega)
      exact this
    have := Rat.pow_pos (n := sz p) hp
    grind
  unfold hv
  constructor
  · intro z
    rw [z] at h
    exact rat_mul_zero (a := (v : Rat) ^ (sz p)) (by grind) np
  · intro z
    rw [z] at h
    have : (hN p u v (sz p) (sz p) : Rat) = 0 := rat_mul_zero (a := (v : Rat)) (by grind) nv
    exact Rat.intCast_eq_zero_iff.mp this
/-- a fraction -/
def qt (a : Int × Int) : Rat := (a.1 : Rat) / (a.2 : Rat)
theorem qt_mul {a : Int × Int} (h : 1 ≤ a.2) : qt a * (a.2 : Rat) = (a.1 : Rat) := by
  unfold qt
  refine Rat.div_mul_cancel (fun z => ?_)
  have := Rat.intCast_eq_zero_iff.mp z
  omega
theorem qt_ne {a b : Int × Int} (ha : 1 ≤ a.2) (hb : 1 ≤ b.2) (h : frL a b) : qt a ≠ qt b := fun e => by
  have h1 := qt_mul ha
  have h2 := qt_mul hb
  rw [e] at h1
  have h3 : ((a.1 * b.2 : Int) : Rat) = ((b.1 * a.2 : Int) : Rat) := by
    rw [Rat.intCast_mul, Rat.intCast_mul, ← h1, ← h2]
    grind
  have := Rat.intCast_inj.mp h3
  unfold frL at h
  omega
/-- fewer roots than numbers -/
theorem fr_four {p : Po} {F : Fq} {n : Nat} (hs : 0 < sz p) (h1 : ∀ k, k < n → 1 ≤ (F k).2) (h2 : ∀ k, k < n → hv p (F k).1 (F k).2 = 0) (h3 : ∀ i j, i < j → j < n → frL (F i) (F j)) : n < sz p := by
  rcases Nat.lt_or_ge n (sz p) with g | g
  · exact g
  · have hz := PF.roots (PF.ev (p := p) (n := sz p) (k := 0)) (fun i => qt (F i)) (fun i hi => (hv_zero (h1 i (by omega)) (qt_mul (h1 i (by omega)))).mp (h2 i (by omega))) (fun i j hij hj => qt_ne (h1 i (by omega)) (h1 j (by omega)) (h3 i j hij (by omega)))
    have := evS_zero hz (sz p - 1) (by omega)
    rw [Nat.zero_add] at this
    exact absurd this (sz_head hs)
