/-! polynomials as functions over the fractions -/
def evN (p : Nat → Int) : Nat → Rat → Rat
  | 0, _ => 0
  | n + 1, x => evN p n x + (p n : Rat) * x ^ n
theorem evN_S {p : Nat → Int} {n : Nat} {x : Rat} : evN p (n + 1) x = evN p n x + (p n : Rat) * x ^ n := rfl
theorem evN_cg {p q : Nat → Int} {x : Rat} : ∀ {n : Nat}, (∀ k, k < n → p k = q k) → evN p n x = evN q n x
  | 0, _ => rfl
  | n + 1, h => by
    rw [evN_S, evN_S, evN_cg (fun k hk => h k (by omega)), h n (by omega)]
theorem evN_lin {p q : Nat → Int} {a b : Int} {x : Rat} : ∀ n, evN (fun k => a * p k + b * q k) n x = (a : Rat) * evN p n x + (b : Rat) * evN q n x
  | 0 => by
    show (0 : Rat) = (a : Rat) * 0 + (b : Rat) * 0
    grind
  | n + 1 => by
    rw [evN_S, evN_S, evN_S, evN_lin n, Rat.intCast_add, Rat.intCast_mul, Rat.intCast_mul]
    grind
theorem evN_add {p q : Nat → Int} {x : Rat} : ∀ n, evN (fun k => p k + q k) n x = evN p n x + evN q n x
  | 0 => by
    show (0 : Rat) = 0 + 0
    grind
  | n + 1 => by
    rw [evN_S, evN_S, evN_S, evN_add n, Rat.intCast_add]
    grind
theorem evN_sm {p : Nat → Int} {a : Int} {x : Rat} : ∀ n, evN (fun k => a * p k) n x = (a : Rat) * evN p n x
  | 0 => by
    show (0 : Rat) = (a : Rat) * 0
    grind
  | n + 1 => by
    rw [evN_S, evN_S, evN_sm n, Rat.intCast_mul]
    grind
theorem evN_0 {p : Nat → Int} {x : Rat} : ∀ {n : Nat}, (∀ k, k < n → p k = 0) → evN p n x = 0
  | 0, _ => rfl
  | n + 1, h => by
    rw [evN_S, evN_0 (fun k hk => h k (by omega)), h n (by omega), Rat.intCast_zero]
    grind
theorem evN_up {p : Nat → Int} {x : Rat} {n : Nat} : ∀ {m : Nat}, (∀ k, n ≤ k → k < n + m → p k = 0) → evN p (n + m) x = evN p n x
  | 0, _ => rfl
  | m + 1, h => by
    rw [← Nat.add_assoc, evN_S, evN_up (fun k h1 h2 => h k h1 (by omega)), h (n + m) (by omega) (by omega), Rat.intCast_zero]
    grind
theorem evN_to {p : Nat → Int} {x : Rat} {n N : Nat} (hN : n ≤ N) (h : ∀ k, n ≤ k → k < N → p k = 0) : evN p N x = evN p n x := by
  obtain ⟨m, rfl⟩ : ∃ m, N = n + m := ⟨N - n, by omega⟩
  exact evN_up h
theorem evN_s {p : Nat → Int} {x : Rat} : ∀ n, evN p (n + 1) x = (p 0 : Rat) + x * evN (fun k => p (k + 1)) n x
  | 0 => by
    show (0 : Rat) + (p 0 : Rat) * x ^ 0 = (p 0 : Rat) + x * 0
    rw [Rat.pow_zero]
    grind
  | n + 1 => by
    rw [evN_S, evN_s n, evN_S, Rat.pow_succ]
    grind
theorem evN_int {p : Nat → Int} {z : Int} : ∀ n, ∃ w : Int, evN p n (z : Rat) = (w : Rat)
  | 0 => ⟨0, rfl⟩
  | n + 1 => by
    obtain ⟨w, hw⟩ := evN_int (p := p) (z := z) n
    exact ⟨w + p n * z ^ n, by rw [evN_S, hw, Rat.intCast_add, Rat.intCast_mul, Rat.intCast_pow]⟩
/-- only the zero polynomial is 0 everywhere -/
theorem evN_id : ∀ {n : Nat} {p : Nat → Int}, (∀ z : Int, z ≠ 0 → evN p n (z : Rat) = 0) → ∀ k, k < n → p k = 0
  | 0, _, _, k, hk => absurd hk (Nat.not_lt_zero k)
  | n + 1, p, h, k, hk => by
    have hd : ∀ z : Int, z ≠ 0 → ∃ w : Int, p 0 + z * w = 0 ∧ evN (fun k => p (k + 1)) n (z : Rat) = (w : Rat) := fun z hz => by
      obtain ⟨w, hw⟩ := evN_int (p := fun k => p (k + 1)) (z := z) n
      have h1 := h z hz
      rw [evN_s, hw, ← Rat.intCast_mul, ← Rat.intCast_add] at h1
      exact ⟨w, Rat.intCast_inj.mp (h1.trans Rat.intCast_zero.symm), hw⟩
    have p0 : p 0 = 0 := by
      obtain ⟨w, hw, -⟩ := hd (((p 0).natAbs + 1 : Nat) : Int) (by omega)
      by_cases w0 : w = 0
      · rw [w0, Int.mul_zero, Int.add_zero] at hw
        exact hw
      · exfalso
        have e : p 0 = -((((p 0).natAbs + 1 : Nat) : Int) * w) := by omega
        have e2 := congrArg Int.natAbs e
        rw [Int.natAbs_neg, Int.natAbs_mul, Int.natAbs_natCast] at e2
        have h2 : 1 ≤ w.natAbs := by omega
        have h3 := Nat.mul_le_mul_left ((p 0).natAbs + 1) h2
        omega
    cases k with
    | zero => exact p0
    | succ k =>
      exact evN_id (p := fun k => p (k + 1)) (fun z hz => by
        obtain ⟨w, h1, h2⟩ := hd z hz
        rw [p0, Int.zero_add] at h1
        have w0 : w = 0 := by
          rcases Int.mul_eq_zero.mp h1 with e | e
          · exact absurd e hz
          · exact e
        rw [h2, w0]
        rfl) k (by omega)
theorem evN_eq {n : Nat} {p q : Nat → Int} (h : ∀ x : Rat, evN p n x = evN q n x) : ∀ k, k < n → p k = q k := fun k hk => by
  have := evN_id (n := n) (p := fun k => 1 * p k + (-1) * q k) (fun z _ => by
    rw [evN_lin, h (z : Rat), Rat.intCast_neg, Rat.intCast_one]
    grind) k hk
  omega
theorem rpow_add {x : Rat} (a : Nat) : ∀ b, x ^ (a + b) = x ^ a * x ^ b
  | 0 => by
    rw [Nat.add_zero, Rat.pow_zero]
    grind
  | b + 1 => by
    rw [← Nat.add_assoc, Rat.pow_succ, Rat.pow_succ, rpow_add a b]
    grind
theorem evN_sh0 {q : Nat → Int} {c : Int} {t : Nat} {x : Rat} : ∀ m, evN (fun k => if t ≤ k then c * q (k - t) else 0) (t + m) x = (c : Rat) * x ^ t * evN q m x
  | 0 => by
    rw [Nat.add_zero, evN_0 (fun k hk => if_neg (by omega))]
    show (0 : Rat) = (c : Rat) * x ^ t * 0
    grind
  | m + 1 => by
    rw [← Nat.add_assoc, evN_S, evN_sh0 m, evN_S, if_pos (by omega), Nat.add_sub_cancel_left, Rat.intCast_mul, rpow_add]
    grind
theorem evN_sh {q : Nat → Int} {c : Int} {t n N : Nat} {x : Rat} (h : t + n ≤ N) (hq : ∀ k, n ≤ k → q k = 0) : evN (fun k => if t ≤ k then c * q (k - t) else 0) N x = (c : Rat) * x ^ t * evN q n x := by
  rw [← evN_sh0 n]
  refine evN_to h (fun k h1 h2 => ?_)
  rw [if_pos (by omega), hq (k - t) (by omega), Int.mul_zero]
theorem evN_cv {f q : Nat → Int} {n N : Nat} {x : Rat} (hq : ∀ k, n ≤ k → q k = 0) : ∀ t, t + n ≤ N + 1 → evN (fun k => cvN f q k t) N x = evN f t x * evN q n x
  | 0, _ => by
    rw [show evN (fun k => cvN f q k 0) N x = 0 from evN_0 (fun k hk => rfl)]
    show (0 : Rat) = 0 * evN q n x
    grind
  | t + 1, h => by
    have e : (fun k => cvN f q k (t + 1)) = fun k => cvN f q k t + (if t ≤ k then f t * q (k - t) else 0) := rfl
    rw [e, evN_add, evN_cv hq t (by omega), evN_sh (n := n) (by omega) hq, evN_S]
    grind
def trN (f : Nat → Int) (t : Nat) : Nat → Int := fun k => if k < t then f k else 0
theorem trN_z {f : Nat → Int} {t k : Nat} (h : t ≤ k) : trN f t k = 0 := by
  unfold trN
  rw [if_neg (by omega)]
theorem trN_s {f : Nat → Int} {t k : Nat} (h : k < t) : trN f t k = f k := by
  unfold trN
  rw [if_pos h]
theorem evN_tr {f : Nat → Int} {t : Nat} {x : Rat} : evN (trN f t) t x = evN f t x := evN_cg (fun _ hk => trN_s hk)
/-- a polynomial as a function -/
def isP (F : Rat → Rat) : Prop := ∃ (f : Nat → Int) (t : Nat), ∀ x, F x = evN f t x
theorem isP_c (c : Int) : isP (fun _ => (c : Rat)) := ⟨fun _ => c, 1, fun x => by
  rw [evN_S]
  show (c : Rat) = 0 + (c : Rat) * x ^ 0
  rw [Rat.pow_zero]
  grind⟩
theorem isP_pw (t : Nat) : isP (fun x => x ^ t) := ⟨fun k => if k = t then 1 else 0, t + 1, fun x => by
  rw [evN_S, evN_0 (fun k hk => if_neg (by omega)), if_pos rfl, Rat.intCast_one]
  grind⟩
theorem isP_add {F G : Rat → Rat} (hF : isP F) (hG : isP G) : isP (fun x => F x + G x) := by
  obtain ⟨f, t, hf⟩ := hF
  obtain ⟨g, n, hg⟩ := hG
  refine ⟨fun k => trN f t k + trN g n k, t + n, fun x => ?_⟩
  show F x + G x = _
  rw [evN_add, evN_to (n := t) (N := t + n) (by omega) (fun k h1 _ => trN_z h1), evN_to (p := trN g n) (n := n) (N := t + n) (by omega) (fun k h1 _ => trN_z h1), evN_tr, evN_tr, hf, hg]
theorem isP_mul {F G : Rat → Rat} (hF : isP F) (hG : isP G) : isP (fun x => F x * G x) := by
  obtain ⟨f, t, hf⟩ := hF
  obtain ⟨g, n, hg⟩ := hG
  refine ⟨fun k => cvN f (trN g n) k t, t + n, fun x => ?_⟩
  show F x * G x = _
  rw [evN_cv (n := n) (fun k h => trN_z h) t (by omega), evN_tr, hf, hg]
theorem isP_sm {F : Rat → Rat} (c : Int) (hF : isP F) : isP (fun x => (c : Rat) * F x) := isP_mul (isP_c c) hF
theorem isP_neg {F : Rat → Rat} (hF : isP F) : isP (fun x => -F x) := by
  obtain ⟨f, t, hf⟩ := isP_sm (-1) hF
  exact ⟨f, t, fun x => by rw [← hf x, Rat.intCast_neg, Rat.intCast_one]; grind⟩
theorem isP_sub {F G : Rat → Rat} (hF : isP F) (hG : isP G) : isP (fun x => F x - G x) := by
  obtain ⟨f, t, hf⟩ := isP_add hF (isP_neg hG)
  exact ⟨f, t, fun x => by rw [← hf x]; grind⟩
theorem isP_evN (p : Nat → Int) (n : Nat) : isP (fun x => evN p n x) := ⟨p, n, fun _ => rfl⟩
/-- of a degree -/
def hasD (F : Rat → Rat) (n : Nat) : Prop := ∃ f : Nat → Int, f n ≠ 0 ∧ ∀ x, F x = evN f (n + 1) x
theorem hasD.p {F : Rat → Rat} {n : Nat} (h : hasD F n) : isP F := by
  obtain ⟨f, -, hf⟩ := h
  exact ⟨f, n + 1, hf⟩
theorem isP_deg {F : Rat → Rat} (h : isP F) : (∀ x, F x = 0) ∨ ∃ n, hasD F n := by
  obtain ⟨f, t, hf⟩ := h
  induction t with
  | zero => exact Or.inl (fun x => (hf x).trans rfl)
  | succ t ih =>
    by_cases e : f t = 0
    · exact ih (fun x => by rw [hf x, evN_S, e, Rat.intCast_zero]; grind)
    · exact Or.inr ⟨t, f, e, hf⟩
theorem hasD_mul {F G : Rat → Rat} {n m : Nat} (hF : hasD F n) (hG : hasD G m) : hasD (fun x => F x * G x) (n + m) := by
  obtain ⟨f, f0, hf⟩ := hF
  obtain ⟨g, g0, hg⟩ := hG
  have hz : ∀ k t, (∀ i, i < t → m + 1 ≤ k - i ∨ k < i) → cvN f (trN g (m + 1)) k t = 0 := by
    intro k t
    induction t with
    | zero => intro _; rfl
    | succ t ih =>
      intro h
      rw [cvN, ih (fun i hi => h i (by omega))]
      rcases h t (by omega) with e | e
      · rw [trN_z e, Int.mul_zero]
        split <;> rfl
      · rw [if_neg (by omega)]
        rfl
  refine ⟨fun k => cvN f (trN g (m + 1)) k (n + 1), ?_, fun x => ?_⟩
  · dsimp only
    rw [cvN, hz (n + m) n (fun i hi => Or.inl (by omega)), if_pos (by omega), trN_s (by omega), Nat.add_sub_cancel_left, Int.zero_add]
    intro z
    rcases Int.mul_eq_zero.mp z with e | e
    · exact f0 e
    · exact g0 e
  · show F x * G x = _
    rw [hf, hg, ← evN_tr (f := g), ← evN_cv (N := n + m + 1) (fun k h => trN_z h) (n + 1) (by omega)]
theorem hasD_uniq {F : Rat → Rat} {n m : Nat} (h1 : hasD F n) (h2 : hasD F m) : n ≤ m := by
  obtain ⟨f, f0, hf⟩ := h1
  obtain ⟨g, g0, hg⟩ := h2
  rcases Nat.lt_or_ge m n with l | l
  · exfalso
    have := evN_eq (n := n + 1) (p := f) (q := trN g (m + 1)) (fun x => by
      rw [← hf, hg, ← evN_tr (f := g)]
      exact (evN_to (by omega) (fun k h1 _ => trN_z h1)).symm) n (by omega)
    rw [trN_z (by omega)] at this
    exact f0 this
  · exact l
theorem hasD_ne {F : Rat → Rat} {n : Nat} (h : hasD F n) : ¬ ∀ x, F x = 0 := fun z => by
  obtain ⟨f, f0, hf⟩ := h
  exact f0 (evN_id (n := n + 1) (fun w _ => by rw [← hf, z]) n (by omega))
theorem canc {U H : Rat → Rat} {n : Nat} (hU : isP U) (hH : hasD H n) (h : ∀ x, U x * H x = 0) : ∀ x, U x = 0 := by
  rcases isP_deg hU with g | ⟨m, hm⟩
  · exact g
  · exact absurd h (hasD_ne (hasD_mul hm hH))
theorem cancE {U V H : Rat → Rat} {n : Nat} (hU : isP U) (hV : isP V) (hH : hasD H n) (h : ∀ x, U x * H x = V x * H x) : ∀ x, U x = V x := fun x => by
  have := canc (isP_sub hU hV) hH (fun x => by have := h x; grind) x
  grind
/-! derivatives -/
def dN (p : Nat → Int) : Nat → Rat → Rat
  | 0, _ => 0
  | n + 1, x => dN p n x + (p n : Rat) * ((n : Rat) * x ^ (n - 1))
theorem dN_S {p : Nat → Int} {n : Nat} {x : Rat} : dN p (n + 1) x = dN p n x + (p n : Rat) * ((n : Rat) * x ^ (n - 1)) := rfl
theorem dN_cg {p q : Nat → Int} {x : Rat} : ∀ {n : Nat}, (∀ k, k < n → p k = q k) → dN p n x = dN q n x
  | 0, _ => rfl
  | n + 1, h => by
    rw [dN_S, dN_S, dN_cg (fun k hk => h k (by omega)), h n (by omega)]
theorem dN_add {p q : Nat → Int} {x : Rat} : ∀ n, dN (fun k => p k + q k) n x = dN p n x + dN q n x
  | 0 => by
    show (0 : Rat) = 0 + 0
    grind
  | n + 1 => by
    rw [dN_S, dN_S, dN_S, dN_add n, Rat.intCast_add]
    grind
theorem dN_0 {p : Nat → Int} {x : Rat} : ∀ {n : Nat}, (∀ k, k < n → p k = 0) → dN p n x = 0
  | 0, _ => rfl
  | n + 1, h => by
    rw [dN_S, dN_0 (fun k hk => h k (by omega)), h n (by omega), Rat.intCast_zero]
    grind
theorem dN_up {p : Nat → Int} {x : Rat} {n : Nat} : ∀ {m : Nat}, (∀ k, n ≤ k → k < n + m → p k = 0) → dN p (n + m) x = dN p n x
  | 0, _ => rfl
  | m + 1, h => by
    rw [← Nat.add_assoc, dN_S, dN_up (fun k h1 h2 => h k h1 (by omega)), h (n + m) (by omega) (by omega), Rat.intCast_zero]
    grind
theorem dN_to {p : Nat → Int} {x : Rat} {n N : Nat} (hN : n ≤ N) (h : ∀ k, n ≤ k → k < N → p k = 0) : dN p N x = dN p n x := by
  obtain ⟨m, rfl⟩ : ∃ m, N = n + m := ⟨N - n, by omega⟩
  exact dN_up h
theorem dN_tr {f : Nat → Int} {t : Nat} {x : Rat} : dN (trN f t) t x = dN f t x := dN_cg (fun _ hk => trN_s hk)
theorem dpw {x : Rat} (a b : Nat) : ((a + b : Nat) : Rat) * x ^ (a + b - 1) = ((a : Rat) * x ^ (a - 1)) * x ^ b + x ^ a * ((b : Rat) * x ^ (b - 1)) := by
  rw [Rat.natCast_add]
  cases a with
  | zero =>
    rw [Nat.zero_add, Rat.pow_zero, show ((0 : Nat) : Rat) = 0 from rfl]
    grind
  | succ a =>
    cases b with
    | zero =>
      rw [Nat.add_zero, Rat.pow_zero, show ((0 : Nat) : Rat) = 0 from rfl]
      grind
    | succ b =>
      rw [Nat.add_sub_cancel, Nat.add_sub_cancel, show a + 1 + (b + 1) - 1 = a + b + 1 by omega, Rat.pow_succ, Rat.pow_succ, Rat.pow_succ, rpow_add]
      grind
theorem dN_sh0 {q : Nat → Int} {c : Int} {t : Nat} {x : Rat} : ∀ m, dN (fun k => if t ≤ k then c * q (k - t) else 0) (t + m) x = (c : Rat) * (((t : Rat) * x ^ (t - 1)) * evN q m x + x ^ t * dN q m x)
  | 0 => by
    rw [Nat.add_zero, dN_0 (fun k hk => if_neg (by omega))]
    show (0 : Rat) = (c : Rat) * (((t : Rat) * x ^ (t - 1)) * 0 + x ^ t * 0)
    grind
  | m + 1 => by
    rw [← Nat.add_assoc, dN_S, dN_sh0 m, evN_S, dN_S, if_pos (by omega), Nat.add_sub_cancel_left, Rat.intCast_mul, dpw]
    grind
theorem dN_sh {q : Nat → Int} {c : Int} {t n N : Nat} {x : Rat} (h : t + n ≤ N) (hq : ∀ k, n ≤ k → q k = 0) : dN (fun k => if t ≤ k then c * q (k - t) else 0) N x = (c : Rat) * (((t : Rat) * x ^ (t - 1)) * evN q n x + x ^ t * dN q n x) := by
  rw [← dN_sh0 n]
  refine dN_to h (fun k h1 h2 => ?_)
  rw [if_pos (by omega), hq (k - t) (by omega), Int.mul_zero]
theorem dN_cv {f q : Nat → Int} {n N : Nat} {x : Rat} (hq : ∀ k, n ≤ k → q k = 0) : ∀ t, t + n ≤ N + 1 → dN (fun k => cvN f q k t) N x = dN f t x * evN q n x + evN f t x * dN q n x
  | 0, _ => by
    rw [show dN (fun k => cvN f q k 0) N x = 0 from dN_0 (fun k hk => rfl)]
    show (0 : Rat) = 0 * evN q n x + 0 * dN q n x
    grind
  | t + 1, h => by
    have e : (fun k => cvN f q k (t + 1)) = fun k => cvN f q k t + (if t ≤ k then f t * q (k - t) else 0) := rfl
    rw [e, dN_add, dN_cv hq t (by omega), dN_sh (n := n) (by omega) hq, evN_S, dN_S]
    grind
/-- F' is what F derived is -/
def isD (F F' : Rat → Rat) : Prop := ∃ (f : Nat → Int) (t : Nat), (∀ x, F x = evN f t x) ∧ ∀ x, F' x = dN f t x
theorem isD.p {F F' : Rat → Rat} (h : isD F F') : isP F := by
  obtain ⟨f, t, hf, -⟩ := h
  exact ⟨f, t, hf⟩
theorem isD_uq {F A B : Rat → Rat} (h1 : isD F A) (h2 : isD F B) : ∀ x, A x = B x := fun x => by
  obtain ⟨f, t, hf, hA⟩ := h1
  obtain ⟨g, n, hg, hB⟩ := h2
  have e := evN_eq (n := t + n) (p := trN f t) (q := trN g n) (fun x => by
    rw [evN_to (n := t) (N := t + n) (by omega) (fun k h1 _ => trN_z h1), evN_to (p := trN g n) (n := n) (N := t + n) (by omega) (fun k h1 _ => trN_z h1), evN_tr, evN_tr, ← hf, ← hg])
  rw [hA, hB, ← dN_tr (f := f), ← dN_tr (f := g), ← dN_to (p := trN f t) (n := t) (N := t + n) (by omega) (fun k h1 _ => trN_z h1), ← dN_to (p := trN g n) (n := n) (N := t + n) (by omega) (fun k h1 _ => trN_z h1)]
  exact dN_cg e
theorem isD_mul {F F' G G' : Rat → Rat} (h1 : isD F F') (h2 : isD G G') : isD (fun x => F x * G x) (fun x => F' x * G x + F x * G' x) := by
  obtain ⟨f, t, hf, hf'⟩ := h1
  obtain ⟨g, n, hg, hg'⟩ := h2
  refine ⟨fun k => cvN f (trN g n) k t, t + n, fun x => ?_, fun x => ?_⟩
  · show F x * G x = _
    rw [evN_cv (n := n) (fun k h => trN_z h) t (by omega), evN_tr, hf, hg]
  · show F' x * G x + F x * G' x = _
    rw [dN_cv (n := n) (fun k h => trN_z h) t (by omega), evN_tr, dN_tr, hf, hg, hf', hg']
theorem isD_evN (p : Nat → Int) (n : Nat) : isD (fun x => evN p n x) (fun x => dN p n x) := ⟨p, n, fun _ => rfl, fun _ => rfl⟩
theorem isD_sm {F F' : Rat → Rat} (c : Int) (h : isD F F') : isD (fun x => (c : Rat) * F x) (fun x => (c : Rat) * F' x) := by
  obtain ⟨f, t, hf, hd⟩ := isD_mul (isD_evN (fun _ => c) 1) h
  refine ⟨f, t, fun x => ?_, fun x => ?_⟩
  · rw [← hf x]
    dsimp only
    rw [evN_S]
    show (c : Rat) * F x = ((0 : Rat) + (c : Rat) * x ^ 0) * F x
    rw [Rat.pow_zero]
    grind
  · rw [← hd x]
    dsimp only
    rw [evN_S, dN_S]
    show (c : Rat) * F' x = ((0 : Rat) + (c : Rat) * (((0 : Nat) : Rat) * x ^ (0 - 1))) * F x + ((0 : Rat) + (c : Rat) * x ^ 0) * F' x
    rw [Rat.pow_zero, show ((0 : Nat) : Rat) = 0 from rfl]
    grind
theorem isD_P {F : Rat → Rat} (h : isP F) : ∃ F', isD F F' ∧ isP F' := by
  obtain ⟨f, t, hf⟩ := h
  refine ⟨fun x => dN f t x, ⟨f, t, hf, fun _ => rfl⟩, ?_⟩
  clear hf
  induction t with
  | zero => exact ⟨f, 0, fun _ => rfl⟩
  | succ t ih =>
    obtain ⟨g, n, hg⟩ := isP_add ih (isP_sm (f t) (isP_sm (t : Int) (isP_pw (t - 1))))
    exact ⟨g, n, fun x => by rw [← hg x]; rfl⟩
