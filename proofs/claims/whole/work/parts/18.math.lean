/-! longs as numbers; polynomials as functions; what the memory holds -/
abbrev Po : Type := Nat → Int
def oI (a : Int) : Int64 := Int64.ofInt a
theorem oI_add (a b : Int) : oI a + oI b = oI (a + b) := (Int64.ofInt_add a b).symm
theorem oI_mul (a b : Int) : oI a * oI b = oI (a * b) := (Int64.ofInt_mul a b).symm
theorem oI_neg (a : Int) : -oI a = oI (-a) := (Int64.ofInt_neg a).symm
theorem oI_sub (a b : Int) : oI a - oI b = oI (a - b) := (Int64.ofInt_sub a b).symm
theorem oI_0 : (0 : Int64) = oI 0 := rfl
theorem oI_1 : (1 : Int64) = oI 1 := rfl
theorem oI_of (x : Int64) : x = oI x.toInt := (Int64.ofInt_toInt x).symm
theorem oI_t {a : Int} (h1 : -(2 ^ 63) ≤ a) (h2 : a < 2 ^ 63) : (oI a).toInt = a := Int64.toInt_ofInt_of_le h1 h2
/-- within, so that nothing is cut off -/
def iB (a : Int) : Prop := -9000000000000000000 ≤ a ∧ a ≤ 9000000000000000000
theorem oI_tb {a : Int} (h : iB a) : (oI a).toInt = a := oI_t (by unfold iB at h; omega) (by unfold iB at h; omega)
theorem oI_lt {a b : Int} (ha : iB a) (hb : iB b) : oI a < oI b ↔ a < b := by
  rw [Int64.lt_iff_toInt_lt, oI_tb ha, oI_tb hb]
theorem oI_le {a b : Int} (ha : iB a) (hb : iB b) : oI a ≤ oI b ↔ a ≤ b := by
  rw [Int64.le_iff_toInt_le, oI_tb ha, oI_tb hb]
theorem oI_eq {a b : Int} (ha : iB a) (hb : iB b) : oI a = oI b ↔ a = b := by
  rw [← Int64.toInt_inj, oI_tb ha, oI_tb hb]
theorem oI_div {a b : Int} (ha : iB a) (hb : iB b) : oI a / oI b = oI (a.tdiv b) := by
  apply Int64.toInt_inj.mp
  have h : (oI a) ≠ Int64.minValue := by
    intro q
    have := congrArg Int64.toInt q
    rw [oI_tb ha, Int64.toInt_minValue] at this
    unfold iB at ha
    omega
  rw [Int64.toInt_div_of_ne_left _ _ h, oI_tb ha, oI_tb hb]
  symm
  apply oI_tb
  have h2 : (a.tdiv b).natAbs ≤ a.natAbs := by rw [Int.natAbs_tdiv]; exact Nat.div_le_self _ _
  unfold iB at ha ⊢
  omega
theorem oI_rem {a b : Int} (ha : iB a) (hb : iB b) : oI a - oI a / oI b * oI b = oI (a.tmod b) := by
  rw [oI_div ha hb, oI_mul, oI_sub]
  congr 1
  rw [Int.tmod_def, Int.mul_comm]
def dI : Nat → Int32
  | 0 => -1
  | n + 1 => nI n
theorem dI_dec (n : Nat) : nI n + (-1) = dI n := by
  cases n with
  | zero => decide
  | succ n => exact pk_m1 n
theorem dI_toInt {n : Nat} (h : n < 2 ^ 31) : (dI n).toInt = (n : Int) - 1 := by
  cases n with
  | zero => decide
  | succ n => rw [dI, nI_toInt (by omega)]; omega
/-- the memory's row a holds the numbers p -/
def JP (J : amJ) (a : Nat) (p : Po) : Prop := ∀ k, k < 9 → J a k = oI (p k)
def PB (B : Int) (p : Po) : Prop := ∀ k, k < 9 → -B ≤ p k ∧ p k ≤ B
theorem PB.iB {B : Int} {p : Po} (h : PB B p) (hB : B ≤ 9000000000000000000) {k : Nat} (hk : k < 9) : iB (p k) := by
  obtain ⟨h1, h2⟩ := h k hk
  exact ⟨by omega, by omega⟩
theorem PB.mono {B C : Int} {p : Po} (h : PB B p) (hC : B ≤ C) : PB C p := fun k hk => ⟨by have := (h k hk).1; omega, by have := (h k hk).2; omega⟩
/-- how many numbers there are up to the last that isn't 0 -/
def szN (p : Po) : Nat → Nat
  | 0 => 0
  | n + 1 => if p n = 0 then szN p n else n + 1
def sz (p : Po) : Nat := szN p 9
theorem szN_le (p : Po) : ∀ n, szN p n ≤ n
  | 0 => Nat.le_refl _
  | n + 1 => by
    unfold szN
    split
    · exact Nat.le_succ_of_le (szN_le p n)
    · exact Nat.le_refl _
theorem sz_le (p : Po) : sz p ≤ 9 := szN_le p 9
theorem szN_zero (p : Po) : ∀ n k, szN p n ≤ k → k < n → p k = 0
  | 0, _, _, h => by omega
  | n + 1, k, h1, h2 => by
    unfold szN at h1
    split at h1
    · rename_i e
      by_cases hk : k = n
      · rw [hk]; exact e
      · exact szN_zero p n k h1 (by omega)
    · omega
theorem sz_zero {p : Po} {k : Nat} (h1 : sz p ≤ k) (h2 : k < 9) : p k = 0 := szN_zero p 9 k h1 h2
theorem szN_head (p : Po) : ∀ n, 0 < szN p n → p (szN p n - 1) ≠ 0
  | 0, h => absurd h (Nat.lt_irrefl 0)
  | n + 1, h => by
    unfold szN at h ⊢
    split
    · rename_i e
      rw [if_pos e] at h
      exact szN_head p n h
    · rename_i e
      exact e
theorem sz_head {p : Po} (h : 0 < sz p) : p (sz p - 1) ≠ 0 := szN_head p 9 h
theorem szN_of {p : Po} : ∀ {n m : Nat}, m ≤ n → (∀ k, m ≤ k → k < n → p k = 0) → (m = 0 ∨ p (m - 1) ≠ 0) → szN p n = m
  | 0, m, h1, _, _ => by unfold szN; omega
  | n + 1, m, h1, h2, h3 => by
    unfold szN
    by_cases e : m = n + 1
    · subst e
      rcases h3 with h3 | h3
      · omega
      · rw [Nat.add_sub_cancel] at h3
        rw [if_neg h3]
    · rw [if_pos (h2 n (by omega) (by omega))]
      exact szN_of (by omega) (fun k g1 g2 => h2 k g1 (by omega)) h3
theorem sz_of {p : Po} {m : Nat} (h1 : m ≤ 9) (h2 : ∀ k, m ≤ k → k < 9 → p k = 0) (h3 : m = 0 ∨ p (m - 1) ≠ 0) : sz p = m := szN_of h1 h2 h3
theorem sz_congr {p q : Po} (h : ∀ k, k < 9 → p k = q k) : sz p = sz q := by
  refine sz_of (sz_le q) (fun k g1 g2 => by rw [h k g2]; exact sz_zero g1 g2) ?_
  rcases Nat.eq_zero_or_pos (sz q) with g | g
  · exact Or.inl g
  · have := sz_le q
    exact Or.inr (by rw [h _ (by omega)]; exact sz_head g)
