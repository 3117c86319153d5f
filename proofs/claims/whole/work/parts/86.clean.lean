/-! to clean what is clean (printed by wip/whole/t86.py) -/
theorem gN_sc {p s : Po} {g : Nat} : ∀ {n : Nat}, (∀ k, k < n → p k = s k * (g : Int)) → gN p n = gN s n * g
  | 0, _ => by
    show 0 = 0 * g
    rw [Nat.zero_mul]
  | n + 1, h => by
    rw [gN, gN, gN_sc (n := n) (fun k hk => h k (by omega)), h n (by omega), Int.natAbs_mul, Int.natAbs_natCast, Nat.gcd_mul_right]
theorem cln_cln {p : Po} : ∀ k, k < 9 → cln (cln p) k = cln p k := fun k hk => by
  by_cases h0 : gN p 9 = 0
  · have e : cln p k = 0 := by
      unfold cln
      rw [h0]
      exact Int.tdiv_zero _
    show (cln p k).tdiv ((gN (cln p) 9 : Nat) : Int) = cln p k
    rw [e]
    exact Int.zero_tdiv _
  · have hk9 : ∀ i, i < 9 → p i = cln p i * ((gN p 9 : Nat) : Int) := fun i hi => by
      unfold cln
      exact (Int.tdiv_mul_cancel (Int.ofNat_dvd_left.mpr (gN_dvd hi))).symm
    have h1 := gN_sc hk9
    have h2 : gN (cln p) 9 = 1 := by
      have : gN (cln p) 9 * gN p 9 = 1 * gN p 9 := by omega
      exact Nat.eq_of_mul_eq_mul_right (by omega) this
    show (cln p k).tdiv ((gN (cln p) 9 : Nat) : Int) = cln p k
    rw [h2]
    exact Int.tdiv_one _
