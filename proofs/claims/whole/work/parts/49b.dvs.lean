/-! divisors of numbers (printed by wip/whole/t49b.py) -/
/-- the divisors among f numbers from d on -/
def dvF (n : Nat) : Nat → Nat → List Nat
  | 0, _ => []
  | f + 1, d => if n % d = 0 then d :: dvF n f (d + 1) else dvF n f (d + 1)
/-- the divisors up to 999 -/
def dvs (n : Nat) : List Nat := dvF n 999 1
def dvC (n : Nat) : Nat → Nat → Nat
  | 0, _ => 0
  | f + 1, d => match Nat.beq (n % d) 0 with
    | true => dvC n f (d + 1) + 1
    | false => dvC n f (d + 1)
theorem dvF_len {n : Nat} : ∀ (f d : Nat), (dvF n f d).length = dvC n f d
  | 0, _ => rfl
  | f + 1, d => by
    rw [dvF, dvC]
    by_cases h : n % d = 0
    · rw [if_pos h, show Nat.beq (n % d) 0 = true by rw [h]; rfl, List.length_cons, dvF_len f (d + 1)]
    · rw [if_neg h, show Nat.beq (n % d) 0 = false from Bool.eq_false_iff.mpr (fun z => h (Nat.eq_of_beq_eq_true z)), dvF_len f (d + 1)]
def dvOk : Nat → Bool
  | 0 => true
  | n + 1 => Nat.ble (dvC (n + 1) 999 1) 32 && dvOk n
theorem dvOk_of : ∀ {m n : Nat}, dvOk m = true → 0 < n → n ≤ m → dvC n 999 1 ≤ 32
  | 0, _, _, h1, h2 => by omega
  | m + 1, n, h, h1, h2 => by
    rw [dvOk, Bool.and_eq_true] at h
    by_cases e : n = m + 1
    · rw [e]; exact Nat.le_of_ble_eq_true h.1
    · exact dvOk_of h.2 h1 (by omega)
theorem dvOk_999 : dvOk 999 = true := by decide +kernel
theorem dvs_32 {n : Nat} (h1 : 0 < n) (h2 : n ≤ 999) : (dvs n).length ≤ 32 := by
  unfold dvs
  rw [dvF_len]
  exact dvOk_of dvOk_999 h1 h2
