/-! divisors of numbers (printed by wip/whole/t49b.py) -/
/-- the divisors among f numbers from d on -/
def dvF (n : Nat) : Nat → Nat → List Nat
  | 0, _ => []
  | f + 1, d => if n % d = 0 then d :: dvF n f (d + 1) else dvF n f (d + 1)
/-- the divisors up to 999 -/
def dvs (n : Nat) : List Nat := dvF n 999 1
/-- how many; for the kernel: no lists, no instances -/
noncomputable def dvC (n f : Nat) : Nat → Nat := Nat.rec (motive := fun _ => Nat → Nat) (fun _ => 0) (fun _ ih d => Nat.add (Nat.sub 1 (Nat.mod n d)) (ih (Nat.succ d))) f
theorem dvC_0 {n d : Nat} : dvC n 0 d = 0 := rfl
theorem dvC_s {n f d : Nat} : dvC n (f + 1) d = (1 - n % d) + dvC n f (d + 1) := rfl
theorem dvF_len {n : Nat} : ∀ (f d : Nat), (dvF n f d).length = dvC n f d
  | 0, _ => rfl
  | f + 1, d => by
    rw [dvF, dvC_s]
    by_cases h : n % d = 0
    · rw [if_pos h, h, List.length_cons, dvF_len f (d + 1)]
      omega
    · rw [if_neg h, dvF_len f (d + 1)]
      omega
/-- k numbers from a on have 32 at most -/
noncomputable def dvOk (f a k : Nat) : Bool := Nat.rec (motive := fun _ => Bool) true (fun i ih => and (Nat.ble (dvC (Nat.add a i) f 1) 32) ih) k
theorem dvOk_s {f a k : Nat} : dvOk f a (k + 1) = (Nat.ble (dvC (a + k) f 1) 32 && dvOk f a k) := rfl
theorem dvOk_of {f a : Nat} : ∀ {k n : Nat}, dvOk f a k = true → a ≤ n → n < a + k → dvC n f 1 ≤ 32
  | 0, _, _, h1, h2 => absurd h1 (Nat.not_le.mpr h2)
  | k + 1, n, h, h1, h2 => by
    rw [dvOk_s, Bool.and_eq_true] at h
    by_cases e : n = a + k
    · rw [e]; exact Nat.le_of_ble_eq_true h.1
    · exact dvOk_of h.2 h1 (by omega)
theorem dvOk_1 : dvOk 999 1 40 = true := by decide +kernel
theorem dvOk_41 : dvOk 999 41 40 = true := by decide +kernel
theorem dvOk_81 : dvOk 999 81 40 = true := by decide +kernel
theorem dvOk_121 : dvOk 999 121 40 = true := by decide +kernel
theorem dvOk_161 : dvOk 999 161 40 = true := by decide +kernel
theorem dvOk_201 : dvOk 999 201 40 = true := by decide +kernel
theorem dvOk_241 : dvOk 999 241 40 = true := by decide +kernel
theorem dvOk_281 : dvOk 999 281 40 = true := by decide +kernel
theorem dvOk_321 : dvOk 999 321 40 = true := by decide +kernel
theorem dvOk_361 : dvOk 999 361 40 = true := by decide +kernel
theorem dvOk_401 : dvOk 999 401 40 = true := by decide +kernel
theorem dvOk_441 : dvOk 999 441 40 = true := by decide +kernel
theorem dvOk_481 : dvOk 999 481 40 = true := by decide +kernel
theorem dvOk_521 : dvOk 999 521 40 = true := by decide +kernel
theorem dvOk_561 : dvOk 999 561 40 = true := by decide +kernel
theorem dvOk_601 : dvOk 999 601 40 = true := by decide +kernel
theorem dvOk_641 : dvOk 999 641 40 = true := by decide +kernel
theorem dvOk_681 : dvOk 999 681 40 = true := by decide +kernel
theorem dvOk_721 : dvOk 999 721 40 = true := by decide +kernel
theorem dvOk_761 : dvOk 999 761 40 = true := by decide +kernel
theorem dvOk_801 : dvOk 999 801 40 = true := by decide +kernel
theorem dvOk_841 : dvOk 999 841 40 = true := by decide +kernel
theorem dvOk_881 : dvOk 999 881 40 = true := by decide +kernel
theorem dvOk_921 : dvOk 999 921 40 = true := by decide +kernel
theorem dvOk_961 : dvOk 999 961 39 = true := by decide +kernel
theorem dvC_32 {n f : Nat} (hf : f = 999) (h1 : 0 < n) (h2 : n ≤ 999) : dvC n f 1 ≤ 32 := by
  by_cases g1 : n < 41
  · exact dvOk_of (hf ▸ dvOk_1) (by omega) (by omega)
  by_cases g41 : n < 81
  · exact dvOk_of (hf ▸ dvOk_41) (by omega) (by omega)
  by_cases g81 : n < 121
  · exact dvOk_of (hf ▸ dvOk_81) (by omega) (by omega)
  by_cases g121 : n < 161
  · exact dvOk_of (hf ▸ dvOk_121) (by omega) (by omega)
  by_cases g161 : n < 201
  · exact dvOk_of (hf ▸ dvOk_161) (by omega) (by omega)
  by_cases g201 : n < 241
  · exact dvOk_of (hf ▸ dvOk_201) (by omega) (by omega)
  by_cases g241 : n < 281
  · exact dvOk_of (hf ▸ dvOk_241) (by omega) (by omega)
  by_cases g281 : n < 321
  · exact dvOk_of (hf ▸ dvOk_281) (by omega) (by omega)
  by_cases g321 : n < 361
  · exact dvOk_of (hf ▸ dvOk_321) (by omega) (by omega)
  by_cases g361 : n < 401
  · exact dvOk_of (hf ▸ dvOk_361) (by omega) (by omega)
  by_cases g401 : n < 441
  · exact dvOk_of (hf ▸ dvOk_401) (by omega) (by omega)
  by_cases g441 : n < 481
  · exact dvOk_of (hf ▸ dvOk_441) (by omega) (by omega)
  by_cases g481 : n < 521
  · exact dvOk_of (hf ▸ dvOk_481) (by omega) (by omega)
  by_cases g521 : n < 561
  · exact dvOk_of (hf ▸ dvOk_521) (by omega) (by omega)
  by_cases g561 : n < 601
  · exact dvOk_of (hf ▸ dvOk_561) (by omega) (by omega)
  by_cases g601 : n < 641
  · exact dvOk_of (hf ▸ dvOk_601) (by omega) (by omega)
  by_cases g641 : n < 681
  · exact dvOk_of (hf ▸ dvOk_641) (by omega) (by omega)
  by_cases g681 : n < 721
  · exact dvOk_of (hf ▸ dvOk_681) (by omega) (by omega)
  by_cases g721 : n < 761
  · exact dvOk_of (hf ▸ dvOk_721) (by omega) (by omega)
  by_cases g761 : n < 801
  · exact dvOk_of (hf ▸ dvOk_761) (by omega) (by omega)
  by_cases g801 : n < 841
  · exact dvOk_of (hf ▸ dvOk_801) (by omega) (by omega)
  by_cases g841 : n < 881
  · exact dvOk_of (hf ▸ dvOk_841) (by omega) (by omega)
  by_cases g881 : n < 921
  · exact dvOk_of (hf ▸ dvOk_881) (by omega) (by omega)
  by_cases g921 : n < 961
  · exact dvOk_of (hf ▸ dvOk_921) (by omega) (by omega)
  exact dvOk_of (hf ▸ dvOk_961) (by omega) (by omega)
theorem dvs_32 {n : Nat} (h1 : 0 < n) (h2 : n ≤ 999) : (dvs n).length ≤ 32 := by
  unfold dvs
  rw [dvF_len]
  exact dvC_32 rfl h1 h2
theorem dvs_drop {n : Nat} : (dvs n).drop 0 = dvF n 999 1 := rfl
