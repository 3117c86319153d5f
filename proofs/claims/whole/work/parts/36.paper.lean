/-! what is written on the paper (printed by wip/whole/t36.py) -/
/-- the paper holds w -/
def PL (I : amI) (w : List Int32) : Prop := I 145 1 = nI w.length ∧ ∀ k, k < w.length → I 146 k = w.getD k 0
def FrPp (I I' : amI) : Prop := ∀ y, y ≠ 145 → y ≠ 146 → I' y = I y
theorem FrPp.rf {I : amI} : FrPp I I := fun _ _ _ => rfl
theorem FrPp.tr {I I1 I2 : amI} (h1 : FrPp I I1) (h2 : FrPp I1 I2) : FrPp I I2 := fun y a b => (h2 y a b).trans (h1 y a b)
/-- a method that writes d -/
def PpP (I : amI) (J : amJ) (R : amR) (w : List Int32) (v : Option Value) (I' : amI) (J' : amJ) (R' : amR) : Prop := v = none ∧ PL I' w ∧ FrPp I I' ∧ J' = J ∧ R' = R
/-- the figures of a size -/
def dgs (s : Nat) : List Int32 := (if 100 ≤ s then [nI (48 + s / 100 % 10)] else []) ++ (if 10 ≤ s then [nI (48 + s / 10 % 10)] else []) ++ [nI (48 + s % 10)]
theorem byt7 : ∀ n, n < 128 → (nI n).toInt8.toInt32 = nI n := by decide +kernel
section PAPER
variable {L : Nat} {I : amI} {J : amJ} {R : amR} {Q : amQ} {n s : Nat} {v : Int32} {w : List Int32}
theorem r_putL (hR : amRok R) (h : PL I w) (hw : w.length < 60) (hn : n < 128) : Cl 103 [.ref 145, .int (nI n)] (amSH L) I J R (fun u I' J' R' => PpP I J R (w ++ [nI n]) u I' J' R') := by
  refine (r_put (L := L) (I := I) (J := J) (v := nI n) hR h.1 hw).mono (fun u I' J' R' ⟨h1, h2, h3, h4⟩ => ?_)
  subst h1 h2 h3 h4
  refine ⟨rfl, ⟨?_, fun k hk => ?_⟩, fun y a b => ?_, rfl, rfl⟩
  · rw [amU_same, List.length_append, List.length_singleton]
  · rw [List.length_append, List.length_singleton] at hk
    rw [amU_ne (by decide)]
    by_cases e : k = w.length
    · subst e
      rw [amU_same, byt7 n hn, byt7 n hn]
      simp
    · rw [amU_ni e, h.2 k (by omega)]
      rw [List.getD_eq_getElem?_getD, List.getD_eq_getElem?_getD, List.getElem?_append_left (by omega)]
  · funext i
    rw [amU_ne a, amU_ne b]
end PAPER
