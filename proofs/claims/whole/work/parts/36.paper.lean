/-! what is written on the paper (printed by wip/whole/t36.py) -/
/-- the paper holds w -/
def PL (I : amI) (w : List Int32) : Prop := I 147 1 = nI w.length ∧ ∀ k, k < w.length → I 148 k = w.getD k 0
def FrPp (I I' : amI) : Prop := ∀ y, y ≠ 147 → y ≠ 148 → I' y = I y
theorem FrPp.rf {I : amI} : FrPp I I := fun _ _ _ => rfl
theorem FrPp.tr {I I1 I2 : amI} (h1 : FrPp I I1) (h2 : FrPp I1 I2) : FrPp I I2 := fun y a b => (h2 y a b).trans (h1 y a b)
/-- a method that writes d -/
def PpP (I : amI) (J : amJ) (R : amR) (w : List Int32) (v : Option Value) (I' : amI) (J' : amJ) (R' : amR) : Prop := v = none ∧ PL I' w ∧ FrPp I I' ∧ J' = J ∧ R' = R
/-- the figures of a size -/
def dgs (s : Nat) : List Int32 := (if 100 ≤ s then [nI (48 + s / 100 % 10)] else []) ++ (if 10 ≤ s then [nI (48 + s / 10 % 10)] else []) ++ [nI (48 + s % 10)]
theorem byt7 : ∀ n, n < 128 → (nI n).toInt8.toInt32 = nI n := by decide +kernel
section PAPER
variable {L : Nat} {I : amI} {J : amJ} {R : amR} {Q : amQ} {n s : Nat} {v : Int32} {w : List Int32}
theorem r_putL (hR : amRok R) (h : PL I w) (hw : w.length < 60) (hn : n < 128) : Cl 103 [.ref 147, .int (nI n)] (amSH L) I J R (fun u I' J' R' => PpP I J R (w ++ [nI n]) u I' J' R') := by
  refine (r_put (L := L) (I := I) (J := J) (v := nI n) hR h.1 hw).mono (fun u I' J' R' ⟨h1, h2, h3, h4⟩ => ?_)
  subst h1 h2 h3 h4
  refine ⟨rfl, ⟨?_, fun k hk => ?_⟩, fun y a b => ?_, rfl, rfl⟩
  · rw [amU_same, List.length_append, List.length_singleton]
  · rw [List.length_append, List.length_singleton] at hk
    rw [amU_ne (by decide)]
    by_cases e : k = w.length
    · subst e
      rw [amU_same, byt7 n hn, byt7 n hn]
      simp
    · rw [amU_ni e, h.2 k (by omega)]
      rw [List.getD_eq_getElem?_getD, List.getD_eq_getElem?_getD, List.getElem?_append_left (by omega)]
  · funext i
    rw [amU_ne a, amU_ne b]
theorem dg1 : ∀ s, s < 1000 → (48 + (nI s / 100 - nI s / 100 / 10 * 10) : Int32) = nI (48 + s / 100 % 10) := by decide +kernel
theorem dg2 : ∀ s, s < 1000 → (48 + (nI s / 10 - nI s / 10 / 10 * 10) : Int32) = nI (48 + s / 10 % 10) := by decide +kernel
theorem dg3 : ∀ s, s < 1000 → (48 + (nI s - nI s / 10 * 10) : Int32) = nI (48 + s % 10) := by decide +kernel
set_option maxHeartbeats 2000000 in
theorem r_size (hR : amRok R) (h : PL I w) (hw : w.length + 3 ≤ 60) (hs : s < 1000) : Cl 102 [.ref 147, .int (nI s)] (amSH L) I J R (fun u I' J' R' => PpP I J R (w ++ dgs s) u I' J' R') := by
  show Ex 102 0 [some (.ref 147), some (.int (nI s))] [] (amSH L) I J R _
  by_cases g1 : 100 ≤ s
  · refine LI1 e102_0 ?_
    refine Ki e102_1 kbipush_100 ?_
    refine CN_lt (a := s) (b := 100) e102_3 t102_3 rfl (by decide) (by omega) (by omega) (fun q => absurd q (by omega)) (fun _ => ?_)
    refine LA0 e102_6 ?_
    refine Ki e102_7 kbipush_48 ?_
    refine LI1 e102_9 ?_
    refine Ki e102_10 kbipush_100 ?_
    refine Idiv e102_12 (by decide) ?_
    refine Ki e102_13 kbipush_10 ?_
    refine Irem e102_15 (by decide) ?_
    refine Iadd e102_16 ?_
    rw [dg1 s (by omega)]
    refine Cv1p e102_17 c102_103 (o147 L) (Nat.le_of_ble_eq_true rfl) (Nat.le_of_ble_eq_true rfl) (r_putL (n := 48 + s / 100 % 10) hR h (by omega) (by omega)) ?_
    rintro _ I1 J1 R1 ⟨rfl, hP1, hF1, hJ1, hR1⟩
    subst hJ1
    subst hR1
    refine LI1 e102_20 ?_
    refine Ki e102_21 kbipush_10 ?_
    refine CN_lt (a := s) (b := 10) e102_23 t102_23 rfl (by decide) (by omega) (by omega) (fun q => absurd q (by omega)) (fun _ => ?_)
    refine LA0 e102_26 ?_
    refine Ki e102_27 kbipush_48 ?_
    refine LI1 e102_29 ?_
    refine Ki e102_30 kbipush_10 ?_
    refine Idiv e102_32 (by decide) ?_
    refine Ki e102_33 kbipush_10 ?_
    refine Irem e102_35 (by decide) ?_
    refine Iadd e102_36 ?_
    rw [dg2 s (by omega)]
    refine Cv1p e102_37 c102_103 (o147 L) (Nat.le_of_ble_eq_true rfl) (Nat.le_of_ble_eq_true rfl) (r_putL (n := 48 + s / 10 % 10) hR hP1 (by simp; omega) (by omega)) ?_
    rintro _ I2 J2 R2 ⟨rfl, hP2, hF2, hJ2, hR2⟩
    subst hJ2
    subst hR2
    refine LA0 e102_40 ?_
    refine Ki e102_41 kbipush_48 ?_
    refine LI1 e102_43 ?_
    refine Ki e102_44 kbipush_10 ?_
    refine Irem e102_46 (by decide) ?_
    refine Iadd e102_47 ?_
    rw [dg3 s (by omega)]
    refine Cv1p e102_48 c102_103 (o147 L) (Nat.le_of_ble_eq_true rfl) (Nat.le_of_ble_eq_true rfl) (r_putL (n := 48 + s % 10) hR hP2 (by simp; omega) (by omega)) ?_
    rintro _ I3 J3 R3 ⟨rfl, hP3, hF3, hJ3, hR3⟩
    subst hJ3
    subst hR3
    exact Rvd e102_51 rt102 (by
    have e : w ++ dgs s = w ++ [nI (48 + s / 100 % 10)] ++ [nI (48 + s / 10 % 10)] ++ [nI (48 + s % 10)] := by
      unfold dgs
      rw [if_pos (by omega), if_pos (by omega)]
      simp
    rw [e]
    exact ⟨rfl, hP3, (hF1.tr hF2).tr hF3, rfl, rfl⟩)
  · by_cases g2 : 10 ≤ s
    · refine LI1 e102_0 ?_
      refine Ki e102_1 kbipush_100 ?_
      refine CN_lt (a := s) (b := 100) e102_3 t102_3 rfl (by decide) (by omega) (by omega) (fun _ => ?_) (fun q => by omega)
      refine LI1 e102_20 ?_
      refine Ki e102_21 kbipush_10 ?_
      refine CN_lt (a := s) (b := 10) e102_23 t102_23 rfl (by decide) (by omega) (by omega) (fun q => absurd q (by omega)) (fun _ => ?_)
      refine LA0 e102_26 ?_
      refine Ki e102_27 kbipush_48 ?_
      refine LI1 e102_29 ?_
      refine Ki e102_30 kbipush_10 ?_
      refine Idiv e102_32 (by decide) ?_
      refine Ki e102_33 kbipush_10 ?_
      refine Irem e102_35 (by decide) ?_
      refine Iadd e102_36 ?_
      rw [dg2 s (by omega)]
      refine Cv1p e102_37 c102_103 (o147 L) (Nat.le_of_ble_eq_true rfl) (Nat.le_of_ble_eq_true rfl) (r_putL (n := 48 + s / 10 % 10) hR h (by omega) (by omega)) ?_
      rintro _ I1 J1 R1 ⟨rfl, hP1, hF1, hJ1, hR1⟩
      subst hJ1
      subst hR1
      refine LA0 e102_40 ?_
      refine Ki e102_41 kbipush_48 ?_
      refine LI1 e102_43 ?_
      refine Ki e102_44 kbipush_10 ?_
      refine Irem e102_46 (by decide) ?_
      refine Iadd e102_47 ?_
      rw [dg3 s (by omega)]
      refine Cv1p e102_48 c102_103 (o147 L) (Nat.le_of_ble_eq_true rfl) (Nat.le_of_ble_eq_true rfl) (r_putL (n := 48 + s % 10) hR hP1 (by simp; omega) (by omega)) ?_
      rintro _ I2 J2 R2 ⟨rfl, hP2, hF2, hJ2, hR2⟩
      subst hJ2
      subst hR2
      exact Rvd e102_51 rt102 (by
      have e : w ++ dgs s = w ++ [nI (48 + s / 10 % 10)] ++ [nI (48 + s % 10)] := by
        unfold dgs
        rw [if_neg (by omega), if_pos (by omega)]
        simp
      rw [e]
      exact ⟨rfl, hP2, hF1.tr hF2, rfl, rfl⟩)
    · refine LI1 e102_0 ?_
      refine Ki e102_1 kbipush_100 ?_
      refine CN_lt (a := s) (b := 100) e102_3 t102_3 rfl (by decide) (by omega) (by omega) (fun _ => ?_) (fun q => by omega)
      refine LI1 e102_20 ?_
      refine Ki e102_21 kbipush_10 ?_
      refine CN_lt (a := s) (b := 10) e102_23 t102_23 rfl (by decide) (by omega) (by omega) (fun _ => ?_) (fun q => by omega)
      refine LA0 e102_40 ?_
      refine Ki e102_41 kbipush_48 ?_
      refine LI1 e102_43 ?_
      refine Ki e102_44 kbipush_10 ?_
      refine Irem e102_46 (by decide) ?_
      refine Iadd e102_47 ?_
      rw [dg3 s (by omega)]
      refine Cv1p e102_48 c102_103 (o147 L) (Nat.le_of_ble_eq_true rfl) (Nat.le_of_ble_eq_true rfl) (r_putL (n := 48 + s % 10) hR h (by omega) (by omega)) ?_
      rintro _ I1 J1 R1 ⟨rfl, hP1, hF1, hJ1, hR1⟩
      subst hJ1
      subst hR1
      exact Rvd e102_51 rt102 (by
      have e : w ++ dgs s = w ++ [nI (48 + s % 10)] := by
        unfold dgs
        rw [if_neg (by omega), if_neg (by omega)]
        simp
      rw [e]
      exact ⟨rfl, hP1, hF1, rfl, rfl⟩)
/-- a term with its sign, behind w -/
def trm (w : List Int32) (c : Int) (k : Nat) : List Int32 :=
  (if c < 0 then w ++ [nI 45] else if 0 < w.length then w ++ [nI 43] else w) ++ (if c.natAbs ≠ 1 ∨ k = 0 then dgs c.natAbs else []) ++ (if 0 < k then [nI 120] else []) ++ (if 1 < k then [nI 94, nI (48 + k)] else [])
theorem dgs_le (s : Nat) : (dgs s).length ≤ 3 := by
  unfold dgs
  split <;> split <;> simp
end PAPER
