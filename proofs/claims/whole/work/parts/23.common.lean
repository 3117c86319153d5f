/-! what two polynomials have in common; free of repeated roots (printed by wip/whole/t23.py) -/
/-- only these rows may differ -/
def FrL (l : List Nat) (J J' : amJ) : Prop := ∀ y, y ∉ l → J' y = J y
theorem FrL.rf {l : List Nat} {J : amJ} : FrL l J J := fun _ _ => rfl
theorem FrL.tr {l : List Nat} {J J1 J2 : amJ} (h : FrL l J J1) (h2 : FrL l J1 J2) : FrL l J J2 := fun y hy => (h2 y hy).trans (h y hy)
theorem FrL.mono {l m : List Nat} {J J1 : amJ} (h : FrL l J J1) (hl : ∀ z, z ∈ l → z ∈ m) : FrL m J J1 := fun y hy => h y (fun z => hy (hl y z))
theorem Fr.l {l : List Nat} {J J1 : amJ} {x : Nat} (h : Fr J J1 x) (hx : x ∈ l) : FrL l J J1 := fun y hy => h y (fun e => hy (e ▸ hx))
theorem JP.fl {l : List Nat} {J J1 : amJ} {y : Nat} {p : Po} (h : JP J y p) (hf : FrL l J J1) (hy : y ∉ l) : JP J1 y p := fun k hk => by rw [hf y hy]; exact h k hk
/-- only the fields of one may differ -/
def RC (R R' : amR) : Prop := ∀ b, b ≠ 40 → R' b = R b
theorem RC.rf {R : amR} : RC R R := fun _ _ => rfl
theorem RC.tr {R R1 R2 : amR} (h : RC R R1) (h2 : RC R1 R2) : RC R R2 := fun y hy => (h2 y hy).trans (h y hy)
theorem RC.up {R R1 : amR} {k : Nat} {v : Option Nat} (h : RC R R1) : RC R (amU R1 40 k v) := fun y hy => by
  funext i
  rw [amU_ne hy, h y hy]
theorem amPO.rc {S : amS} {R R' : amR} {a : Nat} (h : amPO S R a) (hr : RC R R') (ha : a ≠ 40) : amPO S R' a := ⟨h.1, by rw [hr a ha]; exact h.2.1, h.2.2⟩
theorem amRok.up {R : amR} {k : Nat} {v : Option Nat} (h : amRok R) (hk : k < 2) : amRok (amU R 40 k v) := fun a i b hb => by
  by_cases e : a = 40
  · subst e
    by_cases e2 : i = k
    · subst e2
      match i, hk, hb with
      | 0, _, hb => rw [show amRT 40 0 = none from rfl] at hb; cases hb
      | 1, _, hb => rw [show amRT 40 1 = none from rfl] at hb; cases hb
    · rw [amU_ni e2]; exact h _ _ _ hb
  · rw [amU_ne e]; exact h _ _ _ hb
/-- which of the two is ahead -/
def CO (R : amR) (x y : Nat) : Prop := R 40 0 = some x ∧ R 40 1 = some y ∧ ((x = 41 ∧ y = 43) ∨ (x = 43 ∧ y = 41))
theorem CO.swap {R : amR} {x y : Nat} (h : CO R x y) : CO (amU (amU R 40 0 (some y)) 40 1 (some x)) y x := ⟨by rw [amU_ni (by decide), amU_same], amU_same, h.2.2.elim (fun e => Or.inr ⟨e.2, e.1⟩) (fun e => Or.inl ⟨e.2, e.1⟩)⟩
/-- Euclid's way over polynomials -/
def cmN : Nat → Po → Po → Option Po
  | 0, a, _ => some a
  | n + 1, a, b => if sz b = 0 then some a else match rem a b with
    | none => none
    | some r => cmN n b r
theorem cmN_more : ∀ {n m : Nat} {a b : Po}, sz b < n → sz b < m → cmN n a b = cmN m a b
  | 0, _, _, _, h, _ => absurd h (Nat.not_lt_zero _)
  | n + 1, 0, _, _, _, h => absurd h (Nat.not_lt_zero _)
  | n + 1, m + 1, a, b, h1, h2 => by
    rw [cmN, cmN]
    by_cases e : sz b = 0
    · rw [if_pos e, if_pos e]
    · rw [if_neg e, if_neg e]
      cases h : rem a b with
      | none => rfl
      | some r =>
        have := rem_sz h (by omega)
        exact cmN_more (by omega) (by omega)
/-- what two have in common; none: it doesn't fit -/
def com (p q : Po) : Option Po := if fit p = true ∧ fit q = true then (cmN 10 (cln p) (cln q)).map up else none
theorem up_PB {B : Int} {p : Po} (h : PB B p) : PB B (up p) := fun k hk => by
  obtain ⟨h1, h2⟩ := h k hk
  unfold up
  split <;> exact ⟨by omega, by omega⟩
theorem cmN_PB : ∀ {n : Nat} {a b r : Po}, cmN n a b = some r → PB 1000000 a → PB 1000000 b → PB 1000000 r
  | 0, a, b, r, h, ha, _ => by rw [cmN] at h; cases h; exact ha
  | n + 1, a, b, r, h, ha, hb => by
    rw [cmN] at h
    split at h
    · cases h; exact ha
    · split at h
      · cases h
      · rename_i e; exact cmN_PB h hb (rem_PB e)
theorem com_PB {p q g : Po} (h : com p q = some g) : PB 1000000 g := by
  unfold com at h
  split at h
  · rename_i e
    cases h2 : cmN 10 (cln p) (cln q) with
    | none => rw [h2] at h; cases h
    | some r =>
      rw [h2] at h
      cases h
      exact up_PB (cmN_PB h2 (fit_PB e.1) (fit_PB e.2))
  · cases h
theorem dI_neg {n : Nat} (h : n ≤ 9) : dI n < 0 ↔ n = 0 := by
  rw [Int32.lt_iff_toInt_lt, dI_toInt (by omega), show (0 : Int32).toInt = 0 from rfl]; omega
section COMMON
variable {L : Nat} {I : amI} {J : amJ} {R : amR} {Q : amQ} {a b c x y : Nat} {p q : Po}
theorem po41 (h : amRok R) : amPO (amSH L) R 41 := ⟨o41 L, h 41 0 42 rfl, o42 L⟩
theorem po43 (h : amRok R) : amPO (amSH L) R 43 := ⟨o43 L, h 43 0 44 rfl, o44 L⟩
theorem po45 (h : amRok R) : amPO (amSH L) R 45 := ⟨o45 L, h 45 0 46 rfl, o46 L⟩
theorem CO.px (h : CO R x y) (hR : amRok R) : amPO (amSH L) R x := by
  rcases h.2.2 with ⟨e, _⟩ | ⟨e, _⟩
  · rw [e]; exact po41 hR
  · rw [e]; exact po43 hR
theorem CO.py (h : CO R x y) (hR : amRok R) : amPO (amSH L) R y := by
  rcases h.2.2 with ⟨_, e⟩ | ⟨_, e⟩
  · rw [e]; exact po43 hR
  · rw [e]; exact po41 hR
theorem CO.mx (h : CO R x y) : x + 1 ∈ [42, 44] := by
  rcases h.2.2 with ⟨e, _⟩ | ⟨e, _⟩ <;> rw [e] <;> decide
theorem CO.my (h : CO R x y) : y + 1 ∈ [42, 44] := by
  rcases h.2.2 with ⟨_, e⟩ | ⟨_, e⟩ <;> rw [e] <;> decide
theorem CO.ne (h : CO R x y) : y ≠ x := by
  rcases h.2.2 with ⟨e, e2⟩ | ⟨e, e2⟩ <;> omega
theorem CO.n40 (h : CO R x y) : x ≠ 40 ∧ y ≠ 40 := by
  rcases h.2.2 with ⟨e, e2⟩ | ⟨e, e2⟩ <;> omega
/-- what find() comes to -/
def CmP (J : amJ) (R : amR) (o : Option Po) (v : Option Value) (J' : amJ) (R' : amR) : Prop := FrL [42, 44] J J' ∧ amRok R' ∧ RC R R' ∧ ∃ x y, CO R' x y ∧ ((∃ g, o = some g ∧ v = some (.int 1) ∧ JP J' (x + 1) g) ∨ (o = none ∧ v = some (.int 0)))
theorem CmP.tr {J J1 J' : amJ} {R R1 R' : amR} {o : Option Po} {v : Option Value} (h : CmP J1 R1 o v J' R') (h1 : FrL [42, 44] J J1) (h2 : RC R R1) : CmP J R o v J' R' := ⟨h1.tr h.1, h.2.1, h2.tr h.2.2.1, h.2.2.2⟩
set_option maxHeartbeats 2000000 in
theorem c_fail {i : Nat} {l5 : Option Value} (hR : amRok R) (hC : CO R x y) (hP : JP J (x + 1) p) (hB : PB 4000000000000000000 p) : Ex 26 45 [some (.ref 40), some (.ref a), some (.ref b), some (.int 0), some (.int (nI i)), l5] [] (amSH L) I J R (fun v I' J' R' => I' = I ∧ CmP J R none v J' R') := by
  have hx := hC.px (L := L) hR
  have hy := hC.py (L := L) hR
  have K : Ex 26 104 [some (.ref 40), some (.ref a), some (.ref b), some (.int 0), some (.int (nI i)), l5] [] (amSH L) I J R (fun v I' J' R' => I' = I ∧ CmP J R none v J' R') := by
    refine LA0 e26_104 ?_
    refine Gr e26_105 (o40 L) hC.1 f64 ?_
    refine Cv0p e26_108 c26_13 hx.1 (Nat.le_of_ble_eq_true rfl) (Nat.le_of_ble_eq_true rfl) (p_headUp hx hP hB) ?_
    rintro _ I2 J2 R2 ⟨rfl, rfl, rfl, hF, hP2⟩
    refine LI3 e26_111 ?_
    exact Rz e26_112 rt26 (by decide) (⟨rfl, hF.l hC.mx, hR, RC.rf, x, y, hC, Or.inr ⟨rfl, rfl⟩⟩)
  refine LI4 e26_45 ?_
  refine Ki e26_47 kbipush_27 ?_
  refine C_ge e26_49 t26_49 (fun h49 => ?_) (fun h49 => ?_)
  · exact K
  · refine LI3 e26_52 ?_
    refine B_eq e26_53 t26_53 (fun _ => ?_) (fun q => absurd (rfl) q)
    exact K
set_option maxHeartbeats 2000000 in
theorem c_loop : ∀ (n i : Nat) (x y : Nat) (p q : Po) (J : amJ) (R : amR) (l5 : Option Value), sz q < n → i + n ≤ 27 → amRok R → CO R x y → JP J (x + 1) p → JP J (y + 1) q → PB 1000000 p → PB 1000000 q → Ex 26 45 [some (.ref 40), some (.ref a), some (.ref b), some (.int 1), some (.int (nI i)), l5] [] (amSH L) I J R (fun v I' J' R' => I' = I ∧ CmP J R ((cmN n p q).map up) v J' R') := by
  intro n
  induction n with
  | zero => intro i x y p q J R l5 h; omega
  | succ n ih =>
    intro i x y p q J R l5 h hi hR hC hP hQ hpB hqB
    have hx := hC.px (L := L) hR
    have hy := hC.py (L := L) hR
    have hpB4 : PB 4000000000000000000 p := hpB.mono (by decide)
    have hqB4 : PB 4000000000000000000 q := hqB.mono (by decide)
    refine LI4 e26_45 ?_
    refine Ki e26_47 kbipush_27 ?_
    refine CN_ge (a := i) (b := 27) e26_49 t26_49 rfl (by decide) (by omega) (by omega) (fun q => absurd q (by omega)) (fun _ => ?_)
    refine LI3 e26_52 ?_
    refine B_eq e26_53 t26_53 (fun q => absurd q (by decide)) (fun _ => ?_)
    refine LA0 e26_56 ?_
    refine Gr e26_57 (o40 L) hC.2.1 f65 ?_
    refine Cv0 e26_60 c26_5 hy.1 (Nat.le_of_ble_eq_true rfl) (Nat.le_of_ble_eq_true rfl) (p_degree hy hQ hqB4) ?_
    refine B_lt e26_63 t26_63 (fun h63 => ?_) (fun h63 => ?_)
    · refine LA0 e26_104 ?_
      refine Gr e26_105 (o40 L) hC.1 f64 ?_
      refine Cv0p e26_108 c26_13 hx.1 (Nat.le_of_ble_eq_true rfl) (Nat.le_of_ble_eq_true rfl) (p_headUp hx hP hpB4) ?_
      rintro _ I2 J2 R2 ⟨rfl, rfl, rfl, hF, hP2⟩
      refine LI3 e26_111 ?_
      exact Rz e26_112 rt26 (by decide) (by
      rw [cmN, if_pos ((dI_neg (sz_le q)).mp h63)]
      exact ⟨rfl, hF.l hC.mx, hR, RC.rf, x, y, hC, Or.inl ⟨_, rfl, rfl, hP2⟩⟩)
    · have h0 : ¬ sz q = 0 := fun z => h63 ((dI_neg (sz_le q)).mpr z)
      refine LA0 e26_66 ?_
      refine Gr e26_67 (o40 L) hC.1 f64 ?_
      refine LA0 e26_70 ?_
      refine Gr e26_71 (o40 L) hC.2.1 f65 ?_
      refine Cv1p e26_74 c26_18 hx.1 (Nat.le_of_ble_eq_true rfl) (Nat.le_of_ble_eq_true rfl) (p_reduce hx hy hC.ne hP hpB4 hQ hqB (by omega)) ?_
      rintro v I2 J2 R2 ⟨rfl, rfl, hF, hD⟩
      rcases hD with ⟨r, hr, rfl, hJ⟩ | ⟨hr, rfl, r, hrB, hJ⟩
      · refine SI3 e26_77 rfl ?_
        refine LA0 e26_78 ?_
        refine Gr e26_79 (o40 L) hC.1 f64 ?_
        refine SA5 e26_82 rfl ?_
        refine LA0 e26_84 ?_
        refine LA0 e26_85 ?_
        refine Gr e26_86 (o40 L) hC.2.1 f65 ?_
        refine Pr e26_89 (o40 L) f64 ?_
        refine LA0 e26_92 ?_
        refine LA5 e26_93 ?_
        refine Pr e26_95 (o40 L) f65 ?_
        refine IncN4 (m := i) e26_98 rfl ?_
        refine Go e26_101 t26_101 ?_
        rw [cmN, if_neg (by omega), hr]
        exact (ih (i + 1) y x q r J2 (amU (amU R2 40 0 (some y)) 40 1 (some x)) _ (by have := rem_sz hr (by omega); omega) (by omega) ((hR.up (by decide)).up (by decide)) hC.swap (hQ.fr hF (by have := hC.ne; omega)) hJ hqB (rem_PB hr)).mono (fun v I' J' R' h => ⟨h.1, h.2.tr (hF.l hC.mx) (RC.rf.up.up)⟩)
      · refine SI3 e26_77 rfl ?_
        refine LA0 e26_78 ?_
        refine Gr e26_79 (o40 L) hC.1 f64 ?_
        refine SA5 e26_82 rfl ?_
        refine LA0 e26_84 ?_
        refine LA0 e26_85 ?_
        refine Gr e26_86 (o40 L) hC.2.1 f65 ?_
        refine Pr e26_89 (o40 L) f64 ?_
        refine LA0 e26_92 ?_
        refine LA5 e26_93 ?_
        refine Pr e26_95 (o40 L) f65 ?_
        refine IncN4 (m := i) e26_98 rfl ?_
        refine Go e26_101 t26_101 ?_
        rw [cmN, if_neg (by omega), hr]
        exact (c_fail (L := L) ((hR.up (by decide)).up (by decide)) hC.swap (hQ.fr hF (by have := hC.ne; omega)) hqB4).mono (fun v I' J' R' h => ⟨h.1, h.2.tr (hF.l hC.mx) (RC.rf.up.up)⟩)
set_option maxHeartbeats 2000000 in
theorem c_find (hR : amRok R) (hC : CO R x y) (ha : amPO (amSH L) R a) (hb : amPO (amSH L) R b) (ha1 : a ≠ 41 ∧ a ≠ 43) (hb1 : b ≠ 41 ∧ b ≠ 43) (ha2 : a + 1 ≠ 42 ∧ a + 1 ≠ 44) (hp : JP J (a + 1) p) (hq : JP J (b + 1) q) (hpB : PB 4000000000000000000 p) (hqB : PB 4000000000000000000 q) : Cl 26 [.ref 40, .ref a, .ref b] (amSH L) I J R (fun v I' J' R' => I' = I ∧ CmP J R (com p q) v J' R') := by
  have hx := hC.px (L := L) hR
  have hy := hC.py (L := L) hR
  have hxy := hC.ne
  have hx' : x = 41 ∨ x = 43 := hC.2.2.elim (fun e => Or.inl e.1) (fun e => Or.inr e.1)
  have hy' : y = 43 ∨ y = 41 := hC.2.2.elim (fun e => Or.inl e.2) (fun e => Or.inr e.2)
  show Ex 26 0 [some (.ref 40), some (.ref a), some (.ref b), none, none, none] [] (amSH L) I J R _
  refine LA0 e26_0 ?_
  refine Gr e26_1 (o40 L) hC.1 f64 ?_
  refine LA1 e26_4 ?_
  refine Cv1p e26_5 c26_8 hx.1 (Nat.le_of_ble_eq_true rfl) (Nat.le_of_ble_eq_true rfl) (p_copy hx ha (by omega) hp) ?_
  rintro _ I1 J1 R1 ⟨rfl, rfl, rfl, hF1, hP1⟩
  refine LA0 e26_8 ?_
  refine Gr e26_9 (o40 L) hC.2.1 f65 ?_
  refine LA2 e26_12 ?_
  refine Cv1p e26_13 c26_8 hy.1 (Nat.le_of_ble_eq_true rfl) (Nat.le_of_ble_eq_true rfl) (p_copy hy hb (by omega) (hq.fr hF1 (by omega))) ?_
  rintro _ I2 J2 R2 ⟨rfl, rfl, rfl, hF2, hP2⟩
  refine LA0 e26_16 ?_
  refine Gr e26_17 (o40 L) hC.1 f64 ?_
  refine Cv0p e26_20 c26_17 hx.1 (Nat.le_of_ble_eq_true rfl) (Nat.le_of_ble_eq_true rfl) (p_clean hx (hP1.fr hF2 (by omega)) hpB) ?_
  rintro _ I3 J3 R3 ⟨rfl, rfl, rfl, hF3, hP3⟩
  by_cases e1 : fit p = true
  · rw [show bI (fit p) = 1 from by rw [e1]; rfl]
    refine B_eq e26_23 t26_23 (fun q => absurd q (by decide)) (fun _ => ?_)
    refine LA0 e26_26 ?_
    refine Gr e26_27 (o40 L) hC.2.1 f65 ?_
    refine Cv0p e26_30 c26_17 hy.1 (Nat.le_of_ble_eq_true rfl) (Nat.le_of_ble_eq_true rfl) (p_clean hy (hP2.fr hF3 (by omega)) hqB) ?_
    rintro _ I4 J4 R4 ⟨rfl, rfl, rfl, hF4, hP4⟩
    by_cases e2 : fit q = true
    · rw [show bI (fit q) = 1 from by rw [e2]; rfl]
      refine B_eq e26_33 t26_33 (fun q => absurd q (by decide)) (fun _ => ?_)
      refine Ki e26_36 kiconst_1 ?_
      refine Go e26_37 t26_37 ?_
      refine SI3 e26_41 rfl ?_
      refine Ki e26_42 kiconst_0 ?_
      refine SI4 e26_43 rfl ?_
      have hc : com p q = (cmN 10 (cln p) (cln q)).map up := by unfold com; rw [if_pos ⟨e1, e2⟩]
      rw [hc]
      exact (c_loop (L := L) 10 0 x y _ _ J4 R4 none (by have := sz_le (cln q); omega) (by omega) hR hC (hP3.fr hF4 (by omega)) hP4 (fit_PB e1) (fit_PB e2)).mono (fun v I' J' R' h => ⟨h.1, h.2.tr (((hF1.l hC.mx).tr ((hF2.l hC.my).tr (hF3.l hC.mx))).tr (hF4.l hC.my)) RC.rf⟩)
    · rw [show bI (fit q) = 0 from by rw [Bool.not_eq_true] at e2; rw [e2]; rfl]
      refine B_eq e26_33 t26_33 (fun _ => ?_) (fun q => absurd (rfl) q)
      refine Ki e26_40 kiconst_0 ?_
      refine SI3 e26_41 rfl ?_
      refine Ki e26_42 kiconst_0 ?_
      refine SI4 e26_43 rfl ?_
      have hc : com p q = none := by unfold com; rw [if_neg (fun z => e2 z.2)]
      rw [hc]
      exact (c_fail (L := L) (i := 0) hR hC (hP3.fr hF4 (by omega)) (cln_PB hpB)).mono (fun v I' J' R' h => ⟨h.1, h.2.tr (((hF1.l hC.mx).tr ((hF2.l hC.my).tr (hF3.l hC.mx))).tr (hF4.l hC.my)) RC.rf⟩)
  · rw [show bI (fit p) = 0 from by rw [Bool.not_eq_true] at e1; rw [e1]; rfl]
    refine B_eq e26_23 t26_23 (fun _ => ?_) (fun q => absurd (rfl) q)
    refine Ki e26_40 kiconst_0 ?_
    refine SI3 e26_41 rfl ?_
    refine Ki e26_42 kiconst_0 ?_
    refine SI4 e26_43 rfl ?_
    have hc : com p q = none := by unfold com; rw [if_neg (fun z => e1 z.1)]
    rw [hc]
    exact (c_fail (L := L) (i := 0) hR hC hP3 (cln_PB hpB)).mono (fun v I' J' R' h => ⟨h.1, h.2.tr ((hF1.l hC.mx).tr ((hF2.l hC.my).tr (hF3.l hC.mx))) RC.rf⟩)
end COMMON
