/-! the reference: words, figures (printed by wip/whole/t9e.py) -/
theorem bI_0f {x : Bool} (h : bI x = 0) : x = false := by
  cases x
  · rfl
  · exact absurd h (by decide)
theorem bI_0t {x : Bool} (h : ¬ bI x = 0) : x = true := by
  cases x
  · exact absurd rfl h
  · rfl
/-- one letter of a word from b to e -/
def lt7 (T : Nat → Int32) (b e i : Nat) (c : Int32) : Bool := if b + i < e then decide (T (b + i) = c) else decide (c = 0)
def wd7 (T : Nat → Int32) (b e : Nat) (c0 c1 c2 c3 c4 c5 c6 : Int32) : Bool := lt7 T b e 0 c0 && (lt7 T b e 1 c1 && (lt7 T b e 2 c2 && (lt7 T b e 3 c3 && (lt7 T b e 4 c4 && (lt7 T b e 5 c5 && (lt7 T b e 6 c6 && decide (e - b ≤ 7)))))))
theorem weN_iff {T : Nat → Int32} {b : Nat} {u : List Int32} : ∀ m, weN T b u m = true ↔ ∀ k, k < m → u.getD k 0 = T (b + k)
  | 0 => ⟨fun _ k h => absurd h (Nat.not_lt_zero k), fun _ => rfl⟩
  | m + 1 => by
    rw [weN, Bool.and_eq_true, decide_eq_true_eq, weN_iff m]
    constructor
    · rintro ⟨h1, h2⟩ k hk
      by_cases e : k = m
      · rw [e]; exact h2
      · exact h1 k (by omega)
    · intro h
      exact ⟨fun k hk => h k (by omega), h m (by omega)⟩
theorem lt7_1 {T : Nat → Int32} {b e i : Nat} {c : Int32} (h : lt7 T b e i c = true) (hi : b + i < e) : T (b + i) = c := by
  unfold lt7 at h
  rw [if_pos hi] at h
  exact of_decide_eq_true h
theorem lt7_0 {T : Nat → Int32} {b e i : Nat} {c : Int32} (h : lt7 T b e i c = true) (hi : ¬ b + i < e) : c = 0 := by
  unfold lt7 at h
  rw [if_neg hi] at h
  exact of_decide_eq_true h
theorem lt7_i {T : Nat → Int32} {b e i : Nat} {c : Int32} (h1 : b + i < e → T (b + i) = c) (h0 : ¬ b + i < e → c = 0) : lt7 T b e i c = true := by
  unfold lt7
  by_cases hi : b + i < e
  · rw [if_pos hi]; exact decide_eq_true (h1 hi)
  · rw [if_neg hi]; exact decide_eq_true (h0 hi)
theorem w7 {T : Nat → Int32} {b e : Nat} {u : List Int32} (hu : u.length ≤ 7) (hnz : ∀ k, k < u.length → ¬ u.getD k 0 = 0) (hT : ∀ k, b ≤ k → k < e → ¬ T k = 0) (hbe : b ≤ e) : wd7 T b e (u.getD 0 0) (u.getD 1 0) (u.getD 2 0) (u.getD 3 0) (u.getD 4 0) (u.getD 5 0) (u.getD 6 0) = (decide (u.length = e - b) && weN T b u u.length) := by
  rw [Bool.eq_iff_iff, Bool.and_eq_true, decide_eq_true_eq, weN_iff]
  unfold wd7
  simp only [Bool.and_eq_true, decide_eq_true_eq]
  constructor
  · rintro ⟨g0, g1, g2, g3, g4, g5, g6, h7⟩
    have hk : ∀ k, k < 7 → lt7 T b e k (u.getD k 0) = true := fun k hk => by
      rcases (by omega : k = 0 ∨ k = 1 ∨ k = 2 ∨ k = 3 ∨ k = 4 ∨ k = 5 ∨ k = 6) with rfl | rfl | rfl | rfl | rfl | rfl | rfl <;> assumption
    have hl : u.length = e - b := by
      rcases Nat.lt_trichotomy u.length (e - b) with l | l | l
      · exfalso
        have h1 := lt7_1 (hk u.length (by omega)) (by omega)
        rw [List.getD_eq_getElem?_getD, List.getElem?_eq_none (Nat.le_refl _)] at h1
        exact hT (b + u.length) (by omega) (by omega) h1
      · exact l
      · exact absurd (lt7_0 (hk (e - b) (by omega)) (by omega)) (hnz _ l)
    exact ⟨hl, fun k hk2 => (lt7_1 (hk k (by omega)) (by omega)).symm⟩
  · rintro ⟨hl, hw⟩
    have hk : ∀ k, lt7 T b e k (u.getD k 0) = true := fun k => lt7_i (fun hi => (hw k (by omega)).symm) (fun hi => by
      rw [List.getD_eq_getElem?_getD, List.getElem?_eq_none (by omega)]
      rfl)
    exact ⟨hk 0, hk 1, hk 2, hk 3, hk 4, hk 5, hk 6, by omega⟩
theorem ax0 : amTx 0 = [115, 117, 109] := by decide +kernel
theorem w7_0 {T : Nat → Int32} {b e : Nat} (hT : ∀ k, b ≤ k → k < e → ¬ T k = 0) (hbe : b ≤ e) : wd7 T b e 115 117 109 0 0 0 0 = weq T b e 0 := by
  have h := w7 (T := T) (b := b) (e := e) (u := [115, 117, 109]) (by decide) (by decide) hT hbe
  unfold weq
  rw [ax0]
  exact h
theorem ax1 : amTx 1 = [112, 114, 111, 100, 117, 99, 116] := by decide +kernel
theorem w7_1 {T : Nat → Int32} {b e : Nat} (hT : ∀ k, b ≤ k → k < e → ¬ T k = 0) (hbe : b ≤ e) : wd7 T b e 112 114 111 100 117 99 116 = weq T b e 1 := by
  have h := w7 (T := T) (b := b) (e := e) (u := [112, 114, 111, 100, 117, 99, 116]) (by decide) (by decide) hT hbe
  unfold weq
  rw [ax1]
  exact h
theorem ax2 : amTx 2 = [108, 101, 115, 115] := by decide +kernel
theorem w7_2 {T : Nat → Int32} {b e : Nat} (hT : ∀ k, b ≤ k → k < e → ¬ T k = 0) (hbe : b ≤ e) : wd7 T b e 108 101 115 115 0 0 0 = weq T b e 2 := by
  have h := w7 (T := T) (b := b) (e := e) (u := [108, 101, 115, 115]) (by decide) (by decide) hT hbe
  unfold weq
  rw [ax2]
  exact h
theorem ax3 : amTx 3 = [99, 111, 109, 109, 111, 110] := by decide +kernel
theorem w7_3 {T : Nat → Int32} {b e : Nat} (hT : ∀ k, b ≤ k → k < e → ¬ T k = 0) (hbe : b ≤ e) : wd7 T b e 99 111 109 109 111 110 0 = weq T b e 3 := by
  have h := w7 (T := T) (b := b) (e := e) (u := [99, 111, 109, 109, 111, 110]) (by decide) (by decide) hT hbe
  unfold weq
  rw [ax3]
  exact h
theorem ax4 : amTx 4 = [100, 101, 114, 105, 118, 101] := by decide +kernel
theorem w7_4 {T : Nat → Int32} {b e : Nat} (hT : ∀ k, b ≤ k → k < e → ¬ T k = 0) (hbe : b ≤ e) : wd7 T b e 100 101 114 105 118 101 0 = weq T b e 4 := by
  have h := w7 (T := T) (b := b) (e := e) (u := [100, 101, 114, 105, 118, 101]) (by decide) (by decide) hT hbe
  unfold weq
  rw [ax4]
  exact h
theorem ax5 : amTx 5 = [116, 117, 114, 110] := by decide +kernel
theorem w7_5 {T : Nat → Int32} {b e : Nat} (hT : ∀ k, b ≤ k → k < e → ¬ T k = 0) (hbe : b ≤ e) : wd7 T b e 116 117 114 110 0 0 0 = weq T b e 5 := by
  have h := w7 (T := T) (b := b) (e := e) (u := [116, 117, 114, 110]) (by decide) (by decide) hT hbe
  unfold weq
  rw [ax5]
  exact h
theorem ax6 : amTx 6 = [115, 104, 105, 102, 116] := by decide +kernel
theorem w7_6 {T : Nat → Int32} {b e : Nat} (hT : ∀ k, b ≤ k → k < e → ¬ T k = 0) (hbe : b ≤ e) : wd7 T b e 115 104 105 102 116 0 0 = weq T b e 6 := by
  have h := w7 (T := T) (b := b) (e := e) (u := [115, 104, 105, 102, 116]) (by decide) (by decide) hT hbe
  unfold weq
  rw [ax6]
  exact h
theorem ax7 : amTx 7 = [115, 116, 114, 101, 116, 99, 104] := by decide +kernel
theorem w7_7 {T : Nat → Int32} {b e : Nat} (hT : ∀ k, b ≤ k → k < e → ¬ T k = 0) (hbe : b ≤ e) : wd7 T b e 115 116 114 101 116 99 104 = weq T b e 7 := by
  have h := w7 (T := T) (b := b) (e := e) (u := [115, 116, 114, 101, 116, 99, 104]) (by decide) (by decide) hT hbe
  unfold weq
  rw [ax7]
  exact h
theorem ax8 : amTx 8 = [114, 101, 118, 101, 114, 115, 101] := by decide +kernel
theorem w7_8 {T : Nat → Int32} {b e : Nat} (hT : ∀ k, b ≤ k → k < e → ¬ T k = 0) (hbe : b ≤ e) : wd7 T b e 114 101 118 101 114 115 101 = weq T b e 8 := by
  have h := w7 (T := T) (b := b) (e := e) (u := [114, 101, 118, 101, 114, 115, 101]) (by decide) (by decide) hT hbe
  unfold weq
  rw [ax8]
  exact h
theorem ax9 : amTx 9 = [102, 114, 101, 101] := by decide +kernel
theorem w7_9 {T : Nat → Int32} {b e : Nat} (hT : ∀ k, b ≤ k → k < e → ¬ T k = 0) (hbe : b ≤ e) : wd7 T b e 102 114 101 101 0 0 0 = weq T b e 9 := by
  have h := w7 (T := T) (b := b) (e := e) (u := [102, 114, 101, 101]) (by decide) (by decide) hT hbe
  unfold weq
  rw [ax9]
  exact h
theorem ax10 : amTx 10 = [114, 101, 115, 116] := by decide +kernel
theorem w7_10 {T : Nat → Int32} {b e : Nat} (hT : ∀ k, b ≤ k → k < e → ¬ T k = 0) (hbe : b ≤ e) : wd7 T b e 114 101 115 116 0 0 0 = weq T b e 10 := by
  have h := w7 (T := T) (b := b) (e := e) (u := [114, 101, 115, 116]) (by decide) (by decide) hT hbe
  unfold weq
  rw [ax10]
  exact h
theorem ax11 : amTx 11 = [112, 97, 114, 116] := by decide +kernel
theorem w7_11 {T : Nat → Int32} {b e : Nat} (hT : ∀ k, b ≤ k → k < e → ¬ T k = 0) (hbe : b ≤ e) : wd7 T b e 112 97 114 116 0 0 0 = weq T b e 11 := by
  have h := w7 (T := T) (b := b) (e := e) (u := [112, 97, 114, 116]) (by decide) (by decide) hT hbe
  unfold weq
  rw [ax11]
  exact h
theorem wdN_no {T : Nat → Int32} {b e f i : Nat} (h : weq T b e i = false) : wdN T b e (f + 1) i = wdN T b e f (i + 1) := by
  rw [wdN, h, if_neg (by decide)]
theorem wdN_yes {T : Nat → Int32} {b e f i : Nat} (h : weq T b e i = true) : wdN T b e (f + 1) i = some i := by
  rw [wdN, h, if_pos rfl]
section CV8
variable {j pc pc' op : Nat} {ls ls' : amL} {st st' : List Value} {S : amS} {Ia : amI} {Ja : amJ} {Ra : amR} {Q : amQ} {i : Instr}
theorem Cv8 {a : Nat} {v0 v1 v2 v3 v4 v5 v6 v7 : Value} {n : Nat} (he : amT j pc pc' (.invokevirtual n) op) (hk : (0 < op ∧ op < 900) ∧ amSt? op = false ∧ amNa op = 9 ∧ amRk op < amRk j) (ho : amO S a (amCi op)) (hcat : amCat st ≤ 8) (hfl : (amFlat [.ref a, v0, v1, v2, v3, v4, v5, v6, v7]).length ≤ amMx op) {v : Value} (hc : Rv op [.ref a, v0, v1, v2, v3, v4, v5, v6, v7] S Ia Ja Ra v) (kk : Ex j pc' ls (v :: st) S Ia Ja Ra Q) : Ex j pc ls (v7 :: v6 :: v5 :: v4 :: v3 :: v2 :: v1 :: v0 :: .ref a :: st) S Ia Ja Ra Q := by
  have hcl : amCall (.invokevirtual n) j op (v7 :: v6 :: v5 :: v4 :: v3 :: v2 :: v1 :: v0 :: .ref a :: st) S.2.2 = some ([.ref a, v0, v1, v2, v3, v4, v5, v6, v7], st) := by
    unfold amCall
    dsimp only
    rw [hk.2.2.1]
    refine (if_pos ⟨hk.1.1, hk.1.2, hk.2.1, by simp, hk.2.2.2, hcat, hfl⟩).trans ?_
    exact if_pos ⟨ho.1, ho.2.2⟩
  exact Ex.call he rfl hcl (hc _ ⟨rfl, rfl, rfl, rfl⟩ : Cl op [.ref a, v0, v1, v2, v3, v4, v5, v6, v7] S Ia Ja Ra (fun v' Ia' Ja' Ra' => v' = some v ∧ Ia' = Ia ∧ Ja' = Ja ∧ Ra' = Ra)) (by rintro _ _ _ _ ⟨rfl, rfl, rfl, rfl⟩; exact kk)
end CV8
/-- a figure behind a blank, perhaps a sign ahead: the fault's place, or the place behind it, its size, whether less than 0 -/
def figR (T : Nat → Int32) (g : Bool) (b : Nat) : Nat ⊕ (Nat × Nat × Bool) :=
  if T b = 32 then
    (if g = true ∧ T (b + 1) = 45 then (if isFg (T (b + 1 + 1)) then .inr (b + 1 + 1 + 1, dg (T (b + 1 + 1)), true) else .inl (b + 1 + 1))
    else if isFg (T (b + 1)) then .inr (b + 1 + 1, dg (T (b + 1)), false) else .inl (b + 1))
  else .inl b
def figV (d : Nat) (m : Bool) : Int32 := if m = true then -nI d else nI d
/-- what figure() answers and leaves -/
def FiP (Ia : amI) (Ja : amJ) (Ra : amR) (o : Nat ⊕ (Nat × Nat × Bool)) (v : Option Value) (Ia' : amI) (Ja' : amJ) (Ra' : amR) : Prop := Ra' = Ra ∧ Ja' = Ja ∧ FrW Ia Ia' ∧ ((∃ e, o = .inl e ∧ v = some (.int 0) ∧ Ia' 152 38 = 1 ∧ Ia' 152 39 = nI e) ∨ ∃ k d m, o = .inr (k, d, m) ∧ v = some (.int (figV d m)) ∧ Ia' 152 38 = 0 ∧ Ia' 152 37 = nI k)
section REF38
variable {L : Nat} {Ia : amI} {Ja : amJ} {Ra : amR} {Q : amQ} {T : Nat → Int32} {n k b e i s ab : Nat} {p q : Po}
set_option maxHeartbeats 2000000 in
theorem m_isLetter {c : Int32} (hR : amRok Ra) (hT : MT Ia T n) (ha : Ia 152 37 = nI e) (he : e ≤ n) (hb : b ≤ e) (hi : i < 7) : Rv 226 [.ref 152, .int (nI b), .int (nI i), .int c] (amSH L) Ia Ja Ra (.int (bI (lt7 T b e i c))) := by
  intro Q hQ
  have hn := hT.2.1
  show Ex 226 0 [some (.ref 152), some (.int (nI b)), some (.int (nI i)), some (.int c)] [] (amSH L) Ia Ja Ra _
  by_cases g : b + i < e
  · have e1 : lt7 T b e i c = decide (T (b + i) = c) := by
      unfold lt7
      rw [if_pos g]
    rw [e1] at hQ
    refine LI1 e226_0 ?_
    refine LI2 e226_1 ?_
    refine IaddN (a := b) (b := i) e226_2 rfl rfl ?_
    refine LA0 e226_3 ?_
    refine Gi e226_4 (o152 L) (amGi_of f805 (by decide)) ?_
    rw [ha]
    refine CN_ge (a := (b + i)) (b := e) e226_7 t226_7 rfl rfl (by omega) (by omega) (fun q => absurd q (by omega)) (fun _ => ?_)
    refine LA0 e226_10 ?_
    refine Gr e226_11 (o152 L) (hR 152 35 199 rfl) f803 ?_
    refine LI1 e226_14 ?_
    refine LI2 e226_15 ?_
    refine IaddN (a := b) (b := i) e226_16 rfl rfl ?_
    refine AiN (k := (b + i)) e226_17 (o199 L) rfl (by omega) (by decide) ?_
    rw [hT.1.2 (b + i) (by omega)]
    refine LI3 e226_18 ?_
    refine C_ne e226_19 t226_19 (fun h19 => ?_) (fun h19 => ?_)
    · refine Ki e226_26 kiconst_0 ?_
      refine Go e226_27 t226_27 ?_
      exact Rz e226_39 rt226 (by decide) (by
      rw [decide_eq_false h19] at hQ
      exact hQ)
    · refine Ki e226_22 kiconst_1 ?_
      refine Go e226_23 t226_23 ?_
      exact Rz e226_39 rt226 (by decide) (by
      rw [decide_eq_true (Decidable.not_not.mp h19)] at hQ
      exact hQ)
  · have e1 : lt7 T b e i c = decide (c = 0) := by
      unfold lt7
      rw [if_neg g]
    rw [e1] at hQ
    refine LI1 e226_0 ?_
    refine LI2 e226_1 ?_
    refine IaddN (a := b) (b := i) e226_2 rfl rfl ?_
    refine LA0 e226_3 ?_
    refine Gi e226_4 (o152 L) (amGi_of f805 (by decide)) ?_
    rw [ha]
    refine CN_ge (a := (b + i)) (b := e) e226_7 t226_7 rfl rfl (by omega) (by omega) (fun _ => ?_) (fun q => by omega)
    refine LI3 e226_30 ?_
    refine B_ne e226_31 t226_31 (fun h31 => ?_) (fun h31 => ?_)
    · refine Ki e226_38 kiconst_0 ?_
      exact Rz e226_39 rt226 (by decide) (by
      rw [decide_eq_false h31] at hQ
      exact hQ)
    · refine Ki e226_34 kiconst_1 ?_
      refine Go e226_35 t226_35 ?_
      exact Rz e226_39 rt226 (by decide) (by
      rw [decide_eq_true (Decidable.not_not.mp h31)] at hQ
      exact hQ)
set_option maxHeartbeats 2000000 in
theorem m_isWord {c0 c1 c2 c3 c4 c5 c6 : Int32} (hR : amRok Ra) (hT : MT Ia T n) (ha : Ia 152 37 = nI e) (he : e ≤ n) (hb : b ≤ e) : Rv 225 [.ref 152, .int (nI b), .int c0, .int c1, .int c2, .int c3, .int c4, .int c5, .int c6] (amSH L) Ia Ja Ra (.int (bI (wd7 T b e c0 c1 c2 c3 c4 c5 c6))) := by
  intro Q hQ
  have hn := hT.2.1
  show Ex 225 0 [some (.ref 152), some (.int (nI b)), some (.int c0), some (.int c1), some (.int c2), some (.int c3), some (.int c4), some (.int c5), some (.int c6)] [] (amSH L) Ia Ja Ra _
  refine LA0 e225_0 ?_
  refine LI1 e225_1 ?_
  refine Ki e225_2 kiconst_0 ?_
  refine LI2 e225_3 ?_
  refine Cv3 e225_4 c225_226 (o152 L) (Nat.le_of_ble_eq_true rfl) (Nat.le_of_ble_eq_true rfl) ((m_isLetter (i := 0) hR hT ha he hb (by decide))) ?_
  refine B_eq e225_7 t225_7 (fun h7 => ?_) (fun h7 => ?_)
  · refine Ki e225_91 kiconst_0 ?_
    exact Rz e225_92 rt225 (by decide) (by
    have ef : wd7 T b e c0 c1 c2 c3 c4 c5 c6 = false := by
      unfold wd7
      first
        | (rw [bI_0f (by assumption : bI (lt7 T b e 0 c0) = 0)]; simp)
        | (rw [bI_0f (by assumption : bI (lt7 T b e 1 c1) = 0)]; simp)
        | (rw [bI_0f (by assumption : bI (lt7 T b e 2 c2) = 0)]; simp)
        | (rw [bI_0f (by assumption : bI (lt7 T b e 3 c3) = 0)]; simp)
        | (rw [bI_0f (by assumption : bI (lt7 T b e 4 c4) = 0)]; simp)
        | (rw [bI_0f (by assumption : bI (lt7 T b e 5 c5) = 0)]; simp)
        | (rw [bI_0f (by assumption : bI (lt7 T b e 6 c6) = 0)]; simp)
        | (rw [decide_eq_false (by omega)]; simp)
    rw [ef] at hQ
    exact hQ)
  · refine LA0 e225_10 ?_
    refine LI1 e225_11 ?_
    refine Ki e225_12 kiconst_1 ?_
    refine LI3 e225_13 ?_
    refine Cv3 e225_14 c225_226 (o152 L) (Nat.le_of_ble_eq_true rfl) (Nat.le_of_ble_eq_true rfl) ((m_isLetter (i := 1) hR hT ha he hb (by decide))) ?_
    refine B_eq e225_17 t225_17 (fun h17 => ?_) (fun h17 => ?_)
    · refine Ki e225_91 kiconst_0 ?_
      exact Rz e225_92 rt225 (by decide) (by
      have ef : wd7 T b e c0 c1 c2 c3 c4 c5 c6 = false := by
        unfold wd7
        first
          | (rw [bI_0f (by assumption : bI (lt7 T b e 0 c0) = 0)]; simp)
          | (rw [bI_0f (by assumption : bI (lt7 T b e 1 c1) = 0)]; simp)
          | (rw [bI_0f (by assumption : bI (lt7 T b e 2 c2) = 0)]; simp)
          | (rw [bI_0f (by assumption : bI (lt7 T b e 3 c3) = 0)]; simp)
          | (rw [bI_0f (by assumption : bI (lt7 T b e 4 c4) = 0)]; simp)
          | (rw [bI_0f (by assumption : bI (lt7 T b e 5 c5) = 0)]; simp)
          | (rw [bI_0f (by assumption : bI (lt7 T b e 6 c6) = 0)]; simp)
          | (rw [decide_eq_false (by omega)]; simp)
      rw [ef] at hQ
      exact hQ)
    · refine LA0 e225_20 ?_
      refine LI1 e225_21 ?_
      refine Ki e225_22 kiconst_2 ?_
      refine LI4 e225_23 ?_
      refine Cv3 e225_25 c225_226 (o152 L) (Nat.le_of_ble_eq_true rfl) (Nat.le_of_ble_eq_true rfl) ((m_isLetter (i := 2) hR hT ha he hb (by decide))) ?_
      refine B_eq e225_28 t225_28 (fun h28 => ?_) (fun h28 => ?_)
      · refine Ki e225_91 kiconst_0 ?_
        exact Rz e225_92 rt225 (by decide) (by
        have ef : wd7 T b e c0 c1 c2 c3 c4 c5 c6 = false := by
          unfold wd7
          first
            | (rw [bI_0f (by assumption : bI (lt7 T b e 0 c0) = 0)]; simp)
            | (rw [bI_0f (by assumption : bI (lt7 T b e 1 c1) = 0)]; simp)
            | (rw [bI_0f (by assumption : bI (lt7 T b e 2 c2) = 0)]; simp)
            | (rw [bI_0f (by assumption : bI (lt7 T b e 3 c3) = 0)]; simp)
            | (rw [bI_0f (by assumption : bI (lt7 T b e 4 c4) = 0)]; simp)
            | (rw [bI_0f (by assumption : bI (lt7 T b e 5 c5) = 0)]; simp)
            | (rw [bI_0f (by assumption : bI (lt7 T b e 6 c6) = 0)]; simp)
            | (rw [decide_eq_false (by omega)]; simp)
        rw [ef] at hQ
        exact hQ)
      · refine LA0 e225_31 ?_
        refine LI1 e225_32 ?_
        refine Ki e225_33 kiconst_3 ?_
        refine LI5 e225_34 ?_
        refine Cv3 e225_36 c225_226 (o152 L) (Nat.le_of_ble_eq_true rfl) (Nat.le_of_ble_eq_true rfl) ((m_isLetter (i := 3) hR hT ha he hb (by decide))) ?_
        refine B_eq e225_39 t225_39 (fun h39 => ?_) (fun h39 => ?_)
        · refine Ki e225_91 kiconst_0 ?_
          exact Rz e225_92 rt225 (by decide) (by
          have ef : wd7 T b e c0 c1 c2 c3 c4 c5 c6 = false := by
            unfold wd7
            first
              | (rw [bI_0f (by assumption : bI (lt7 T b e 0 c0) = 0)]; simp)
              | (rw [bI_0f (by assumption : bI (lt7 T b e 1 c1) = 0)]; simp)
              | (rw [bI_0f (by assumption : bI (lt7 T b e 2 c2) = 0)]; simp)
              | (rw [bI_0f (by assumption : bI (lt7 T b e 3 c3) = 0)]; simp)
              | (rw [bI_0f (by assumption : bI (lt7 T b e 4 c4) = 0)]; simp)
              | (rw [bI_0f (by assumption : bI (lt7 T b e 5 c5) = 0)]; simp)
              | (rw [bI_0f (by assumption : bI (lt7 T b e 6 c6) = 0)]; simp)
              | (rw [decide_eq_false (by omega)]; simp)
          rw [ef] at hQ
          exact hQ)
        · refine LA0 e225_42 ?_
          refine LI1 e225_43 ?_
          refine Ki e225_44 kiconst_4 ?_
          refine LI6 e225_45 ?_
          refine Cv3 e225_47 c225_226 (o152 L) (Nat.le_of_ble_eq_true rfl) (Nat.le_of_ble_eq_true rfl) ((m_isLetter (i := 4) hR hT ha he hb (by decide))) ?_
          refine B_eq e225_50 t225_50 (fun h50 => ?_) (fun h50 => ?_)
          · refine Ki e225_91 kiconst_0 ?_
            exact Rz e225_92 rt225 (by decide) (by
            have ef : wd7 T b e c0 c1 c2 c3 c4 c5 c6 = false := by
              unfold wd7
              first
                | (rw [bI_0f (by assumption : bI (lt7 T b e 0 c0) = 0)]; simp)
                | (rw [bI_0f (by assumption : bI (lt7 T b e 1 c1) = 0)]; simp)
                | (rw [bI_0f (by assumption : bI (lt7 T b e 2 c2) = 0)]; simp)
                | (rw [bI_0f (by assumption : bI (lt7 T b e 3 c3) = 0)]; simp)
                | (rw [bI_0f (by assumption : bI (lt7 T b e 4 c4) = 0)]; simp)
                | (rw [bI_0f (by assumption : bI (lt7 T b e 5 c5) = 0)]; simp)
                | (rw [bI_0f (by assumption : bI (lt7 T b e 6 c6) = 0)]; simp)
                | (rw [decide_eq_false (by omega)]; simp)
            rw [ef] at hQ
            exact hQ)
          · refine LA0 e225_53 ?_
            refine LI1 e225_54 ?_
            refine Ki e225_55 kiconst_5 ?_
            refine LI7 e225_56 ?_
            refine Cv3 e225_58 c225_226 (o152 L) (Nat.le_of_ble_eq_true rfl) (Nat.le_of_ble_eq_true rfl) ((m_isLetter (i := 5) hR hT ha he hb (by decide))) ?_
            refine B_eq e225_61 t225_61 (fun h61 => ?_) (fun h61 => ?_)
            · refine Ki e225_91 kiconst_0 ?_
              exact Rz e225_92 rt225 (by decide) (by
              have ef : wd7 T b e c0 c1 c2 c3 c4 c5 c6 = false := by
                unfold wd7
                first
                  | (rw [bI_0f (by assumption : bI (lt7 T b e 0 c0) = 0)]; simp)
                  | (rw [bI_0f (by assumption : bI (lt7 T b e 1 c1) = 0)]; simp)
                  | (rw [bI_0f (by assumption : bI (lt7 T b e 2 c2) = 0)]; simp)
                  | (rw [bI_0f (by assumption : bI (lt7 T b e 3 c3) = 0)]; simp)
                  | (rw [bI_0f (by assumption : bI (lt7 T b e 4 c4) = 0)]; simp)
                  | (rw [bI_0f (by assumption : bI (lt7 T b e 5 c5) = 0)]; simp)
                  | (rw [bI_0f (by assumption : bI (lt7 T b e 6 c6) = 0)]; simp)
                  | (rw [decide_eq_false (by omega)]; simp)
              rw [ef] at hQ
              exact hQ)
            · refine LA0 e225_64 ?_
              refine LI1 e225_65 ?_
              refine Ki e225_66 kbipush_6 ?_
              refine LI8 e225_68 ?_
              refine Cv3 e225_70 c225_226 (o152 L) (Nat.le_of_ble_eq_true rfl) (Nat.le_of_ble_eq_true rfl) ((m_isLetter (i := 6) hR hT ha he hb (by decide))) ?_
              refine B_eq e225_73 t225_73 (fun h73 => ?_) (fun h73 => ?_)
              · refine Ki e225_91 kiconst_0 ?_
                exact Rz e225_92 rt225 (by decide) (by
                have ef : wd7 T b e c0 c1 c2 c3 c4 c5 c6 = false := by
                  unfold wd7
                  first
                    | (rw [bI_0f (by assumption : bI (lt7 T b e 0 c0) = 0)]; simp)
                    | (rw [bI_0f (by assumption : bI (lt7 T b e 1 c1) = 0)]; simp)
                    | (rw [bI_0f (by assumption : bI (lt7 T b e 2 c2) = 0)]; simp)
                    | (rw [bI_0f (by assumption : bI (lt7 T b e 3 c3) = 0)]; simp)
                    | (rw [bI_0f (by assumption : bI (lt7 T b e 4 c4) = 0)]; simp)
                    | (rw [bI_0f (by assumption : bI (lt7 T b e 5 c5) = 0)]; simp)
                    | (rw [bI_0f (by assumption : bI (lt7 T b e 6 c6) = 0)]; simp)
                    | (rw [decide_eq_false (by omega)]; simp)
                rw [ef] at hQ
                exact hQ)
              · refine LA0 e225_76 ?_
                refine Gi e225_77 (o152 L) (amGi_of f805 (by decide)) ?_
                rw [ha]
                refine LI1 e225_80 ?_
                refine IsubN (a := e) (b := b) e225_81 rfl rfl (by omega) ?_
                refine Ki e225_82 kbipush_7 ?_
                refine CN_gt (a := (e - b)) (b := 7) e225_84 t225_84 rfl (by decide) (by omega) (by omega) (fun h84 => ?_) (fun h84 => ?_)
                · refine Ki e225_91 kiconst_0 ?_
                  exact Rz e225_92 rt225 (by decide) (by
                  have ef : wd7 T b e c0 c1 c2 c3 c4 c5 c6 = false := by
                    unfold wd7
                    first
                      | (rw [bI_0f (by assumption : bI (lt7 T b e 0 c0) = 0)]; simp)
                      | (rw [bI_0f (by assumption : bI (lt7 T b e 1 c1) = 0)]; simp)
                      | (rw [bI_0f (by assumption : bI (lt7 T b e 2 c2) = 0)]; simp)
                      | (rw [bI_0f (by assumption : bI (lt7 T b e 3 c3) = 0)]; simp)
                      | (rw [bI_0f (by assumption : bI (lt7 T b e 4 c4) = 0)]; simp)
                      | (rw [bI_0f (by assumption : bI (lt7 T b e 5 c5) = 0)]; simp)
                      | (rw [bI_0f (by assumption : bI (lt7 T b e 6 c6) = 0)]; simp)
                      | (rw [decide_eq_false (by omega)]; simp)
                  rw [ef] at hQ
                  exact hQ)
                · refine Ki e225_87 kiconst_1 ?_
                  refine Go e225_88 t225_88 ?_
                  exact Rz e225_92 rt225 (by decide) (by
                  rw [show wd7 T b e c0 c1 c2 c3 c4 c5 c6 = true from by
                    unfold wd7
                    rw [bI_0t h7, bI_0t h17, bI_0t h28, bI_0t h39, bI_0t h50, bI_0t h61, bI_0t h73, decide_eq_true (by omega)]
                    rfl] at hQ
                  exact hQ)
set_option maxHeartbeats 2000000 in
theorem m_wordFrom (hR : amRok Ra) (hT : MT Ia T n) (ha : Ia 152 37 = nI e) (he : e ≤ n) (hb : b ≤ e) (hz : ∀ k, b ≤ k → k < e → ¬ T k = 0) : Rv 227 [.ref 152, .int (nI b)] (amSH L) Ia Ja Ra (.int (wdI (wrdS T b e))) := by
  intro Q hQ
  show Ex 227 0 [some (.ref 152), some (.int (nI b))] [] (amSH L) Ia Ja Ra _
  refine LA0 e227_0 ?_
  refine LI1 e227_1 ?_
  refine Ki e227_2 kbipush_115 ?_
  refine Ki e227_4 kbipush_117 ?_
  refine Ki e227_6 kbipush_109 ?_
  refine Ki e227_8 kiconst_0 ?_
  refine Ki e227_9 kiconst_0 ?_
  refine Ki e227_10 kiconst_0 ?_
  refine Ki e227_11 kiconst_0 ?_
  refine Cv8 e227_12 c227_225 (o152 L) (Nat.le_of_ble_eq_true rfl) (Nat.le_of_ble_eq_true rfl) ((m_isWord hR hT ha he hb)) ?_
  rw [w7_0 hz hb]
  refine B_eq e227_15 t227_15 (fun h15 => ?_) (fun h15 => ?_)
  · refine LA0 e227_20 ?_
    refine LI1 e227_21 ?_
    refine Ki e227_22 kbipush_112 ?_
    refine Ki e227_24 kbipush_114 ?_
    refine Ki e227_26 kbipush_111 ?_
    refine Ki e227_28 kbipush_100 ?_
    refine Ki e227_30 kbipush_117 ?_
    refine Ki e227_32 kbipush_99 ?_
    refine Ki e227_34 kbipush_116 ?_
    refine Cv8 e227_36 c227_225 (o152 L) (Nat.le_of_ble_eq_true rfl) (Nat.le_of_ble_eq_true rfl) ((m_isWord hR hT ha he hb)) ?_
    rw [w7_1 hz hb]
    refine B_eq e227_39 t227_39 (fun h39 => ?_) (fun h39 => ?_)
    · refine LA0 e227_44 ?_
      refine LI1 e227_45 ?_
      refine Ki e227_46 kbipush_108 ?_
      refine Ki e227_48 kbipush_101 ?_
      refine Ki e227_50 kbipush_115 ?_
      refine Ki e227_52 kbipush_115 ?_
      refine Ki e227_54 kiconst_0 ?_
      refine Ki e227_55 kiconst_0 ?_
      refine Ki e227_56 kiconst_0 ?_
      refine Cv8 e227_57 c227_225 (o152 L) (Nat.le_of_ble_eq_true rfl) (Nat.le_of_ble_eq_true rfl) ((m_isWord hR hT ha he hb)) ?_
      rw [w7_2 hz hb]
      refine B_eq e227_60 t227_60 (fun h60 => ?_) (fun h60 => ?_)
      · refine LA0 e227_65 ?_
        refine LI1 e227_66 ?_
        refine Ki e227_67 kbipush_99 ?_
        refine Ki e227_69 kbipush_111 ?_
        refine Ki e227_71 kbipush_109 ?_
        refine Ki e227_73 kbipush_109 ?_
        refine Ki e227_75 kbipush_111 ?_
        refine Ki e227_77 kbipush_110 ?_
        refine Ki e227_79 kiconst_0 ?_
        refine Cv8 e227_80 c227_225 (o152 L) (Nat.le_of_ble_eq_true rfl) (Nat.le_of_ble_eq_true rfl) ((m_isWord hR hT ha he hb)) ?_
        rw [w7_3 hz hb]
        refine B_eq e227_83 t227_83 (fun h83 => ?_) (fun h83 => ?_)
        · refine LA0 e227_88 ?_
          refine LI1 e227_89 ?_
          refine Ki e227_90 kbipush_100 ?_
          refine Ki e227_92 kbipush_101 ?_
          refine Ki e227_94 kbipush_114 ?_
          refine Ki e227_96 kbipush_105 ?_
          refine Ki e227_98 kbipush_118 ?_
          refine Ki e227_100 kbipush_101 ?_
          refine Ki e227_102 kiconst_0 ?_
          refine Cv8 e227_103 c227_225 (o152 L) (Nat.le_of_ble_eq_true rfl) (Nat.le_of_ble_eq_true rfl) ((m_isWord hR hT ha he hb)) ?_
          rw [w7_4 hz hb]
          refine B_eq e227_106 t227_106 (fun h106 => ?_) (fun h106 => ?_)
          · refine LA0 e227_111 ?_
            refine LI1 e227_112 ?_
            refine Ki e227_113 kbipush_116 ?_
            refine Ki e227_115 kbipush_117 ?_
            refine Ki e227_117 kbipush_114 ?_
            refine Ki e227_119 kbipush_110 ?_
            refine Ki e227_121 kiconst_0 ?_
            refine Ki e227_122 kiconst_0 ?_
            refine Ki e227_123 kiconst_0 ?_
            refine Cv8 e227_124 c227_225 (o152 L) (Nat.le_of_ble_eq_true rfl) (Nat.le_of_ble_eq_true rfl) ((m_isWord hR hT ha he hb)) ?_
            rw [w7_5 hz hb]
            refine B_eq e227_127 t227_127 (fun h127 => ?_) (fun h127 => ?_)
            · refine LA0 e227_132 ?_
              refine LI1 e227_133 ?_
              refine Ki e227_134 kbipush_115 ?_
              refine Ki e227_136 kbipush_104 ?_
              refine Ki e227_138 kbipush_105 ?_
              refine Ki e227_140 kbipush_102 ?_
              refine Ki e227_142 kbipush_116 ?_
              refine Ki e227_144 kiconst_0 ?_
              refine Ki e227_145 kiconst_0 ?_
              refine Cv8 e227_146 c227_225 (o152 L) (Nat.le_of_ble_eq_true rfl) (Nat.le_of_ble_eq_true rfl) ((m_isWord hR hT ha he hb)) ?_
              rw [w7_6 hz hb]
              refine B_eq e227_149 t227_149 (fun h149 => ?_) (fun h149 => ?_)
              · refine LA0 e227_155 ?_
                refine LI1 e227_156 ?_
                refine Ki e227_157 kbipush_115 ?_
                refine Ki e227_159 kbipush_116 ?_
                refine Ki e227_161 kbipush_114 ?_
                refine Ki e227_163 kbipush_101 ?_
                refine Ki e227_165 kbipush_116 ?_
                refine Ki e227_167 kbipush_99 ?_
                refine Ki e227_169 kbipush_104 ?_
                refine Cv8 e227_171 c227_225 (o152 L) (Nat.le_of_ble_eq_true rfl) (Nat.le_of_ble_eq_true rfl) ((m_isWord hR hT ha he hb)) ?_
                rw [w7_7 hz hb]
                refine B_eq e227_174 t227_174 (fun h174 => ?_) (fun h174 => ?_)
                · refine LA0 e227_180 ?_
                  refine LI1 e227_181 ?_
                  refine Ki e227_182 kbipush_114 ?_
                  refine Ki e227_184 kbipush_101 ?_
                  refine Ki e227_186 kbipush_118 ?_
                  refine Ki e227_188 kbipush_101 ?_
                  refine Ki e227_190 kbipush_114 ?_
                  refine Ki e227_192 kbipush_115 ?_
                  refine Ki e227_194 kbipush_101 ?_
                  refine Cv8 e227_196 c227_225 (o152 L) (Nat.le_of_ble_eq_true rfl) (Nat.le_of_ble_eq_true rfl) ((m_isWord hR hT ha he hb)) ?_
                  rw [w7_8 hz hb]
                  refine B_eq e227_199 t227_199 (fun h199 => ?_) (fun h199 => ?_)
                  · refine LA0 e227_205 ?_
                    refine LI1 e227_206 ?_
                    refine Ki e227_207 kbipush_102 ?_
                    refine Ki e227_209 kbipush_114 ?_
                    refine Ki e227_211 kbipush_101 ?_
                    refine Ki e227_213 kbipush_101 ?_
                    refine Ki e227_215 kiconst_0 ?_
                    refine Ki e227_216 kiconst_0 ?_
                    refine Ki e227_217 kiconst_0 ?_
                    refine Cv8 e227_218 c227_225 (o152 L) (Nat.le_of_ble_eq_true rfl) (Nat.le_of_ble_eq_true rfl) ((m_isWord hR hT ha he hb)) ?_
                    rw [w7_9 hz hb]
                    refine B_eq e227_221 t227_221 (fun h221 => ?_) (fun h221 => ?_)
                    · refine LA0 e227_227 ?_
                      refine LI1 e227_228 ?_
                      refine Ki e227_229 kbipush_114 ?_
                      refine Ki e227_231 kbipush_101 ?_
                      refine Ki e227_233 kbipush_115 ?_
                      refine Ki e227_235 kbipush_116 ?_
                      refine Ki e227_237 kiconst_0 ?_
                      refine Ki e227_238 kiconst_0 ?_
                      refine Ki e227_239 kiconst_0 ?_
                      refine Cv8 e227_240 c227_225 (o152 L) (Nat.le_of_ble_eq_true rfl) (Nat.le_of_ble_eq_true rfl) ((m_isWord hR hT ha he hb)) ?_
                      rw [w7_10 hz hb]
                      refine B_eq e227_243 t227_243 (fun h243 => ?_) (fun h243 => ?_)
                      · refine LA0 e227_249 ?_
                        refine LI1 e227_250 ?_
                        refine Ki e227_251 kbipush_112 ?_
                        refine Ki e227_253 kbipush_97 ?_
                        refine Ki e227_255 kbipush_114 ?_
                        refine Ki e227_257 kbipush_116 ?_
                        refine Ki e227_259 kiconst_0 ?_
                        refine Ki e227_260 kiconst_0 ?_
                        refine Ki e227_261 kiconst_0 ?_
                        refine Cv8 e227_262 c227_225 (o152 L) (Nat.le_of_ble_eq_true rfl) (Nat.le_of_ble_eq_true rfl) ((m_isWord hR hT ha he hb)) ?_
                        rw [w7_11 hz hb]
                        refine B_eq e227_265 t227_265 (fun h265 => ?_) (fun h265 => ?_)
                        · refine Ki e227_273 kiconst_m1 ?_
                          exact Ri e227_274 rt227 (by
                          have ew : wrdS T b e = none := ((wdN_no (f := 11) (i := 0) (bI_0f h15)).trans ((wdN_no (f := 10) (i := 1) (bI_0f h39)).trans ((wdN_no (f := 9) (i := 2) (bI_0f h60)).trans ((wdN_no (f := 8) (i := 3) (bI_0f h83)).trans ((wdN_no (f := 7) (i := 4) (bI_0f h106)).trans ((wdN_no (f := 6) (i := 5) (bI_0f h127)).trans ((wdN_no (f := 5) (i := 6) (bI_0f h149)).trans ((wdN_no (f := 4) (i := 7) (bI_0f h174)).trans ((wdN_no (f := 3) (i := 8) (bI_0f h199)).trans ((wdN_no (f := 2) (i := 9) (bI_0f h221)).trans ((wdN_no (f := 1) (i := 10) (bI_0f h243)).trans ((wdN_no (f := 0) (i := 11) (bI_0f h265)).trans rfl))))))))))))
                          rw [ew] at hQ
                          exact hQ)
                        · refine Ki e227_268 kbipush_11 ?_
                          refine Go e227_270 t227_270 ?_
                          exact Ri e227_274 rt227 (by
                          have ew : wrdS T b e = some 11 := ((wdN_no (f := 11) (i := 0) (bI_0f h15)).trans ((wdN_no (f := 10) (i := 1) (bI_0f h39)).trans ((wdN_no (f := 9) (i := 2) (bI_0f h60)).trans ((wdN_no (f := 8) (i := 3) (bI_0f h83)).trans ((wdN_no (f := 7) (i := 4) (bI_0f h106)).trans ((wdN_no (f := 6) (i := 5) (bI_0f h127)).trans ((wdN_no (f := 5) (i := 6) (bI_0f h149)).trans ((wdN_no (f := 4) (i := 7) (bI_0f h174)).trans ((wdN_no (f := 3) (i := 8) (bI_0f h199)).trans ((wdN_no (f := 2) (i := 9) (bI_0f h221)).trans ((wdN_no (f := 1) (i := 10) (bI_0f h243)).trans (wdN_yes (f := 0) (i := 11) (bI_0t h265)))))))))))))
                          rw [ew] at hQ
                          exact hQ)
                      · refine Ki e227_246 kbipush_10 ?_
                        exact Ri e227_248 rt227 (by
                        have ew : wrdS T b e = some 10 := ((wdN_no (f := 11) (i := 0) (bI_0f h15)).trans ((wdN_no (f := 10) (i := 1) (bI_0f h39)).trans ((wdN_no (f := 9) (i := 2) (bI_0f h60)).trans ((wdN_no (f := 8) (i := 3) (bI_0f h83)).trans ((wdN_no (f := 7) (i := 4) (bI_0f h106)).trans ((wdN_no (f := 6) (i := 5) (bI_0f h127)).trans ((wdN_no (f := 5) (i := 6) (bI_0f h149)).trans ((wdN_no (f := 4) (i := 7) (bI_0f h174)).trans ((wdN_no (f := 3) (i := 8) (bI_0f h199)).trans ((wdN_no (f := 2) (i := 9) (bI_0f h221)).trans (wdN_yes (f := 1) (i := 10) (bI_0t h243))))))))))))
                        rw [ew] at hQ
                        exact hQ)
                    · refine Ki e227_224 kbipush_9 ?_
                      exact Ri e227_226 rt227 (by
                      have ew : wrdS T b e = some 9 := ((wdN_no (f := 11) (i := 0) (bI_0f h15)).trans ((wdN_no (f := 10) (i := 1) (bI_0f h39)).trans ((wdN_no (f := 9) (i := 2) (bI_0f h60)).trans ((wdN_no (f := 8) (i := 3) (bI_0f h83)).trans ((wdN_no (f := 7) (i := 4) (bI_0f h106)).trans ((wdN_no (f := 6) (i := 5) (bI_0f h127)).trans ((wdN_no (f := 5) (i := 6) (bI_0f h149)).trans ((wdN_no (f := 4) (i := 7) (bI_0f h174)).trans ((wdN_no (f := 3) (i := 8) (bI_0f h199)).trans (wdN_yes (f := 2) (i := 9) (bI_0t h221)))))))))))
                      rw [ew] at hQ
                      exact hQ)
                  · refine Ki e227_202 kbipush_8 ?_
                    exact Ri e227_204 rt227 (by
                    have ew : wrdS T b e = some 8 := ((wdN_no (f := 11) (i := 0) (bI_0f h15)).trans ((wdN_no (f := 10) (i := 1) (bI_0f h39)).trans ((wdN_no (f := 9) (i := 2) (bI_0f h60)).trans ((wdN_no (f := 8) (i := 3) (bI_0f h83)).trans ((wdN_no (f := 7) (i := 4) (bI_0f h106)).trans ((wdN_no (f := 6) (i := 5) (bI_0f h127)).trans ((wdN_no (f := 5) (i := 6) (bI_0f h149)).trans ((wdN_no (f := 4) (i := 7) (bI_0f h174)).trans (wdN_yes (f := 3) (i := 8) (bI_0t h199))))))))))
                    rw [ew] at hQ
                    exact hQ)
                · refine Ki e227_177 kbipush_7 ?_
                  exact Ri e227_179 rt227 (by
                  have ew : wrdS T b e = some 7 := ((wdN_no (f := 11) (i := 0) (bI_0f h15)).trans ((wdN_no (f := 10) (i := 1) (bI_0f h39)).trans ((wdN_no (f := 9) (i := 2) (bI_0f h60)).trans ((wdN_no (f := 8) (i := 3) (bI_0f h83)).trans ((wdN_no (f := 7) (i := 4) (bI_0f h106)).trans ((wdN_no (f := 6) (i := 5) (bI_0f h127)).trans ((wdN_no (f := 5) (i := 6) (bI_0f h149)).trans (wdN_yes (f := 4) (i := 7) (bI_0t h174)))))))))
                  rw [ew] at hQ
                  exact hQ)
              · refine Ki e227_152 kbipush_6 ?_
                exact Ri e227_154 rt227 (by
                have ew : wrdS T b e = some 6 := ((wdN_no (f := 11) (i := 0) (bI_0f h15)).trans ((wdN_no (f := 10) (i := 1) (bI_0f h39)).trans ((wdN_no (f := 9) (i := 2) (bI_0f h60)).trans ((wdN_no (f := 8) (i := 3) (bI_0f h83)).trans ((wdN_no (f := 7) (i := 4) (bI_0f h106)).trans ((wdN_no (f := 6) (i := 5) (bI_0f h127)).trans (wdN_yes (f := 5) (i := 6) (bI_0t h149))))))))
                rw [ew] at hQ
                exact hQ)
            · refine Ki e227_130 kiconst_5 ?_
              exact Ri e227_131 rt227 (by
              have ew : wrdS T b e = some 5 := ((wdN_no (f := 11) (i := 0) (bI_0f h15)).trans ((wdN_no (f := 10) (i := 1) (bI_0f h39)).trans ((wdN_no (f := 9) (i := 2) (bI_0f h60)).trans ((wdN_no (f := 8) (i := 3) (bI_0f h83)).trans ((wdN_no (f := 7) (i := 4) (bI_0f h106)).trans (wdN_yes (f := 6) (i := 5) (bI_0t h127)))))))
              rw [ew] at hQ
              exact hQ)
          · refine Ki e227_109 kiconst_4 ?_
            exact Ri e227_110 rt227 (by
            have ew : wrdS T b e = some 4 := ((wdN_no (f := 11) (i := 0) (bI_0f h15)).trans ((wdN_no (f := 10) (i := 1) (bI_0f h39)).trans ((wdN_no (f := 9) (i := 2) (bI_0f h60)).trans ((wdN_no (f := 8) (i := 3) (bI_0f h83)).trans (wdN_yes (f := 7) (i := 4) (bI_0t h106))))))
            rw [ew] at hQ
            exact hQ)
        · refine Ki e227_86 kiconst_3 ?_
          exact Ri e227_87 rt227 (by
          have ew : wrdS T b e = some 3 := ((wdN_no (f := 11) (i := 0) (bI_0f h15)).trans ((wdN_no (f := 10) (i := 1) (bI_0f h39)).trans ((wdN_no (f := 9) (i := 2) (bI_0f h60)).trans (wdN_yes (f := 8) (i := 3) (bI_0t h83)))))
          rw [ew] at hQ
          exact hQ)
      · refine Ki e227_63 kiconst_2 ?_
        exact Ri e227_64 rt227 (by
        have ew : wrdS T b e = some 2 := ((wdN_no (f := 11) (i := 0) (bI_0f h15)).trans ((wdN_no (f := 10) (i := 1) (bI_0f h39)).trans (wdN_yes (f := 9) (i := 2) (bI_0t h60))))
        rw [ew] at hQ
        exact hQ)
    · refine Ki e227_42 kiconst_1 ?_
      exact Ri e227_43 rt227 (by
      have ew : wrdS T b e = some 1 := ((wdN_no (f := 11) (i := 0) (bI_0f h15)).trans (wdN_yes (f := 10) (i := 1) (bI_0t h39)))
      rw [ew] at hQ
      exact hQ)
  · refine Ki e227_18 kiconst_0 ?_
    exact Ri e227_19 rt227 (by
    have ew : wrdS T b e = some 0 := (wdN_yes (f := 11) (i := 0) (bI_0t h15))
    rw [ew] at hQ
    exact hQ)
set_option maxHeartbeats 2000000 in
theorem m_figure1 {z : Int32} (hR : amRok Ra) (h0 : Ia 152 38 = 1) : Cl 228 [.ref 152, .int z] (amSH L) Ia Ja Ra (fun v Ia' Ja' Ra' => v = some (.int 0) ∧ Ia' = Ia ∧ Ja' = Ja ∧ Ra' = Ra) := by
  show Ex 228 0 [some (.ref 152), some (.int z), none, none] [] (amSH L) Ia Ja Ra _
  refine LA0 e228_0 ?_
  refine Gi e228_1 (o152 L) (amGi_of f806 (by decide)) ?_
  rw [h0]
  refine B_ne e228_4 t228_4 (fun _ => ?_) (fun q => absurd (by decide) q)
  refine LA0 e228_16 ?_
  refine LA0 e228_17 ?_
  refine Gi e228_18 (o152 L) (amGi_of f805 (by decide)) ?_
  refine Cv1p e228_21 c228_222 (o152 L) (Nat.le_of_ble_eq_true rfl) (Nat.le_of_ble_eq_true rfl) (m_wrong1 h0) ?_
  rintro _ Ia1 Ja1 Ra1 ⟨rfl, hI1, hJ1, hR1⟩
  have hI1 := hI1.symm
  subst hI1
  have hJ1 := hJ1.symm
  subst hJ1
  have hR1 := hR1.symm
  subst hR1
  refine Ki e228_24 kiconst_0 ?_
  exact Ri e228_25 rt228 (⟨rfl, rfl, rfl, rfl⟩)
set_option maxHeartbeats 2000000 in
theorem m_figure_true (hR : amRok Ra) (hT : MT Ia T n) (hb : b ≤ n) (ha : Ia 152 37 = nI b) (h0 : Ia 152 38 = 0) : Cl 228 [.ref 152, .int 1] (amSH L) Ia Ja Ra (FiP Ia Ja Ra (figR T true b)) := by
  show Ex 228 0 [some (.ref 152), some (.int 1), none, none] [] (amSH L) Ia Ja Ra _
  have hn := hT.2.1
  by_cases g32 : T b = 32
  · by_cases g45 : T (b + 1) = 45
    · have hl1 : b + 1 < n := T_lt hT.2.2 (fun z => by rw [z] at g45; exact absurd g45 (by decide))
      by_cases gf : isFg (T (b + 1 + 1))
      · have hl2 : b + 1 + 1 < n := T_lt hT.2.2 (fg_n0 gf)
        have hdg := dg_le gf
        refine LA0 e228_0 ?_
        refine Gi e228_1 (o152 L) (amGi_of f806 (by decide)) ?_
        rw [h0]
        refine B_ne e228_4 t228_4 (fun q => absurd q (fun z => z rfl)) (fun _ => ?_)
        refine LA0 e228_7 ?_
        refine Cv0 e228_8 c228_221 (o152 L) (Nat.le_of_ble_eq_true rfl) (Nat.le_of_ble_eq_true rfl) ((m_here (b := b) hR (hT.w FrW.rf) ha (by omega))) ?_
        refine Ki e228_11 kbipush_32 ?_
        refine C_eq e228_13 t228_13 (fun _ => ?_) (fun q => absurd (g32) q)
        refine LA0 e228_26 ?_
        refine Dup e228_27 rfl ?_
        refine Gi e228_28 (o152 L) (amGi_of f805 (by decide)) ?_
        rw [ha]
        refine Ki e228_31 kiconst_1 ?_
        refine IaddN (a := b) (b := 1) e228_32 rfl (by decide) ?_
        refine Pi e228_33 (o152 L) f805 ?_
        refine LI1 e228_36 ?_
        refine B_eq e228_37 t228_37 (fun q => absurd q (by decide)) (fun _ => ?_)
        refine LA0 e228_40 ?_
        refine Cv0 e228_41 c228_221 (o152 L) (Nat.le_of_ble_eq_true rfl) (Nat.le_of_ble_eq_true rfl) ((m_here (b := b + 1) hR (hT.w (FrW.rf.up (by omega))) amU_same (by omega))) ?_
        refine Ki e228_44 kbipush_45 ?_
        refine C_ne e228_46 t228_46 (fun q => absurd q (fun z => z g45)) (fun _ => ?_)
        refine Ki e228_49 kiconst_1 ?_
        refine Go e228_50 t228_50 ?_
        refine SI2 e228_54 rfl ?_
        refine LI2 e228_55 ?_
        refine B_eq e228_56 t228_56 (fun q => absurd q (by decide)) (fun _ => ?_)
        refine LA0 e228_59 ?_
        refine Dup e228_60 rfl ?_
        refine Gi e228_61 (o152 L) (amGi_of f805 (by decide)) ?_
        rw [amU_same]
        refine Ki e228_64 kiconst_1 ?_
        refine IaddN (a := (b + 1)) (b := 1) e228_65 rfl (by decide) ?_
        refine Pi e228_66 (o152 L) f805 ?_
        refine LA0 e228_69 ?_
        refine Cv0 e228_70 c228_221 (o152 L) (Nat.le_of_ble_eq_true rfl) (Nat.le_of_ble_eq_true rfl) ((m_here (b := b + 1 + 1) hR (hT.w ((FrW.rf.up (by omega)).up (by omega))) amU_same (by omega))) ?_
        refine I2l e228_73 ?_
        refine Kd e228_74 kj17 ?_
        refine Kd e228_77 kj16 ?_
        refine Cs3 e228_80 c228_152 (Nat.le_of_ble_eq_true rfl) (Nat.le_of_ble_eq_true rfl) (m_in) ?_
        rw [show decide ((48 : Int64) ≤ (T (b + 1 + 1)).toInt64 ∧ (T (b + 1 + 1)).toInt64 ≤ 57) = decide (48 ≤ (T (b + 1 + 1)).toInt ∧ (T (b + 1 + 1)).toInt ≤ 57) from min64 (a := 48) (b := 57), decide_eq_true gf]
        rw [show bI true = 1 from rfl]
        refine B_ne e228_83 t228_83 (fun _ => ?_) (fun q => absurd (by decide) q)
        refine LA0 e228_96 ?_
        refine Gr e228_97 (o152 L) (hR 152 35 199 rfl) f803 ?_
        refine LA0 e228_100 ?_
        refine Gi e228_101 (o152 L) (amGi_of f805 (by decide)) ?_
        rw [amU_same]
        refine AiN (k := (b + 1 + 1)) e228_104 (o199 L) rfl (by omega) (by decide) ?_
        rw [up_o (by omega), up_o (by omega), hT.1.2 _ hl2]
        rw [show T (b + 1 + 1) = nI (48 + dg (T (b + 1 + 1))) from dg_nI gf]
        refine Ki e228_105 kbipush_48 ?_
        refine IsubN (a := (48 + dg (T (b + 1 + 1)))) (b := 48) e228_107 rfl (by decide) (by omega) ?_
        rw [Nat.add_sub_cancel_left]
        refine SI3 e228_108 rfl ?_
        refine LA0 e228_109 ?_
        refine Dup e228_110 rfl ?_
        refine Gi e228_111 (o152 L) (amGi_of f805 (by decide)) ?_
        rw [amU_same]
        refine Ki e228_114 kiconst_1 ?_
        refine IaddN (a := (b + 1 + 1)) (b := 1) e228_115 rfl (by decide) ?_
        refine Pi e228_116 (o152 L) f805 ?_
        refine LI2 e228_119 ?_
        refine B_eq e228_120 t228_120 (fun q => absurd q (by decide)) (fun _ => ?_)
        refine LI3 e228_123 ?_
        refine Ineg e228_124 ?_
        refine Go e228_125 t228_125 ?_
        exact Ri e228_129 rt228 (by
        have ef : figR T true b = .inr (b + 1 + 1 + 1, dg (T (b + 1 + 1)), true) := by
          unfold figR
          rw [if_pos g32, if_pos ⟨rfl, g45⟩, if_pos gf]
        refine ⟨rfl, rfl, (((FrW.rf.up (by omega)).up (by omega)).up (by omega)), Or.inr ⟨_, _, _, ef, rfl, (by (repeat rw [up_o (by omega)]); first | exact amU_same | exact h0), (by (repeat rw [up_o (by omega)]); first | exact amU_same | exact ha)⟩⟩)
      · refine LA0 e228_0 ?_
        refine Gi e228_1 (o152 L) (amGi_of f806 (by decide)) ?_
        rw [h0]
        refine B_ne e228_4 t228_4 (fun q => absurd q (fun z => z rfl)) (fun _ => ?_)
        refine LA0 e228_7 ?_
        refine Cv0 e228_8 c228_221 (o152 L) (Nat.le_of_ble_eq_true rfl) (Nat.le_of_ble_eq_true rfl) ((m_here (b := b) hR (hT.w FrW.rf) ha (by omega))) ?_
        refine Ki e228_11 kbipush_32 ?_
        refine C_eq e228_13 t228_13 (fun _ => ?_) (fun q => absurd (g32) q)
        refine LA0 e228_26 ?_
        refine Dup e228_27 rfl ?_
        refine Gi e228_28 (o152 L) (amGi_of f805 (by decide)) ?_
        rw [ha]
        refine Ki e228_31 kiconst_1 ?_
        refine IaddN (a := b) (b := 1) e228_32 rfl (by decide) ?_
        refine Pi e228_33 (o152 L) f805 ?_
        refine LI1 e228_36 ?_
        refine B_eq e228_37 t228_37 (fun q => absurd q (by decide)) (fun _ => ?_)
        refine LA0 e228_40 ?_
        refine Cv0 e228_41 c228_221 (o152 L) (Nat.le_of_ble_eq_true rfl) (Nat.le_of_ble_eq_true rfl) ((m_here (b := b + 1) hR (hT.w (FrW.rf.up (by omega))) amU_same (by omega))) ?_
        refine Ki e228_44 kbipush_45 ?_
        refine C_ne e228_46 t228_46 (fun q => absurd q (fun z => z g45)) (fun _ => ?_)
        refine Ki e228_49 kiconst_1 ?_
        refine Go e228_50 t228_50 ?_
        refine SI2 e228_54 rfl ?_
        refine LI2 e228_55 ?_
        refine B_eq e228_56 t228_56 (fun q => absurd q (by decide)) (fun _ => ?_)
        refine LA0 e228_59 ?_
        refine Dup e228_60 rfl ?_
        refine Gi e228_61 (o152 L) (amGi_of f805 (by decide)) ?_
        rw [amU_same]
        refine Ki e228_64 kiconst_1 ?_
        refine IaddN (a := (b + 1)) (b := 1) e228_65 rfl (by decide) ?_
        refine Pi e228_66 (o152 L) f805 ?_
        refine LA0 e228_69 ?_
        refine Cv0 e228_70 c228_221 (o152 L) (Nat.le_of_ble_eq_true rfl) (Nat.le_of_ble_eq_true rfl) ((m_here (b := b + 1 + 1) hR (hT.w ((FrW.rf.up (by omega)).up (by omega))) amU_same (by omega))) ?_
        refine I2l e228_73 ?_
        refine Kd e228_74 kj17 ?_
        refine Kd e228_77 kj16 ?_
        refine Cs3 e228_80 c228_152 (Nat.le_of_ble_eq_true rfl) (Nat.le_of_ble_eq_true rfl) (m_in) ?_
        rw [show decide ((48 : Int64) ≤ (T (b + 1 + 1)).toInt64 ∧ (T (b + 1 + 1)).toInt64 ≤ 57) = decide (48 ≤ (T (b + 1 + 1)).toInt ∧ (T (b + 1 + 1)).toInt ≤ 57) from min64 (a := 48) (b := 57), decide_eq_false gf]
        rw [show bI false = 0 from rfl]
        refine B_ne e228_83 t228_83 (fun q => absurd q (fun z => z rfl)) (fun _ => ?_)
        refine LA0 e228_86 ?_
        refine LA0 e228_87 ?_
        refine Gi e228_88 (o152 L) (amGi_of f805 (by decide)) ?_
        rw [amU_same]
        refine Cv1p e228_91 c228_222 (o152 L) (Nat.le_of_ble_eq_true rfl) (Nat.le_of_ble_eq_true rfl) (m_wrong (by (repeat rw [up_o (by omega)]); first | exact amU_same | exact h0)) ?_
        rintro _ Ia9 Ja9 Ra9 ⟨rfl, hI9, hJ9, hR9⟩
        have hI9 := hI9.symm
        subst hI9
        have hJ9 := hJ9.symm
        subst hJ9
        have hR9 := hR9.symm
        subst hR9
        refine Ki e228_94 kiconst_0 ?_
        exact Ri e228_95 rt228 (by
        have ef : figR T true b = .inl (b + 1 + 1) := by
          unfold figR
          rw [if_pos g32, if_pos ⟨rfl, g45⟩, if_neg gf]
        refine ⟨rfl, rfl, ((((FrW.rf.up (by omega)).up (by omega)).up (by omega)).up (by omega)), Or.inl ⟨_, ef, rfl, (by (repeat rw [up_o (by omega)]); first | exact amU_same | exact h0), (by (repeat rw [up_o (by omega)]); first | exact amU_same | exact h0)⟩⟩)
    · have hl0 : b < n := T_lt hT.2.2 (fun z => by rw [z] at g32; exact absurd g32 (by decide))
      by_cases gf : isFg (T (b + 1))
      · have hl2 : b + 1 < n := T_lt hT.2.2 (fg_n0 gf)
        have hdg := dg_le gf
        refine LA0 e228_0 ?_
        refine Gi e228_1 (o152 L) (amGi_of f806 (by decide)) ?_
        rw [h0]
        refine B_ne e228_4 t228_4 (fun q => absurd q (fun z => z rfl)) (fun _ => ?_)
        refine LA0 e228_7 ?_
        refine Cv0 e228_8 c228_221 (o152 L) (Nat.le_of_ble_eq_true rfl) (Nat.le_of_ble_eq_true rfl) ((m_here (b := b) hR (hT.w FrW.rf) ha (by omega))) ?_
        refine Ki e228_11 kbipush_32 ?_
        refine C_eq e228_13 t228_13 (fun _ => ?_) (fun q => absurd (g32) q)
        refine LA0 e228_26 ?_
        refine Dup e228_27 rfl ?_
        refine Gi e228_28 (o152 L) (amGi_of f805 (by decide)) ?_
        rw [ha]
        refine Ki e228_31 kiconst_1 ?_
        refine IaddN (a := b) (b := 1) e228_32 rfl (by decide) ?_
        refine Pi e228_33 (o152 L) f805 ?_
        refine LI1 e228_36 ?_
        refine B_eq e228_37 t228_37 (fun q => absurd q (by decide)) (fun _ => ?_)
        refine LA0 e228_40 ?_
        refine Cv0 e228_41 c228_221 (o152 L) (Nat.le_of_ble_eq_true rfl) (Nat.le_of_ble_eq_true rfl) ((m_here (b := b + 1) hR (hT.w (FrW.rf.up (by omega))) amU_same (by omega))) ?_
        refine Ki e228_44 kbipush_45 ?_
        refine C_ne e228_46 t228_46 (fun _ => ?_) (fun q => absurd (g45) q)
        refine Ki e228_53 kiconst_0 ?_
        refine SI2 e228_54 rfl ?_
        refine LI2 e228_55 ?_
        refine B_eq e228_56 t228_56 (fun _ => ?_) (fun q => absurd (rfl) q)
        refine LA0 e228_69 ?_
        refine Cv0 e228_70 c228_221 (o152 L) (Nat.le_of_ble_eq_true rfl) (Nat.le_of_ble_eq_true rfl) ((m_here (b := b + 1) hR (hT.w (FrW.rf.up (by omega))) amU_same (by omega))) ?_
        refine I2l e228_73 ?_
        refine Kd e228_74 kj17 ?_
        refine Kd e228_77 kj16 ?_
        refine Cs3 e228_80 c228_152 (Nat.le_of_ble_eq_true rfl) (Nat.le_of_ble_eq_true rfl) (m_in) ?_
        rw [show decide ((48 : Int64) ≤ (T (b + 1)).toInt64 ∧ (T (b + 1)).toInt64 ≤ 57) = decide (48 ≤ (T (b + 1)).toInt ∧ (T (b + 1)).toInt ≤ 57) from min64 (a := 48) (b := 57), decide_eq_true gf]
        rw [show bI true = 1 from rfl]
        refine B_ne e228_83 t228_83 (fun _ => ?_) (fun q => absurd (by decide) q)
        refine LA0 e228_96 ?_
        refine Gr e228_97 (o152 L) (hR 152 35 199 rfl) f803 ?_
        refine LA0 e228_100 ?_
        refine Gi e228_101 (o152 L) (amGi_of f805 (by decide)) ?_
        rw [amU_same]
        refine AiN (k := (b + 1)) e228_104 (o199 L) rfl (by omega) (by decide) ?_
        rw [up_o (by omega), hT.1.2 _ hl2]
        rw [show T (b + 1) = nI (48 + dg (T (b + 1))) from dg_nI gf]
        refine Ki e228_105 kbipush_48 ?_
        refine IsubN (a := (48 + dg (T (b + 1)))) (b := 48) e228_107 rfl (by decide) (by omega) ?_
        rw [Nat.add_sub_cancel_left]
        refine SI3 e228_108 rfl ?_
        refine LA0 e228_109 ?_
        refine Dup e228_110 rfl ?_
        refine Gi e228_111 (o152 L) (amGi_of f805 (by decide)) ?_
        rw [amU_same]
        refine Ki e228_114 kiconst_1 ?_
        refine IaddN (a := (b + 1)) (b := 1) e228_115 rfl (by decide) ?_
        refine Pi e228_116 (o152 L) f805 ?_
        refine LI2 e228_119 ?_
        refine B_eq e228_120 t228_120 (fun _ => ?_) (fun q => absurd (rfl) q)
        refine LI3 e228_128 ?_
        exact Ri e228_129 rt228 (by
        have ef : figR T true b = .inr (b + 1 + 1, dg (T (b + 1)), false) := by
          unfold figR
          rw [if_pos g32, if_neg (fun z => by first | exact absurd z.1 (by decide) | exact g45 z.2), if_pos gf]
        refine ⟨rfl, rfl, ((FrW.rf.up (by omega)).up (by omega)), Or.inr ⟨_, _, _, ef, rfl, (by (repeat rw [up_o (by omega)]); first | exact amU_same | exact h0), (by (repeat rw [up_o (by omega)]); first | exact amU_same | exact ha)⟩⟩)
      · refine LA0 e228_0 ?_
        refine Gi e228_1 (o152 L) (amGi_of f806 (by decide)) ?_
        rw [h0]
        refine B_ne e228_4 t228_4 (fun q => absurd q (fun z => z rfl)) (fun _ => ?_)
        refine LA0 e228_7 ?_
        refine Cv0 e228_8 c228_221 (o152 L) (Nat.le_of_ble_eq_true rfl) (Nat.le_of_ble_eq_true rfl) ((m_here (b := b) hR (hT.w FrW.rf) ha (by omega))) ?_
        refine Ki e228_11 kbipush_32 ?_
        refine C_eq e228_13 t228_13 (fun _ => ?_) (fun q => absurd (g32) q)
        refine LA0 e228_26 ?_
        refine Dup e228_27 rfl ?_
        refine Gi e228_28 (o152 L) (amGi_of f805 (by decide)) ?_
        rw [ha]
        refine Ki e228_31 kiconst_1 ?_
        refine IaddN (a := b) (b := 1) e228_32 rfl (by decide) ?_
        refine Pi e228_33 (o152 L) f805 ?_
        refine LI1 e228_36 ?_
        refine B_eq e228_37 t228_37 (fun q => absurd q (by decide)) (fun _ => ?_)
        refine LA0 e228_40 ?_
        refine Cv0 e228_41 c228_221 (o152 L) (Nat.le_of_ble_eq_true rfl) (Nat.le_of_ble_eq_true rfl) ((m_here (b := b + 1) hR (hT.w (FrW.rf.up (by omega))) amU_same (by omega))) ?_
        refine Ki e228_44 kbipush_45 ?_
        refine C_ne e228_46 t228_46 (fun _ => ?_) (fun q => absurd (g45) q)
        refine Ki e228_53 kiconst_0 ?_
        refine SI2 e228_54 rfl ?_
        refine LI2 e228_55 ?_
        refine B_eq e228_56 t228_56 (fun _ => ?_) (fun q => absurd (rfl) q)
        refine LA0 e228_69 ?_
        refine Cv0 e228_70 c228_221 (o152 L) (Nat.le_of_ble_eq_true rfl) (Nat.le_of_ble_eq_true rfl) ((m_here (b := b + 1) hR (hT.w (FrW.rf.up (by omega))) amU_same (by omega))) ?_
        refine I2l e228_73 ?_
        refine Kd e228_74 kj17 ?_
        refine Kd e228_77 kj16 ?_
        refine Cs3 e228_80 c228_152 (Nat.le_of_ble_eq_true rfl) (Nat.le_of_ble_eq_true rfl) (m_in) ?_
        rw [show decide ((48 : Int64) ≤ (T (b + 1)).toInt64 ∧ (T (b + 1)).toInt64 ≤ 57) = decide (48 ≤ (T (b + 1)).toInt ∧ (T (b + 1)).toInt ≤ 57) from min64 (a := 48) (b := 57), decide_eq_false gf]
        rw [show bI false = 0 from rfl]
        refine B_ne e228_83 t228_83 (fun q => absurd q (fun z => z rfl)) (fun _ => ?_)
        refine LA0 e228_86 ?_
        refine LA0 e228_87 ?_
        refine Gi e228_88 (o152 L) (amGi_of f805 (by decide)) ?_
        rw [amU_same]
        refine Cv1p e228_91 c228_222 (o152 L) (Nat.le_of_ble_eq_true rfl) (Nat.le_of_ble_eq_true rfl) (m_wrong (by (repeat rw [up_o (by omega)]); first | exact amU_same | exact h0)) ?_
        rintro _ Ia9 Ja9 Ra9 ⟨rfl, hI9, hJ9, hR9⟩
        have hI9 := hI9.symm
        subst hI9
        have hJ9 := hJ9.symm
        subst hJ9
        have hR9 := hR9.symm
        subst hR9
        refine Ki e228_94 kiconst_0 ?_
        exact Ri e228_95 rt228 (by
        have ef : figR T true b = .inl (b + 1) := by
          unfold figR
          rw [if_pos g32, if_neg (fun z => by first | exact absurd z.1 (by decide) | exact g45 z.2), if_neg gf]
        refine ⟨rfl, rfl, (((FrW.rf.up (by omega)).up (by omega)).up (by omega)), Or.inl ⟨_, ef, rfl, (by (repeat rw [up_o (by omega)]); first | exact amU_same | exact h0), (by (repeat rw [up_o (by omega)]); first | exact amU_same | exact h0)⟩⟩)
  · refine LA0 e228_0 ?_
    refine Gi e228_1 (o152 L) (amGi_of f806 (by decide)) ?_
    rw [h0]
    refine B_ne e228_4 t228_4 (fun q => absurd q (fun z => z rfl)) (fun _ => ?_)
    refine LA0 e228_7 ?_
    refine Cv0 e228_8 c228_221 (o152 L) (Nat.le_of_ble_eq_true rfl) (Nat.le_of_ble_eq_true rfl) ((m_here (b := b) hR (hT.w FrW.rf) ha (by omega))) ?_
    refine Ki e228_11 kbipush_32 ?_
    refine C_eq e228_13 t228_13 (fun q => absurd q (g32)) (fun _ => ?_)
    refine LA0 e228_16 ?_
    refine LA0 e228_17 ?_
    refine Gi e228_18 (o152 L) (amGi_of f805 (by decide)) ?_
    rw [ha]
    refine Cv1p e228_21 c228_222 (o152 L) (Nat.le_of_ble_eq_true rfl) (Nat.le_of_ble_eq_true rfl) (m_wrong (by (repeat rw [up_o (by omega)]); first | exact amU_same | exact h0)) ?_
    rintro _ Ia9 Ja9 Ra9 ⟨rfl, hI9, hJ9, hR9⟩
    have hI9 := hI9.symm
    subst hI9
    have hJ9 := hJ9.symm
    subst hJ9
    have hR9 := hR9.symm
    subst hR9
    refine Ki e228_24 kiconst_0 ?_
    exact Ri e228_25 rt228 (by
    have ef : figR T true b = .inl b := by
      unfold figR
      rw [if_neg g32]
    refine ⟨rfl, rfl, ((FrW.rf.up (by omega)).up (by omega)), Or.inl ⟨_, ef, rfl, (by (repeat rw [up_o (by omega)]); first | exact amU_same | exact h0), (by (repeat rw [up_o (by omega)]); first | exact amU_same | exact h0)⟩⟩)
set_option maxHeartbeats 2000000 in
theorem m_figure_false (hR : amRok Ra) (hT : MT Ia T n) (hb : b ≤ n) (ha : Ia 152 37 = nI b) (h0 : Ia 152 38 = 0) : Cl 228 [.ref 152, .int 0] (amSH L) Ia Ja Ra (FiP Ia Ja Ra (figR T false b)) := by
  show Ex 228 0 [some (.ref 152), some (.int 0), none, none] [] (amSH L) Ia Ja Ra _
  have hn := hT.2.1
  by_cases g32 : T b = 32
  · have hl0 : b < n := T_lt hT.2.2 (fun z => by rw [z] at g32; exact absurd g32 (by decide))
    have g45 : True := trivial
    by_cases gf : isFg (T (b + 1))
    · have hl2 : b + 1 < n := T_lt hT.2.2 (fg_n0 gf)
      have hdg := dg_le gf
      refine LA0 e228_0 ?_
      refine Gi e228_1 (o152 L) (amGi_of f806 (by decide)) ?_
      rw [h0]
      refine B_ne e228_4 t228_4 (fun q => absurd q (fun z => z rfl)) (fun _ => ?_)
      refine LA0 e228_7 ?_
      refine Cv0 e228_8 c228_221 (o152 L) (Nat.le_of_ble_eq_true rfl) (Nat.le_of_ble_eq_true rfl) ((m_here (b := b) hR (hT.w FrW.rf) ha (by omega))) ?_
      refine Ki e228_11 kbipush_32 ?_
      refine C_eq e228_13 t228_13 (fun _ => ?_) (fun q => absurd (g32) q)
      refine LA0 e228_26 ?_
      refine Dup e228_27 rfl ?_
      refine Gi e228_28 (o152 L) (amGi_of f805 (by decide)) ?_
      rw [ha]
      refine Ki e228_31 kiconst_1 ?_
      refine IaddN (a := b) (b := 1) e228_32 rfl (by decide) ?_
      refine Pi e228_33 (o152 L) f805 ?_
      refine LI1 e228_36 ?_
      refine B_eq e228_37 t228_37 (fun _ => ?_) (fun q => absurd (rfl) q)
      refine Ki e228_53 kiconst_0 ?_
      refine SI2 e228_54 rfl ?_
      refine LI2 e228_55 ?_
      refine B_eq e228_56 t228_56 (fun _ => ?_) (fun q => absurd (rfl) q)
      refine LA0 e228_69 ?_
      refine Cv0 e228_70 c228_221 (o152 L) (Nat.le_of_ble_eq_true rfl) (Nat.le_of_ble_eq_true rfl) ((m_here (b := b + 1) hR (hT.w (FrW.rf.up (by omega))) amU_same (by omega))) ?_
      refine I2l e228_73 ?_
      refine Kd e228_74 kj17 ?_
      refine Kd e228_77 kj16 ?_
      refine Cs3 e228_80 c228_152 (Nat.le_of_ble_eq_true rfl) (Nat.le_of_ble_eq_true rfl) (m_in) ?_
      rw [show decide ((48 : Int64) ≤ (T (b + 1)).toInt64 ∧ (T (b + 1)).toInt64 ≤ 57) = decide (48 ≤ (T (b + 1)).toInt ∧ (T (b + 1)).toInt ≤ 57) from min64 (a := 48) (b := 57), decide_eq_true gf]
      rw [show bI true = 1 from rfl]
      refine B_ne e228_83 t228_83 (fun _ => ?_) (fun q => absurd (by decide) q)
      refine LA0 e228_96 ?_
      refine Gr e228_97 (o152 L) (hR 152 35 199 rfl) f803 ?_
      refine LA0 e228_100 ?_
      refine Gi e228_101 (o152 L) (amGi_of f805 (by decide)) ?_
      rw [amU_same]
      refine AiN (k := (b + 1)) e228_104 (o199 L) rfl (by omega) (by decide) ?_
      rw [up_o (by omega), hT.1.2 _ hl2]
      rw [show T (b + 1) = nI (48 + dg (T (b + 1))) from dg_nI gf]
      refine Ki e228_105 kbipush_48 ?_
      refine IsubN (a := (48 + dg (T (b + 1)))) (b := 48) e228_107 rfl (by decide) (by omega) ?_
      rw [Nat.add_sub_cancel_left]
      refine SI3 e228_108 rfl ?_
      refine LA0 e228_109 ?_
      refine Dup e228_110 rfl ?_
      refine Gi e228_111 (o152 L) (amGi_of f805 (by decide)) ?_
      rw [amU_same]
      refine Ki e228_114 kiconst_1 ?_
      refine IaddN (a := (b + 1)) (b := 1) e228_115 rfl (by decide) ?_
      refine Pi e228_116 (o152 L) f805 ?_
      refine LI2 e228_119 ?_
      refine B_eq e228_120 t228_120 (fun _ => ?_) (fun q => absurd (rfl) q)
      refine LI3 e228_128 ?_
      exact Ri e228_129 rt228 (by
      have ef : figR T false b = .inr (b + 1 + 1, dg (T (b + 1)), false) := by
        unfold figR
        rw [if_pos g32, if_neg (fun z => by first | exact absurd z.1 (by decide) | exact g45 z.2), if_pos gf]
      refine ⟨rfl, rfl, ((FrW.rf.up (by omega)).up (by omega)), Or.inr ⟨_, _, _, ef, rfl, (by (repeat rw [up_o (by omega)]); first | exact amU_same | exact h0), (by (repeat rw [up_o (by omega)]); first | exact amU_same | exact ha)⟩⟩)
    · refine LA0 e228_0 ?_
      refine Gi e228_1 (o152 L) (amGi_of f806 (by decide)) ?_
      rw [h0]
      refine B_ne e228_4 t228_4 (fun q => absurd q (fun z => z rfl)) (fun _ => ?_)
      refine LA0 e228_7 ?_
      refine Cv0 e228_8 c228_221 (o152 L) (Nat.le_of_ble_eq_true rfl) (Nat.le_of_ble_eq_true rfl) ((m_here (b := b) hR (hT.w FrW.rf) ha (by omega))) ?_
      refine Ki e228_11 kbipush_32 ?_
      refine C_eq e228_13 t228_13 (fun _ => ?_) (fun q => absurd (g32) q)
      refine LA0 e228_26 ?_
      refine Dup e228_27 rfl ?_
      refine Gi e228_28 (o152 L) (amGi_of f805 (by decide)) ?_
      rw [ha]
      refine Ki e228_31 kiconst_1 ?_
      refine IaddN (a := b) (b := 1) e228_32 rfl (by decide) ?_
      refine Pi e228_33 (o152 L) f805 ?_
      refine LI1 e228_36 ?_
      refine B_eq e228_37 t228_37 (fun _ => ?_) (fun q => absurd (rfl) q)
      refine Ki e228_53 kiconst_0 ?_
      refine SI2 e228_54 rfl ?_
      refine LI2 e228_55 ?_
      refine B_eq e228_56 t228_56 (fun _ => ?_) (fun q => absurd (rfl) q)
      refine LA0 e228_69 ?_
      refine Cv0 e228_70 c228_221 (o152 L) (Nat.le_of_ble_eq_true rfl) (Nat.le_of_ble_eq_true rfl) ((m_here (b := b + 1) hR (hT.w (FrW.rf.up (by omega))) amU_same (by omega))) ?_
      refine I2l e228_73 ?_
      refine Kd e228_74 kj17 ?_
      refine Kd e228_77 kj16 ?_
      refine Cs3 e228_80 c228_152 (Nat.le_of_ble_eq_true rfl) (Nat.le_of_ble_eq_true rfl) (m_in) ?_
      rw [show decide ((48 : Int64) ≤ (T (b + 1)).toInt64 ∧ (T (b + 1)).toInt64 ≤ 57) = decide (48 ≤ (T (b + 1)).toInt ∧ (T (b + 1)).toInt ≤ 57) from min64 (a := 48) (b := 57), decide_eq_false gf]
      rw [show bI false = 0 from rfl]
      refine B_ne e228_83 t228_83 (fun q => absurd q (fun z => z rfl)) (fun _ => ?_)
      refine LA0 e228_86 ?_
      refine LA0 e228_87 ?_
      refine Gi e228_88 (o152 L) (amGi_of f805 (by decide)) ?_
      rw [amU_same]
      refine Cv1p e228_91 c228_222 (o152 L) (Nat.le_of_ble_eq_true rfl) (Nat.le_of_ble_eq_true rfl) (m_wrong (by (repeat rw [up_o (by omega)]); first | exact amU_same | exact h0)) ?_
      rintro _ Ia9 Ja9 Ra9 ⟨rfl, hI9, hJ9, hR9⟩
      have hI9 := hI9.symm
      subst hI9
      have hJ9 := hJ9.symm
      subst hJ9
      have hR9 := hR9.symm
      subst hR9
      refine Ki e228_94 kiconst_0 ?_
      exact Ri e228_95 rt228 (by
      have ef : figR T false b = .inl (b + 1) := by
        unfold figR
        rw [if_pos g32, if_neg (fun z => by first | exact absurd z.1 (by decide) | exact g45 z.2), if_neg gf]
      refine ⟨rfl, rfl, (((FrW.rf.up (by omega)).up (by omega)).up (by omega)), Or.inl ⟨_, ef, rfl, (by (repeat rw [up_o (by omega)]); first | exact amU_same | exact h0), (by (repeat rw [up_o (by omega)]); first | exact amU_same | exact h0)⟩⟩)
  · refine LA0 e228_0 ?_
    refine Gi e228_1 (o152 L) (amGi_of f806 (by decide)) ?_
    rw [h0]
    refine B_ne e228_4 t228_4 (fun q => absurd q (fun z => z rfl)) (fun _ => ?_)
    refine LA0 e228_7 ?_
    refine Cv0 e228_8 c228_221 (o152 L) (Nat.le_of_ble_eq_true rfl) (Nat.le_of_ble_eq_true rfl) ((m_here (b := b) hR (hT.w FrW.rf) ha (by omega))) ?_
    refine Ki e228_11 kbipush_32 ?_
    refine C_eq e228_13 t228_13 (fun q => absurd q (g32)) (fun _ => ?_)
    refine LA0 e228_16 ?_
    refine LA0 e228_17 ?_
    refine Gi e228_18 (o152 L) (amGi_of f805 (by decide)) ?_
    rw [ha]
    refine Cv1p e228_21 c228_222 (o152 L) (Nat.le_of_ble_eq_true rfl) (Nat.le_of_ble_eq_true rfl) (m_wrong (by (repeat rw [up_o (by omega)]); first | exact amU_same | exact h0)) ?_
    rintro _ Ia9 Ja9 Ra9 ⟨rfl, hI9, hJ9, hR9⟩
    have hI9 := hI9.symm
    subst hI9
    have hJ9 := hJ9.symm
    subst hJ9
    have hR9 := hR9.symm
    subst hR9
    refine Ki e228_24 kiconst_0 ?_
    exact Ri e228_25 rt228 (by
    have ef : figR T false b = .inl b := by
      unfold figR
      rw [if_neg g32]
    refine ⟨rfl, rfl, ((FrW.rf.up (by omega)).up (by omega)), Or.inl ⟨_, ef, rfl, (by (repeat rw [up_o (by omega)]); first | exact amU_same | exact h0), (by (repeat rw [up_o (by omega)]); first | exact amU_same | exact h0)⟩⟩)
end REF38
