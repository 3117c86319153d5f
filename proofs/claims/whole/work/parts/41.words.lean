/-! the tape: words, figures (printed by wip/whole/t41.py) -/
theorem bI_t {p : Prop} [Decidable p] (h : ¬ bI (decide p) = 0) : p := by
  by_cases g : p
  · exact g
  · exact absurd (by rw [decide_eq_false g]; rfl) h
theorem bI_f {p : Prop} [Decidable p] (h : ¬ ¬ bI (decide p) = 0) : ¬ p := fun g => h (by rw [decide_eq_true g]; decide)
/-- the letters of a word are at b, as far as m -/
def weN (T : Nat → Int32) (b : Nat) (u : List Int32) : Nat → Bool
  | 0 => true
  | m + 1 => weN T b u m && decide (u.getD m 0 = T (b + m))
theorem weN_no {T : Nat → Int32} {b : Nat} {u : List Int32} : ∀ {m k : Nat}, k ≤ m → weN T b u k = false → weN T b u m = false
  | 0, k, h, g => by
    have : k = 0 := by omega
    rw [this] at g
    exact g
  | m + 1, k, h, g => by
    by_cases e : k = m + 1
    · rw [← e]; exact g
    · rw [weN, weN_no (m := m) (by omega) g]; rfl
def weq (T : Nat → Int32) (b e i : Nat) : Bool := decide ((amTx i).length = e - b) && weN T b (amTx i) (amTx i).length
def wdN (T : Nat → Int32) (b e : Nat) : Nat → Nat → Option Nat
  | 0, _ => none
  | f + 1, i => if weq T b e i = true then some i else wdN T b e f (i + 1)
/-- the word from b to e -/
def wrdS (T : Nat → Int32) (b e : Nat) : Option Nat := wdN T b e 12 0
theorem wdN_lt {T : Nat → Int32} {b e : Nat} : ∀ {f i w : Nat}, wdN T b e f i = some w → i ≤ w ∧ w < i + f
  | 0, _, _, h => by cases h
  | f + 1, i, w, h => by
    rw [wdN] at h
    split at h
    · cases h; omega
    · have := wdN_lt h; omega
def wdI : Option Nat → Int32
  | some i => nI i
  | none => -1
theorem tx_len : ∀ i, i < 12 → (amTx i).length ≤ 7 := by decide +kernel
theorem nI_cl {k : Nat} (hk : k < 2 ^ 31) : (nI k).toNatClampNeg = k := by
  exact nI_clamp hk
abbrev isSg (t : Nat) : Prop := t = 6 ∨ t = 7 ∨ t = 11
/-- figures behind a word: the fault's place, or the place behind them and what they tell -/
def figS (T : Nat → Int32) (t b : Nat) : Nat ⊕ (Nat × Nat × Int32) :=
  if ¬ T b = 32 then .inl b
  else if ¬ isFg (T (b + 1)) then .inl (b + 1)
  else if ¬ isSg t ∧ ¬ isTw (nI t) then .inr (b + 1 + 1, dg (T (b + 1)), 0)
  else if ¬ T (b + 1 + 1) = 32 then .inl (b + 1 + 1)
  else if isSg t ∧ T (b + 1 + 1 + 1) = 45 then
    (if ¬ isFg (T (b + 1 + 1 + 1 + 1)) then .inl (b + 1 + 1 + 1 + 1) else .inr (b + 1 + 1 + 1 + 1 + 1, dg (T (b + 1)), -nI (dg (T (b + 1 + 1 + 1 + 1)))))
  else (if ¬ isFg (T (b + 1 + 1 + 1)) then .inl (b + 1 + 1 + 1) else .inr (b + 1 + 1 + 1 + 1, dg (T (b + 1)), nI (dg (T (b + 1 + 1 + 1)))))
theorem figS_n {T : Nat → Int32} {n t b : Nat} (hz : ∀ k, n ≤ k → T k = 0) (hb : b ≤ n) : (∀ e, figS T t b = .inl e → e ≤ n) ∧ ∀ k i s, figS T t b = .inr (k, i, s) → k ≤ n ∧ b < k ∧ i ≤ 9 := by
  have l0 : T b = 32 → b < n := fun z => T_lt hz (by rw [z]; decide)
  have l1 : ∀ k, isFg (T k) → k < n := fun k z => T_lt hz (fg_n0 z)
  have l2 : T (b + 1 + 1) = 32 → b + 1 + 1 < n := fun z => T_lt hz (by rw [z]; decide)
  have l3 : T (b + 1 + 1 + 1) = 45 → b + 1 + 1 + 1 < n := fun z => T_lt hz (by rw [z]; decide)
  unfold figS
  split
  · exact ⟨fun e h => (by cases h; exact hb), fun k i s h => (by cases h)⟩
  · rename_i g0
    have g0 := l0 (Decidable.not_not.mp g0)
    split
    · exact ⟨fun e h => (by cases h; omega), fun k i s h => (by cases h)⟩
    · rename_i g1
      have f1 := Decidable.not_not.mp g1
      have g1 := l1 _ f1
      have d1 := dg_le f1
      split
      · exact ⟨fun e h => (by cases h), fun k i s h => (by cases h; omega)⟩
      · split
        · exact ⟨fun e h => (by cases h; omega), fun k i s h => (by cases h)⟩
        · rename_i g2
          have g2 := l2 (Decidable.not_not.mp g2)
          split
          · rename_i g3
            have g3 := l3 g3.2
            split
            · exact ⟨fun e h => (by cases h; omega), fun k i s h => (by cases h)⟩
            · rename_i g4
              have g4 := l1 _ (Decidable.not_not.mp g4)
              exact ⟨fun e h => (by cases h), fun k i s h => (by cases h; omega)⟩
          · split
            · exact ⟨fun e h => (by cases h; omega), fun k i s h => (by cases h)⟩
            · rename_i g4
              have g4 := l1 _ (Decidable.not_not.mp g4)
              exact ⟨fun e h => (by cases h), fun k i s h => (by cases h; omega)⟩
theorem sub48 : ∀ d, d < 10 → (48 : Int32) - nI (48 + d) = -nI d := by decide
/-- what figures() answers and leaves -/
def FgP (I : amI) (t : Nat) (o : Nat ⊕ (Nat × Nat × Int32)) (v : Option Value) (I' : amI) : Prop := FrT I I' ∧ I' 143 3 = I 143 3 ∧ ((∃ e, o = .inl e ∧ v = some (.int (fI e))) ∨ ∃ k i s, o = .inr (k, i, s) ∧ v = some (.int (nI k)) ∧ I' 143 4 = nI i ∧ (isSg t ∨ isTw (nI t) → I' 143 5 = s))
section WORDS
variable {L : Nat} {I : amI} {J : amJ} {R : amR} {Q : amQ} {T : Nat → Int32} {n k b c e i t v : Nat} {p : Po}
set_option maxHeartbeats 2000000 in
theorem t_word (hi : i < 12) : Rv 90 [.int (nI i)] (amSH L) I J R (.ref (1000000 + i)) := by
  intro Q hQ
  have h : i = 0 ∨ i = 1 ∨ i = 2 ∨ i = 3 ∨ i = 4 ∨ i = 5 ∨ i = 6 ∨ i = 7 ∨ i = 8 ∨ i = 9 ∨ i = 10 ∨ i = 11 := by omega
  rcases h with rfl | rfl | rfl | rfl | rfl | rfl | rfl | rfl | rfl | rfl | rfl | rfl
  · refine LI0 e90_0 ?_
    refine Tin e90_1 0 (nI_toInt (by decide)) (by decide) rfl (show amTg 1 59 = some 60 from by decide) ?_
    refine Ks e90_60 (by decide) ?_
    exact Ra e90_62 rt90 (hQ)
  · refine LI0 e90_0 ?_
    refine Tin e90_1 1 (nI_toInt (by decide)) (by decide) rfl (show amTg 1 62 = some 63 from by decide) ?_
    refine Ks e90_63 (by decide) ?_
    exact Ra e90_65 rt90 (hQ)
  · refine LI0 e90_0 ?_
    refine Tin e90_1 2 (nI_toInt (by decide)) (by decide) rfl (show amTg 1 65 = some 66 from by decide) ?_
    refine Ks e90_66 (by decide) ?_
    exact Ra e90_68 rt90 (hQ)
  · refine LI0 e90_0 ?_
    refine Tin e90_1 3 (nI_toInt (by decide)) (by decide) rfl (show amTg 1 68 = some 69 from by decide) ?_
    refine Ks e90_69 (by decide) ?_
    exact Ra e90_71 rt90 (hQ)
  · refine LI0 e90_0 ?_
    refine Tin e90_1 4 (nI_toInt (by decide)) (by decide) rfl (show amTg 1 71 = some 72 from by decide) ?_
    refine Ks e90_72 (by decide) ?_
    exact Ra e90_74 rt90 (hQ)
  · refine LI0 e90_0 ?_
    refine Tin e90_1 5 (nI_toInt (by decide)) (by decide) rfl (show amTg 1 74 = some 75 from by decide) ?_
    refine Ks e90_75 (by decide) ?_
    exact Ra e90_77 rt90 (hQ)
  · refine LI0 e90_0 ?_
    refine Tin e90_1 6 (nI_toInt (by decide)) (by decide) rfl (show amTg 1 77 = some 78 from by decide) ?_
    refine Ks e90_78 (by decide) ?_
    exact Ra e90_80 rt90 (hQ)
  · refine LI0 e90_0 ?_
    refine Tin e90_1 7 (nI_toInt (by decide)) (by decide) rfl (show amTg 1 80 = some 81 from by decide) ?_
    refine Ks e90_81 (by decide) ?_
    exact Ra e90_83 rt90 (hQ)
  · refine LI0 e90_0 ?_
    refine Tin e90_1 8 (nI_toInt (by decide)) (by decide) rfl (show amTg 1 83 = some 84 from by decide) ?_
    refine Ks e90_84 (by decide) ?_
    exact Ra e90_86 rt90 (hQ)
  · refine LI0 e90_0 ?_
    refine Tin e90_1 9 (nI_toInt (by decide)) (by decide) rfl (show amTg 1 86 = some 87 from by decide) ?_
    refine Ks e90_87 (by decide) ?_
    exact Ra e90_89 rt90 (hQ)
  · refine LI0 e90_0 ?_
    refine Tin e90_1 10 (nI_toInt (by decide)) (by decide) rfl (show amTg 1 89 = some 90 from by decide) ?_
    refine Ks e90_90 (by decide) ?_
    exact Ra e90_92 rt90 (hQ)
  · refine LI0 e90_0 ?_
    refine Tout e90_1 (show amTg 1 92 = some 93 from by decide) (by rw [nI_toInt (by decide)]; decide) ?_
    refine Ks e90_93 (by decide) ?_
    exact Ra e90_95 rt90 (hQ)
set_option maxHeartbeats 2000000 in
theorem t_word_in {g0 : Bool} (hR : amRok R) (hT : TT I T n) (hi : i < 12) (hb : b ≤ 200) (hQ : ∀ m, Ex 89 81 [some (.ref 143), some (.int (nI b)), some (.int (nI e)), some (.int (nI i)), some (.ref (1000000 + i)), some (.int (bI (g0 && weN T b (amTx i) (amTx i).length))), some (.int (nI m))] [] (amSH L) I J R Q) : ∀ (m k : Nat) (f : Bool), (amTx i).length - k < m → k ≤ (amTx i).length → f = (g0 && weN T b (amTx i) k) → Ex 89 35 [some (.ref 143), some (.int (nI b)), some (.int (nI e)), some (.int (nI i)), some (.ref (1000000 + i)), some (.int (bI f)), some (.int (nI k))] [] (amSH L) I J R Q := by
  have h7 := tx_len i hi
  intro m
  induction m with
  | zero => intro k f h; omega
  | succ m ih =>
    intro k f h hk hf
    by_cases gk : k = (amTx i).length
    · subst gk
      rw [← hf] at hQ
      refine LI6 e89_35 ?_
      refine LA4 e89_37 ?_
      refine Slen (a := i) e89_39 (Nat.le_of_ble_eq_true rfl) (by omega) ?_
      refine CN_ge (a := (amTx i).length) (b := (amTx i).length) e89_42 t89_42 rfl rfl (by omega) (by omega) (fun _ => ?_) (fun q => by omega)
      exact hQ _
    · by_cases gf : f = true
      · subst gf
        have gw : g0 = true ∧ weN T b (amTx i) k = true := by
          have := hf.symm
          rw [Bool.and_eq_true] at this
          exact this
        show Ex 89 35 [some (.ref 143), some (.int (nI b)), some (.int (nI e)), some (.int (nI i)), some (.ref (1000000 + i)), some (.int 1), some (.int (nI k))] [] (amSH L) I J R Q
        refine LI6 e89_35 ?_
        refine LA4 e89_37 ?_
        refine Slen (a := i) e89_39 (Nat.le_of_ble_eq_true rfl) (by omega) ?_
        refine CN_ge (a := k) (b := (amTx i).length) e89_42 t89_42 rfl rfl (by omega) (by omega) (fun q => absurd q (by omega)) (fun _ => ?_)
        refine LI5 e89_45 ?_
        refine B_eq e89_47 t89_47 (fun q => absurd q (by decide)) (fun _ => ?_)
        refine LA4 e89_50 ?_
        refine LI6 e89_52 ?_
        refine Sat (a := i) e89_54 (Nat.le_of_ble_eq_true rfl) (by omega) (nI_nn (by omega)) (by rw [nI_cl (by omega)]; omega) ?_
        rw [nI_cl (by omega)]
        refine LA0 e89_57 ?_
        refine LI1 e89_58 ?_
        refine LI6 e89_59 ?_
        refine IaddN (a := b) (b := k) e89_61 rfl rfl ?_
        refine Cv1 e89_62 c89_94 (o143 L) (Nat.le_of_ble_eq_true rfl) (Nat.le_of_ble_eq_true rfl) ((tq_at hR hT (by omega))) ?_
        refine C_ne e89_65 t89_65 (fun h65 => ?_) (fun h65 => ?_)
        · refine Ki e89_72 kiconst_0 ?_
          refine SI5 e89_73 rfl ?_
          refine IncN6 (m := k) e89_75 rfl ?_
          refine Go e89_78 t89_78 ?_
          exact ih (k + 1) false (by omega) (by omega) (by rw [weN, gw.1, gw.2, decide_eq_false h65]; rfl)
        · refine Ki e89_68 kiconst_1 ?_
          refine Go e89_69 t89_69 ?_
          refine SI5 e89_73 rfl ?_
          refine IncN6 (m := k) e89_75 rfl ?_
          refine Go e89_78 t89_78 ?_
          exact ih (k + 1) true (by omega) (by omega) (by rw [weN, gw.1, gw.2, decide_eq_true (Decidable.not_not.mp h65)]; rfl)
      · rw [Bool.not_eq_true] at gf
        subst gf
        have gw : (g0 && weN T b (amTx i) (amTx i).length) = false := by
          by_cases z : g0 = true
          · rw [z, Bool.true_and] at hf ⊢
            exact weN_no hk hf.symm
          · rw [Bool.not_eq_true] at z
            rw [z]; rfl
        rw [gw] at hQ
        show Ex 89 35 [some (.ref 143), some (.int (nI b)), some (.int (nI e)), some (.int (nI i)), some (.ref (1000000 + i)), some (.int 0), some (.int (nI k))] [] (amSH L) I J R Q
        refine LI6 e89_35 ?_
        refine LA4 e89_37 ?_
        refine Slen (a := i) e89_39 (Nat.le_of_ble_eq_true rfl) (by omega) ?_
        refine CN_ge (a := k) (b := (amTx i).length) e89_42 t89_42 rfl rfl (by omega) (by omega) (fun q => absurd q (by omega)) (fun _ => ?_)
        refine LI5 e89_45 ?_
        refine B_eq e89_47 t89_47 (fun _ => ?_) (fun q => absurd (rfl) q)
        exact hQ _
set_option maxHeartbeats 2000000 in
theorem t_word_lp (hR : amRok R) (hT : TT I T n) (hb : b ≤ 200) (he : e ≤ 200) (hbe : b ≤ e) : ∀ (f i : Nat) (l4 l5 l6 : Option Value), i + f = 12 → amClr l4 = l4 → amClr l5 = l5 → Q (some (.int (wdI (wdN T b e f i)))) I J R → Ex 89 2 [some (.ref 143), some (.int (nI b)), some (.int (nI e)), some (.int (nI i)), l4, l5, l6] [] (amSH L) I J R Q := by
  intro f
  induction f with
  | zero =>
    intro i l4 l5 l6 h h4 h5 hQ
    refine LI3 e89_2 ?_
    refine Ki e89_3 kbipush_12 ?_
    refine CN_ge (a := i) (b := 12) e89_5 t89_5 rfl (by decide) (by omega) (by omega) (fun _ => ?_) (fun q => by omega)
    refine Ki e89_94 kiconst_m1 ?_
    exact Ri e89_95 rt89 (hQ)
  | succ f ih =>
    intro i l4 l5 l6 h h4 h5 hQ
    have hi : i < 12 := by omega
    have h7 := tx_len i hi
    rw [wdN] at hQ
    have hin : ∀ (g0 : Bool), g0 = decide ((amTx i).length = e - b) → Ex 89 35 [some (.ref 143), some (.int (nI b)), some (.int (nI e)), some (.int (nI i)), some (.ref (1000000 + i)), some (.int (bI g0)), some (.int (nI 0))] [] (amSH L) I J R Q := fun g0 hg => t_word_in hR hT hi hb (fun m => by
      have ew : (g0 && weN T b (amTx i) (amTx i).length) = weq T b e i := by rw [hg]; rfl
      rw [ew]
      by_cases g : weq T b e i = true
      · rw [g]
        rw [if_pos g] at hQ
        show Ex 89 81 [some (.ref 143), some (.int (nI b)), some (.int (nI e)), some (.int (nI i)), some (.ref (1000000 + i)), some (.int 1), some (.int (nI m))] [] (amSH L) I J R Q
        refine LI5 e89_81 ?_
        refine B_eq e89_83 t89_83 (fun q => absurd q (by decide)) (fun _ => ?_)
        refine LI3 e89_86 ?_
        exact Ri e89_87 rt89 (hQ)
      · rw [if_neg g] at hQ
        rw [Bool.not_eq_true] at g
        rw [g]
        show Ex 89 81 [some (.ref 143), some (.int (nI b)), some (.int (nI e)), some (.int (nI i)), some (.ref (1000000 + i)), some (.int 0), some (.int (nI m))] [] (amSH L) I J R Q
        refine LI5 e89_81 ?_
        refine B_eq e89_83 t89_83 (fun _ => ?_) (fun q => absurd (rfl) q)
        refine IncN3 (m := i) e89_88 rfl ?_
        refine Go e89_91 t89_91 ?_
        exact ih (i + 1) _ _ _ (by omega) rfl rfl hQ) 8 0 _ (by omega) (Nat.zero_le _) (by rw [weN, Bool.and_true])
    refine LI3 e89_2 ?_
    refine Ki e89_3 kbipush_12 ?_
    refine CN_ge (a := i) (b := 12) e89_5 t89_5 rfl (by decide) (by omega) (by omega) (fun q => absurd q (by omega)) (fun _ => ?_)
    refine LI3 e89_8 ?_
    refine Cs1 e89_9 c89_90 (Nat.le_of_ble_eq_true rfl) (Nat.le_of_ble_eq_true rfl) ((t_word hi)) ?_
    refine SA4 e89_12 rfl ?_
    refine LA4 e89_14 ?_
    refine Slen (a := i) e89_16 (Nat.le_of_ble_eq_true rfl) (by omega) ?_
    refine LI2 e89_19 ?_
    refine LI1 e89_20 ?_
    refine IsubN (a := e) (b := b) e89_21 rfl rfl (by omega) ?_
    refine CN_ne (a := (amTx i).length) (b := (e - b)) e89_22 t89_22 rfl rfl (by omega) (by omega) (fun h22 => ?_) (fun h22 => ?_)
    · refine Ki e89_29 kiconst_0 ?_
      refine SI5 e89_30 rfl ?_
      refine Ki e89_32 kiconst_0 ?_
      refine SI6 e89_33 rfl ?_
      exact hin false (by rw [decide_eq_false h22])
    · refine Ki e89_25 kiconst_1 ?_
      refine Go e89_26 t89_26 ?_
      refine SI5 e89_30 rfl ?_
      refine Ki e89_32 kiconst_0 ?_
      refine SI6 e89_33 rfl ?_
      exact hin true (by rw [decide_eq_true h22])
theorem t_between (hR : amRok R) (hT : TT I T n) (hb : b ≤ 200) (he : e ≤ 200) (hbe : b ≤ e) : Rv 89 [.ref 143, .int (nI b), .int (nI e)] (amSH L) I J R (.int (wdI (wrdS T b e))) := by
  intro Q hQ
  show Ex 89 0 [some (.ref 143), some (.int (nI b)), some (.int (nI e)), none, none, none, none] [] (amSH L) I J R _
  refine Ki e89_0 kiconst_0 ?_
  refine SI3 e89_1 rfl ?_
  exact t_word_lp hR hT hb he hbe 12 0 _ _ _ rfl rfl rfl hQ
end WORDS
