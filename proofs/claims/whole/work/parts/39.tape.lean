/-! the tape: figures, a term, a text (printed by wip/whole/t39.py) -/
/-- the tape's bytes, 0 behind the end -/
def TT (I : amI) (T : Nat → Int32) (n : Nat) : Prop := I 143 1 = nI n ∧ n ≤ 120 ∧ (∀ k, k < n → I 144 k = T k) ∧ ∀ k, n ≤ k → T k = 0
/-- of the tape's object only places from 3 on may change -/
def FrT (I I' : amI) : Prop := (∀ y, y ≠ 143 → I' y = I y) ∧ ∀ k, k < 3 → I' 143 k = I 143 k
theorem FrT.rf {I : amI} : FrT I I := ⟨fun _ _ => rfl, fun _ _ => rfl⟩
theorem FrT.tr {I I1 I2 : amI} (h1 : FrT I I1) (h2 : FrT I1 I2) : FrT I I2 := ⟨fun y a => (h2.1 y a).trans (h1.1 y a), fun k a => (h2.2 k a).trans (h1.2 k a)⟩
theorem FrT.up {I I1 : amI} {k : Nat} {v : Int32} (h1 : FrT I I1) (hk : 3 ≤ k) : FrT I (amU I1 143 k v) := ⟨fun y a => by rw [← h1.1 y a]; funext i; rw [amU_ne a], fun i a => by rw [amU_ni (by omega)]; exact h1.2 i a⟩
theorem TT.fr {I I1 : amI} {T : Nat → Int32} {n : Nat} (h : TT I T n) (hf : FrT I I1) : TT I1 T n := ⟨by rw [hf.2 1 (by omega)]; exact h.1, h.2.1, fun k hk => by rw [hf.1 144 (by decide)]; exact h.2.2.1 k hk, h.2.2.2⟩
/-- a fault's answer -/
def fI (k : Nat) : Int32 := -1000 - nI k
theorem fI_neg : ∀ k, k < 300 → fI k < 0 := by decide +kernel
abbrev isFg (x : Int32) : Prop := 48 ≤ x.toInt ∧ x.toInt ≤ 57
def dg (x : Int32) : Nat := x.toInt.toNat - 48
theorem dg_nI {x : Int32} (h : isFg x) : x = nI (48 + dg x) := by
  rw [← Int32.toInt_inj, nI_toInt (by unfold dg; omega)]
  unfold dg
  omega
theorem dg_le {x : Int32} (h : isFg x) : dg x ≤ 9 := by unfold dg; omega
/-- the figures from k on, m at most: where they end, what they tell behind v -/
def fgN (T : Nat → Int32) : Nat → Nat → Nat → Nat × Nat
  | 0, k, v => (k, v)
  | m + 1, k, v => if isFg (T k) then fgN T m (k + 1) (v * 10 + dg (T k)) else (k, v)
theorem fgN_le {T : Nat → Int32} : ∀ {m k v : Nat}, (fgN T m k v).2 < (v + 1) * 10 ^ m ∧ k ≤ (fgN T m k v).1 ∧ (fgN T m k v).1 ≤ k + m
  | 0, k, v => by simp [fgN]
  | m + 1, k, v => by
    unfold fgN
    split
    · rename_i g
      have h := fgN_le (T := T) (m := m) (k := k + 1) (v := v * 10 + dg (T k))
      have h2 := dg_le g
      refine ⟨Nat.lt_of_lt_of_le h.1 ?_, by omega, by omega⟩
      rw [Nat.pow_succ, Nat.mul_comm (10 ^ m), ← Nat.mul_assoc]
      exact Nat.mul_le_mul_right _ (by omega)
    · have h1 : 1 ≤ 10 ^ (m + 1) := Nat.pow_pos (by decide)
      have h2 : (v + 1) * 1 ≤ (v + 1) * 10 ^ (m + 1) := Nat.mul_le_mul_left _ h1
      exact ⟨by show v < _; omega, by show k ≤ k; omega, by show k ≤ _; omega⟩
/-- a TERM: the fault's place, or the place behind it, its power, its size -/
def trmS (T : Nat → Int32) (b : Nat) : Nat ⊕ (Nat × Nat × Nat) :=
  if T b = 48 then .inl b
  else if ¬ T (fgN T 3 b 0).1 = 120 then
    if (fgN T 3 b 0).1 = b then .inl b else .inr ((fgN T 3 b 0).1, 0, (fgN T 3 b 0).2)
  else if ¬ T ((fgN T 3 b 0).1 + 1) = 94 then .inr ((fgN T 3 b 0).1 + 1, 1, if (fgN T 3 b 0).1 = b then 1 else (fgN T 3 b 0).2)
  else if 50 ≤ (T ((fgN T 3 b 0).1 + 1 + 1)).toInt ∧ (T ((fgN T 3 b 0).1 + 1 + 1)).toInt ≤ 52 then .inr ((fgN T 3 b 0).1 + 1 + 1 + 1, dg (T ((fgN T 3 b 0).1 + 1 + 1)), if (fgN T 3 b 0).1 = b then 1 else (fgN T 3 b 0).2)
  else .inl ((fgN T 3 b 0).1 + 1 + 1)
/-- what term() answers and leaves -/
def TmP (I : amI) (o : Nat ⊕ (Nat × Nat × Nat)) (v : Option Value) (I' : amI) : Prop := FrT I I' ∧ I' 143 3 = I 143 3 ∧ ((∃ e, o = .inl e ∧ v = some (.int (fI e))) ∨ ∃ k r s, o = .inr (k, r, s) ∧ v = some (.int (nI k)) ∧ I' 143 6 = nI r ∧ I' 143 7 = nI s)
section TAPE
variable {L : Nat} {I : amI} {J : amJ} {R : amR} {Q : amQ} {T : Nat → Int32} {n k b c v : Nat}
theorem tq_at (hR : amRok R) (hT : TT I T n) (hk : k < 2 ^ 31) : Rv 94 [.ref 143, .int (nI k)] (amSH L) I J R (.int (T k)) := by
  have h := t_at (L := L) (J := J) (x := nI k) hR hT.1 hT.2.1
  have e : byt I 144 n (nI k) = T k := by
    unfold byt
    rw [nI_toInt hk]
    by_cases g : k < n
    · rw [if_pos ⟨by omega, by omega⟩]
      exact hT.2.2.1 k g
    · rw [if_neg (by omega), hT.2.2.2 k (by omega)]
  rw [e] at h
  exact h
theorem t_fault : Rv 96 [.int (nI k)] (amSH L) I J R (.int (fI k)) := by
  intro Q hQ
  show Ex 96 0 [some (.int (nI k))] [] (amSH L) I J R _
  refine Ki e96_0 ksipush_m1000 ?_
  refine LI0 e96_3 ?_
  refine Isub e96_4 ?_
  exact Ri e96_5 rt96 (hQ)
theorem t_isFig (hR : amRok R) (hT : TT I T n) (hk : k < 2 ^ 31) : Rv 95 [.ref 143, .int (nI k)] (amSH L) I J R (.int (bI (decide (isFg (T k))))) := by
  intro Q hQ
  show Ex 95 0 [some (.ref 143), some (.int (nI k))] [] (amSH L) I J R _
  refine LA0 e95_0 ?_
  refine LI1 e95_1 ?_
  refine Cv1 e95_2 c95_94 (o143 L) (Nat.le_of_ble_eq_true rfl) (Nat.le_of_ble_eq_true rfl) ((tq_at hR hT (by omega))) ?_
  refine Ki e95_5 kbipush_48 ?_
  refine C_lt e95_7 t95_7 (fun h7 => ?_) (fun h7 => ?_)
  · refine Ki e95_24 kiconst_0 ?_
    exact Rz e95_25 rt95 (by decide) (by
    have e : bI (decide (isFg (T k))) = 0 := by
      rw [decide_eq_false]
      · rfl
      · simp only [i32lt, i32le, show (48 : Int32).toInt = 48 from rfl, show (57 : Int32).toInt = 57 from rfl] at *
        omega
    rw [e] at hQ
    exact hQ)
  · refine LA0 e95_10 ?_
    refine LI1 e95_11 ?_
    refine Cv1 e95_12 c95_94 (o143 L) (Nat.le_of_ble_eq_true rfl) (Nat.le_of_ble_eq_true rfl) ((tq_at hR hT (by omega))) ?_
    refine Ki e95_15 kbipush_57 ?_
    refine C_gt e95_17 t95_17 (fun h17 => ?_) (fun h17 => ?_)
    · refine Ki e95_24 kiconst_0 ?_
      exact Rz e95_25 rt95 (by decide) (by
      have e : bI (decide (isFg (T k))) = 0 := by
        rw [decide_eq_false]
        · rfl
        · simp only [i32lt, i32le, show (48 : Int32).toInt = 48 from rfl, show (57 : Int32).toInt = 57 from rfl] at *
          omega
      rw [e] at hQ
      exact hQ)
    · refine Ki e95_20 kiconst_1 ?_
      refine Go e95_21 t95_21 ?_
      exact Rz e95_25 rt95 (by decide) (by
      have e : bI (decide (isFg (T k))) = 1 := by
        rw [decide_eq_true]
        · rfl
        · simp only [i32lt, i32le, show (48 : Int32).toInt = 48 from rfl, show (57 : Int32).toInt = 57 from rfl] at *
          omega
      rw [e] at hQ
      exact hQ)
set_option maxHeartbeats 2000000 in
theorem t_figs (hR : amRok R) : ∀ (m k v : Nat) (I : amI), TT I T n → k + m = b + 3 → b ≤ k → b ≤ 200 → I 143 7 = nI v → I 143 6 = 0 → (∀ I', FrT I I' → I' 143 3 = I 143 3 → I' 143 7 = nI (fgN T m k v).2 → I' 143 6 = 0 → Ex 93 68 [some (.ref 143), some (.int (nI b)), some (.int (nI (fgN T m k v).1))] [] (amSH L) I' J R Q) → Ex 93 27 [some (.ref 143), some (.int (nI b)), some (.int (nI k))] [] (amSH L) I J R Q := by
  intro m
  induction m with
  | zero =>
    intro k v I hT hk hb hb2 h7 h6 hQ
    refine LI2 e93_27 ?_
    refine LI1 e93_28 ?_
    refine IsubN (a := k) (b := b) e93_29 rfl rfl (by omega) ?_
    refine Ki e93_30 kiconst_3 ?_
    refine CN_ge (a := (k - b)) (b := 3) e93_31 t93_31 rfl (by decide) (by omega) (by omega) (fun _ => ?_) (fun q => by omega)
    exact hQ I FrT.rf rfl h7 h6
  | succ m ih =>
    intro k v I hT hk hb hb2 h7 h6 hQ
    by_cases g : isFg (T k)
    · have e : fgN T (m + 1) k v = fgN T m (k + 1) (v * 10 + dg (T k)) := by rw [fgN, if_pos g]
      rw [e] at hQ
      have hd := dg_le g
      refine LI2 e93_27 ?_
      refine LI1 e93_28 ?_
      refine IsubN (a := k) (b := b) e93_29 rfl rfl (by omega) ?_
      refine Ki e93_30 kiconst_3 ?_
      refine CN_ge (a := (k - b)) (b := 3) e93_31 t93_31 rfl (by decide) (by omega) (by omega) (fun q => absurd q (by omega)) (fun _ => ?_)
      refine LA0 e93_34 ?_
      refine LI2 e93_35 ?_
      refine Cv1 e93_36 c93_95 (o143 L) (Nat.le_of_ble_eq_true rfl) (Nat.le_of_ble_eq_true rfl) (((show bI (decide (isFg (T k))) = 1 from by rw [decide_eq_true g]; rfl) ▸ t_isFig hR hT (by omega))) ?_
      refine B_eq e93_39 t93_39 (fun q => absurd q (by decide)) (fun _ => ?_)
      refine LA0 e93_42 ?_
      refine LA0 e93_43 ?_
      refine Gi e93_44 (o143 L) (amGi_of f647 (by decide)) ?_
      rw [h7]
      refine Ki e93_47 kbipush_10 ?_
      refine ImulN (a := v) (b := 10) e93_49 rfl (by decide) ?_
      refine LA0 e93_50 ?_
      refine LI2 e93_51 ?_
      refine Cv1 e93_52 c93_94 (o143 L) (Nat.le_of_ble_eq_true rfl) (Nat.le_of_ble_eq_true rfl) ((tq_at hR hT (by omega))) ?_
      rw [dg_nI g]
      refine IaddN (a := (v * 10)) (b := (48 + dg (T k))) e93_55 rfl rfl ?_
      refine Ki e93_56 kbipush_48 ?_
      refine IsubN (a := ((v * 10) + (48 + dg (T k)))) (b := 48) e93_58 rfl (by decide) (by omega) ?_
      refine Pi e93_59 (o143 L) f647 ?_
      refine IncN2 (m := k) e93_62 rfl ?_
      refine Go e93_65 t93_65 ?_
      have e7 : v * 10 + (48 + dg (T k)) - 48 = v * 10 + dg (T k) := by omega
      rw [e7]
      exact ih (k + 1) _ _ (hT.fr (FrT.up FrT.rf (by decide))) (by omega) (by omega) hb2 amU_same (by rw [amU_ni (by decide)]; exact h6) (fun I' q1 q2 q3 q4 => hQ I' ((FrT.up FrT.rf (by decide)).tr q1) (by rw [q2, amU_ni (by decide)]) q3 q4)
    · have e : fgN T (m + 1) k v = (k, v) := by rw [fgN, if_neg g]
      rw [e] at hQ
      refine LI2 e93_27 ?_
      refine LI1 e93_28 ?_
      refine IsubN (a := k) (b := b) e93_29 rfl rfl (by omega) ?_
      refine Ki e93_30 kiconst_3 ?_
      refine CN_ge (a := (k - b)) (b := 3) e93_31 t93_31 rfl (by decide) (by omega) (by omega) (fun q => absurd q (by omega)) (fun _ => ?_)
      refine LA0 e93_34 ?_
      refine LI2 e93_35 ?_
      refine Cv1 e93_36 c93_95 (o143 L) (Nat.le_of_ble_eq_true rfl) (Nat.le_of_ble_eq_true rfl) (((show bI (decide (isFg (T k))) = 0 from by rw [decide_eq_false g]; rfl) ▸ t_isFig hR hT (by omega))) ?_
      refine B_eq e93_39 t93_39 (fun _ => ?_) (fun q => absurd (rfl) q)
      exact hQ I FrT.rf rfl h7 h6
set_option maxHeartbeats 2000000 in
theorem t_rest {I2 : amI} {e s : Nat} (hR : amRok R) (hT : TT I2 T n) (h17 : ¬ T b = 48) (hE : fgN T 3 b 0 = (e, s)) (he : e ≤ 250) (hb : b ≤ 200) (hF : FrT I I2) (h3 : I2 143 3 = I 143 3) (h7 : I2 143 7 = nI s) (h6 : I2 143 6 = 0) : Ex 93 68 [some (.ref 143), some (.int (nI b)), some (.int (nI e))] [] (amSH L) I2 J R (fun v I' J' R' => TmP I (trmS T b) v I' ∧ J' = J ∧ R' = R) := by
  refine LA0 e93_68 ?_
  refine LI2 e93_69 ?_
  refine Cv1 e93_70 c93_94 (o143 L) (Nat.le_of_ble_eq_true rfl) (Nat.le_of_ble_eq_true rfl) ((tq_at hR hT (by omega))) ?_
  refine Ki e93_73 kbipush_120 ?_
  refine C_eq e93_75 t93_75 (fun h75 => ?_) (fun h75 => ?_)
  · refine LI2 e93_92 ?_
    refine LI1 e93_93 ?_
    refine CN_ne (a := e) (b := b) e93_94 t93_94 rfl rfl (by omega) (by omega) (fun h94 => ?_) (fun h94 => ?_)
    · refine LA0 e93_102 ?_
      refine Ki e93_103 kiconst_1 ?_
      refine Pi e93_104 (o143 L) f646 ?_
      refine IncN2 (m := e) e93_107 rfl ?_
      refine LA0 e93_110 ?_
      refine LI2 e93_111 ?_
      refine Cv1 e93_112 c93_94 (o143 L) (Nat.le_of_ble_eq_true rfl) (Nat.le_of_ble_eq_true rfl) ((tq_at hR (hT.fr (FrT.up FrT.rf (by decide))) (by omega))) ?_
      refine Ki e93_115 kbipush_94 ?_
      refine C_eq e93_117 t93_117 (fun h117 => ?_) (fun h117 => ?_)
      · refine IncN2 (m := (e + 1)) e93_122 rfl ?_
        refine LA0 e93_125 ?_
        refine LI2 e93_126 ?_
        refine Cv1 e93_127 c93_94 (o143 L) (Nat.le_of_ble_eq_true rfl) (Nat.le_of_ble_eq_true rfl) ((tq_at hR (hT.fr (FrT.up FrT.rf (by decide))) (by omega))) ?_
        refine Ki e93_130 kbipush_50 ?_
        refine C_lt e93_132 t93_132 (fun h132 => ?_) (fun h132 => ?_)
        · refine LI2 e93_145 ?_
          refine Cs1 e93_146 c93_96 (Nat.le_of_ble_eq_true rfl) (Nat.le_of_ble_eq_true rfl) (t_fault) ?_
          exact Ri e93_149 rt93 (by
          refine ⟨⟨(FrT.up hF (by decide)), by rw [amU_ni (by decide)]; exact h3, ?_⟩, rfl, rfl⟩
          unfold trmS
          rw [hE, if_neg h17]
          dsimp only
          rw [if_neg (fun z => z h75), if_neg (fun z => z h117), if_neg (fun z => by simp only [i32lt, i32le, show (50 : Int32).toInt = 50 from rfl, show (52 : Int32).toInt = 52 from rfl] at *; omega)]
          exact Or.inl ⟨_, rfl, rfl⟩)
        · refine LA0 e93_135 ?_
          refine LI2 e93_136 ?_
          refine Cv1 e93_137 c93_94 (o143 L) (Nat.le_of_ble_eq_true rfl) (Nat.le_of_ble_eq_true rfl) ((tq_at hR (hT.fr (FrT.up FrT.rf (by decide))) (by omega))) ?_
          refine Ki e93_140 kbipush_52 ?_
          refine C_le e93_142 t93_142 (fun h142 => ?_) (fun h142 => ?_)
          · refine LA0 e93_150 ?_
            refine LA0 e93_151 ?_
            refine LI2 e93_152 ?_
            refine Cv1 e93_153 c93_94 (o143 L) (Nat.le_of_ble_eq_true rfl) (Nat.le_of_ble_eq_true rfl) ((tq_at hR (hT.fr (FrT.up FrT.rf (by decide))) (by omega))) ?_
            refine Ki e93_156 kbipush_48 ?_
            have gf : isFg (T (e + 1 + 1)) := by
              simp only [i32lt, i32le, show (50 : Int32).toInt = 50 from rfl, show (52 : Int32).toInt = 52 from rfl] at h132 h142
              exact ⟨by omega, by omega⟩
            rw [dg_nI gf, Nat.add_comm 48, show nI (dg (T (e + 1 + 1)) + 48) = nI (48 + dg (T (e + 1 + 1))) by rw [Nat.add_comm]]
            refine IsubN (a := (48 + dg (T (e + 1 + 1)))) (b := 48) e93_158 rfl (by decide) (by omega) ?_
            refine Pi e93_159 (o143 L) f646 ?_
            refine LI2 e93_162 ?_
            refine Ki e93_163 kiconst_1 ?_
            refine IaddN (a := ((e + 1) + 1)) (b := 1) e93_164 rfl (by decide) ?_
            exact Ri e93_165 rt93 (by
            refine ⟨⟨(FrT.up (FrT.up hF (by decide)) (by decide)), by rw [amU_ni (by decide), amU_ni (by decide)]; exact h3, ?_⟩, rfl, rfl⟩
            unfold trmS
            rw [hE, if_neg h17]
            dsimp only
            rw [if_neg (fun z => z h75), if_neg (fun z => z h117), if_pos (by simp only [i32lt, i32le, show (50 : Int32).toInt = 50 from rfl, show (52 : Int32).toInt = 52 from rfl] at *; omega), if_neg h94]
            exact Or.inr ⟨e + 1 + 1 + 1, _, _, rfl, rfl, by rw [amU_same, Nat.add_sub_cancel_left], by rw [amU_ni (by decide), amU_ni (by decide)]; exact h7⟩)
          · refine LI2 e93_145 ?_
            refine Cs1 e93_146 c93_96 (Nat.le_of_ble_eq_true rfl) (Nat.le_of_ble_eq_true rfl) (t_fault) ?_
            exact Ri e93_149 rt93 (by
            refine ⟨⟨(FrT.up hF (by decide)), by rw [amU_ni (by decide)]; exact h3, ?_⟩, rfl, rfl⟩
            unfold trmS
            rw [hE, if_neg h17]
            dsimp only
            rw [if_neg (fun z => z h75), if_neg (fun z => z h117), if_neg (fun z => by simp only [i32lt, i32le, show (50 : Int32).toInt = 50 from rfl, show (52 : Int32).toInt = 52 from rfl] at *; omega)]
            exact Or.inl ⟨_, rfl, rfl⟩)
      · refine LI2 e93_120 ?_
        exact Ri e93_121 rt93 (by
        refine ⟨⟨(FrT.up hF (by decide)), by rw [amU_ni (by decide)]; exact h3, ?_⟩, rfl, rfl⟩
        unfold trmS
        rw [hE, if_neg h17]
        dsimp only
        rw [if_neg (fun z => z h75), if_pos h117, if_neg h94]
        exact Or.inr ⟨e + 1, 1, _, rfl, rfl, by rw [amU_same]; rfl, by rw [amU_ni (by decide)]; exact h7⟩)
    · refine LA0 e93_97 ?_
      refine Ki e93_98 kiconst_1 ?_
      refine Pi e93_99 (o143 L) f647 ?_
      refine LA0 e93_102 ?_
      refine Ki e93_103 kiconst_1 ?_
      refine Pi e93_104 (o143 L) f646 ?_
      refine IncN2 (m := e) e93_107 rfl ?_
      refine LA0 e93_110 ?_
      refine LI2 e93_111 ?_
      refine Cv1 e93_112 c93_94 (o143 L) (Nat.le_of_ble_eq_true rfl) (Nat.le_of_ble_eq_true rfl) ((tq_at hR (hT.fr (FrT.up (FrT.up FrT.rf (by decide)) (by decide))) (by omega))) ?_
      refine Ki e93_115 kbipush_94 ?_
      refine C_eq e93_117 t93_117 (fun h117 => ?_) (fun h117 => ?_)
      · refine IncN2 (m := (e + 1)) e93_122 rfl ?_
        refine LA0 e93_125 ?_
        refine LI2 e93_126 ?_
        refine Cv1 e93_127 c93_94 (o143 L) (Nat.le_of_ble_eq_true rfl) (Nat.le_of_ble_eq_true rfl) ((tq_at hR (hT.fr (FrT.up (FrT.up FrT.rf (by decide)) (by decide))) (by omega))) ?_
        refine Ki e93_130 kbipush_50 ?_
        refine C_lt e93_132 t93_132 (fun h132 => ?_) (fun h132 => ?_)
        · refine LI2 e93_145 ?_
          refine Cs1 e93_146 c93_96 (Nat.le_of_ble_eq_true rfl) (Nat.le_of_ble_eq_true rfl) (t_fault) ?_
          exact Ri e93_149 rt93 (by
          refine ⟨⟨(FrT.up (FrT.up hF (by decide)) (by decide)), by rw [amU_ni (by decide), amU_ni (by decide)]; exact h3, ?_⟩, rfl, rfl⟩
          unfold trmS
          rw [hE, if_neg h17]
          dsimp only
          rw [if_neg (fun z => z h75), if_neg (fun z => z h117), if_neg (fun z => by simp only [i32lt, i32le, show (50 : Int32).toInt = 50 from rfl, show (52 : Int32).toInt = 52 from rfl] at *; omega)]
          exact Or.inl ⟨_, rfl, rfl⟩)
        · refine LA0 e93_135 ?_
          refine LI2 e93_136 ?_
          refine Cv1 e93_137 c93_94 (o143 L) (Nat.le_of_ble_eq_true rfl) (Nat.le_of_ble_eq_true rfl) ((tq_at hR (hT.fr (FrT.up (FrT.up FrT.rf (by decide)) (by decide))) (by omega))) ?_
          refine Ki e93_140 kbipush_52 ?_
          refine C_le e93_142 t93_142 (fun h142 => ?_) (fun h142 => ?_)
          · refine LA0 e93_150 ?_
            refine LA0 e93_151 ?_
            refine LI2 e93_152 ?_
            refine Cv1 e93_153 c93_94 (o143 L) (Nat.le_of_ble_eq_true rfl) (Nat.le_of_ble_eq_true rfl) ((tq_at hR (hT.fr (FrT.up (FrT.up FrT.rf (by decide)) (by decide))) (by omega))) ?_
            refine Ki e93_156 kbipush_48 ?_
            have gf : isFg (T (e + 1 + 1)) := by
              simp only [i32lt, i32le, show (50 : Int32).toInt = 50 from rfl, show (52 : Int32).toInt = 52 from rfl] at h132 h142
              exact ⟨by omega, by omega⟩
            rw [dg_nI gf, Nat.add_comm 48, show nI (dg (T (e + 1 + 1)) + 48) = nI (48 + dg (T (e + 1 + 1))) by rw [Nat.add_comm]]
            refine IsubN (a := (48 + dg (T (e + 1 + 1)))) (b := 48) e93_158 rfl (by decide) (by omega) ?_
            refine Pi e93_159 (o143 L) f646 ?_
            refine LI2 e93_162 ?_
            refine Ki e93_163 kiconst_1 ?_
            refine IaddN (a := ((e + 1) + 1)) (b := 1) e93_164 rfl (by decide) ?_
            exact Ri e93_165 rt93 (by
            refine ⟨⟨(FrT.up (FrT.up (FrT.up hF (by decide)) (by decide)) (by decide)), by rw [amU_ni (by decide), amU_ni (by decide), amU_ni (by decide)]; exact h3, ?_⟩, rfl, rfl⟩
            unfold trmS
            rw [hE, if_neg h17]
            dsimp only
            rw [if_neg (fun z => z h75), if_neg (fun z => z h117), if_pos (by simp only [i32lt, i32le, show (50 : Int32).toInt = 50 from rfl, show (52 : Int32).toInt = 52 from rfl] at *; omega), if_pos h94]
            exact Or.inr ⟨e + 1 + 1 + 1, _, _, rfl, rfl, by rw [amU_same, Nat.add_sub_cancel_left], by rw [amU_ni (by decide), amU_ni (by decide), amU_same]; rfl⟩)
          · refine LI2 e93_145 ?_
            refine Cs1 e93_146 c93_96 (Nat.le_of_ble_eq_true rfl) (Nat.le_of_ble_eq_true rfl) (t_fault) ?_
            exact Ri e93_149 rt93 (by
            refine ⟨⟨(FrT.up (FrT.up hF (by decide)) (by decide)), by rw [amU_ni (by decide), amU_ni (by decide)]; exact h3, ?_⟩, rfl, rfl⟩
            unfold trmS
            rw [hE, if_neg h17]
            dsimp only
            rw [if_neg (fun z => z h75), if_neg (fun z => z h117), if_neg (fun z => by simp only [i32lt, i32le, show (50 : Int32).toInt = 50 from rfl, show (52 : Int32).toInt = 52 from rfl] at *; omega)]
            exact Or.inl ⟨_, rfl, rfl⟩)
      · refine LI2 e93_120 ?_
        exact Ri e93_121 rt93 (by
        refine ⟨⟨(FrT.up (FrT.up hF (by decide)) (by decide)), by rw [amU_ni (by decide), amU_ni (by decide)]; exact h3, ?_⟩, rfl, rfl⟩
        unfold trmS
        rw [hE, if_neg h17]
        dsimp only
        rw [if_neg (fun z => z h75), if_pos h117, if_pos h94]
        exact Or.inr ⟨e + 1, 1, _, rfl, rfl, by rw [amU_same]; rfl, by rw [amU_ni (by decide), amU_same]; rfl⟩)
  · refine LI2 e93_78 ?_
    refine LI1 e93_79 ?_
    refine CN_ne (a := e) (b := b) e93_80 t93_80 rfl rfl (by omega) (by omega) (fun h80 => ?_) (fun h80 => ?_)
    · refine LI2 e93_90 ?_
      exact Ri e93_91 rt93 (by
      refine ⟨⟨hF, h3, ?_⟩, rfl, rfl⟩
      unfold trmS
      rw [hE, if_neg h17]
      dsimp only
      rw [if_pos h75, if_neg h80]
      exact Or.inr ⟨e, 0, s, rfl, rfl, h6, h7⟩)
    · refine LI2 e93_83 ?_
      refine Cs1 e93_84 c93_96 (Nat.le_of_ble_eq_true rfl) (Nat.le_of_ble_eq_true rfl) (t_fault) ?_
      refine Go e93_87 t93_87 ?_
      exact Ri e93_91 rt93 (by
      refine ⟨⟨hF, h3, ?_⟩, rfl, rfl⟩
      unfold trmS
      rw [hE, if_neg h17]
      dsimp only
      rw [if_pos h75, if_pos h80]
      exact Or.inl ⟨b, rfl, by rw [h80]⟩)
set_option maxHeartbeats 2000000 in
theorem t_term (hR : amRok R) (hT : TT I T n) (hb : b ≤ 200) : Cl 93 [.ref 143, .int (nI b)] (amSH L) I J R (fun v I' J' R' => TmP I (trmS T b) v I' ∧ J' = J ∧ R' = R) := by
  show Ex 93 0 [some (.ref 143), some (.int (nI b)), none] [] (amSH L) I J R _
  refine LI1 e93_0 ?_
  refine SI2 e93_1 rfl ?_
  refine LA0 e93_2 ?_
  refine Ki e93_3 kiconst_0 ?_
  refine Pi e93_4 (o143 L) f647 ?_
  refine LA0 e93_7 ?_
  refine Ki e93_8 kiconst_0 ?_
  refine Pi e93_9 (o143 L) f646 ?_
  refine LA0 e93_12 ?_
  refine LI2 e93_13 ?_
  refine Cv1 e93_14 c93_94 (o143 L) (Nat.le_of_ble_eq_true rfl) (Nat.le_of_ble_eq_true rfl) ((tq_at hR (hT.fr (FrT.up (FrT.up FrT.rf (by decide)) (by decide))) (by omega))) ?_
  refine Ki e93_17 kbipush_48 ?_
  refine C_ne e93_19 t93_19 (fun h19 => ?_) (fun h19 => ?_)
  · have hl := fgN_le (T := T) (m := 3) (k := b) (v := 0)
    refine t_figs hR 3 b 0 _ (hT.fr (FrT.up (FrT.up FrT.rf (by decide)) (by decide))) (by omega) (Nat.le_refl _) hb (by rw [amU_ni (by decide), amU_same]; rfl) amU_same (fun I2 q1 q2 q3 q4 => ?_)
    exact t_rest hR ((hT.fr (FrT.up (FrT.up FrT.rf (by decide)) (by decide))).fr q1) h19 rfl (by omega) hb ((FrT.up (FrT.up FrT.rf (by decide)) (by decide)).tr q1) (by rw [q2, amU_ni (by decide), amU_ni (by decide)]) q3 q4
  · refine LI2 e93_22 ?_
    refine Cs1 e93_23 c93_96 (Nat.le_of_ble_eq_true rfl) (Nat.le_of_ble_eq_true rfl) (t_fault) ?_
    exact Ri e93_26 rt93 (by
    refine ⟨⟨(FrT.up (FrT.up FrT.rf (by decide)) (by decide)), by rw [amU_ni (by decide), amU_ni (by decide)], ?_⟩, rfl, rfl⟩
    unfold trmS
    rw [if_pos (Decidable.not_not.mp h19)]
    exact Or.inl ⟨b, rfl, rfl⟩)
end TAPE
