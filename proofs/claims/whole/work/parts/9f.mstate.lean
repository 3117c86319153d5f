/-! the reference: a statement (printed by wip/whole/t9f.py) -/
/-- only the reader's cells may differ -/
def FrX (Ia Ia' : amI) : Prop := ∀ y i, ¬ (y = 152 ∧ 37 ≤ i ∧ i ≤ 43) → Ia' y i = Ia y i
theorem FrX.rf {Ia : amI} : FrX Ia Ia := fun _ _ _ => rfl
theorem FrX.tr {Ia Ia1 Ia2 : amI} (h1 : FrX Ia Ia1) (h2 : FrX Ia1 Ia2) : FrX Ia Ia2 := fun y i a => (h2 y i a).trans (h1 y i a)
theorem FrX.up {Ia Ia1 : amI} {k : Nat} {v : Int32} (h : FrX Ia Ia1) (hk : 37 ≤ k ∧ k ≤ 43) : FrX Ia (amU Ia1 152 k v) := fun y i a => by
  rw [up_o (by omega)]
  exact h y i a
theorem FrW.x {Ia Ia1 : amI} (h : FrW Ia Ia1) : FrX Ia Ia1 := fun y i a => h y i (by omega)
theorem MT.x {Ia Ia1 : amI} {T : Nat → Int32} {n : Nat} (h : MT Ia T n) (hf : FrX Ia Ia1) : MT Ia1 T n := ⟨h.1.cg (hf _ _ (by omega)) (fun i => hf _ _ (by omega)), h.2⟩
theorem figR_false {T : Nat → Int32} {b k d : Nat} {m : Bool} (h : figR T false b = .inr (k, d, m)) : m = false := by
  unfold figR at h
  split at h
  · split at h
    · rename_i g
      exact absurd g.1 (by decide)
    · split at h
      · cases h; rfl
      · cases h
  · cases h
theorem figR_le {T : Nat → Int32} {n b k d : Nat} {g m : Bool} (hz : ∀ k, n ≤ k → T k = 0) (h : figR T g b = .inr (k, d, m)) : k ≤ n ∧ d ≤ 9 := by
  have l1 : ∀ k, isFg (T k) → k < n := fun k z => T_lt hz (fg_n0 z)
  unfold figR at h
  split at h
  · split at h
    · split at h
      · rename_i gf
        have := dg_le gf
        cases h
        exact ⟨l1 _ gf, this⟩
      · cases h
    · split at h
      · rename_i gf
        have := dg_le gf
        cases h
        exact ⟨l1 _ gf, this⟩
      · cases h
  · cases h
/-- figures() by figure() -/
theorem figS_r {T : Nat → Int32} {t b : Nat} : figS T t b = match figR T false b with
    | .inl e => .inl e
    | .inr (k, i, _) => if isSg t ∨ isTw (nI t) then (match figR T (decide (isSg t)) k with
      | .inl e => .inl e
      | .inr (k', d, m) => .inr (k', i, figV d m)) else .inr (k, i, 0) := by
  unfold figS
  by_cases g0 : T b = 32
  · rw [if_neg (fun z => z g0)]
    by_cases g1 : isFg (T (b + 1))
    · rw [if_neg (fun z => z g1)]
      have e1 : figR T false b = .inr (b + 1 + 1, dg (T (b + 1)), false) := by
        unfold figR
        rw [if_pos g0, if_neg (fun z => absurd z.1 (by decide)), if_pos g1]
      rw [e1]
      dsimp only
      by_cases g2 : isSg t ∨ isTw (nI t)
      · rw [if_neg (fun z => g2.elim z.1 z.2), if_pos g2]
        by_cases g3 : T (b + 1 + 1) = 32
        · rw [if_neg (fun z => z g3)]
          by_cases g4 : isSg t ∧ T (b + 1 + 1 + 1) = 45
          · rw [if_pos g4]
            by_cases g5 : isFg (T (b + 1 + 1 + 1 + 1))
            · have e2 : figR T (decide (isSg t)) (b + 1 + 1) = .inr (b + 1 + 1 + 1 + 1 + 1, dg (T (b + 1 + 1 + 1 + 1)), true) := by
                unfold figR
                rw [if_pos g3, if_pos ⟨decide_eq_true g4.1, g4.2⟩, if_pos g5]
              rw [e2, if_neg (fun z => z g5)]
              rfl
            · have e2 : figR T (decide (isSg t)) (b + 1 + 1) = .inl (b + 1 + 1 + 1 + 1) := by
                unfold figR
                rw [if_pos g3, if_pos ⟨decide_eq_true g4.1, g4.2⟩, if_neg g5]
              rw [e2, if_pos g5]
          · rw [if_neg g4]
            by_cases g5 : isFg (T (b + 1 + 1 + 1))
            · have e2 : figR T (decide (isSg t)) (b + 1 + 1) = .inr (b + 1 + 1 + 1 + 1, dg (T (b + 1 + 1 + 1)), false) := by
                unfold figR
                rw [if_pos g3, if_neg (fun z => g4 ⟨of_decide_eq_true z.1, z.2⟩), if_pos g5]
              rw [e2, if_neg (fun z => z g5)]
              rfl
            · have e2 : figR T (decide (isSg t)) (b + 1 + 1) = .inl (b + 1 + 1 + 1) := by
                unfold figR
                rw [if_pos g3, if_neg (fun z => g4 ⟨of_decide_eq_true z.1, z.2⟩), if_neg g5]
              rw [e2, if_pos g5]
        · have e2 : figR T (decide (isSg t)) (b + 1 + 1) = .inl (b + 1 + 1) := by
            unfold figR
            rw [if_neg g3]
          rw [e2, if_pos g3]
      · rw [if_pos ⟨fun z => g2 (Or.inl z), fun z => g2 (Or.inr z)⟩, if_neg g2]
    · have e1 : figR T false b = .inl (b + 1) := by
        unfold figR
        rw [if_pos g0, if_neg (fun z => absurd z.1 (by decide)), if_neg g1]
      rw [e1, if_pos g1]
  · have e1 : figR T false b = .inl b := by
      unfold figR
      rw [if_neg g0]
    rw [e1, if_pos g0]
theorem nu_sg : ∀ t, t < 12 → (isNu (nI t) ↔ isSg t) := by decide
theorem ltN_nz {T : Nat → Int32} : ∀ {f k q : Nat}, k ≤ q → q < ltN T f k → ¬ T q = 0
  | 0, k, q, h1, h2 => by
    rw [ltN] at h2
    omega
  | f + 1, k, q, h1, h2 => by
    rw [ltN] at h2
    split at h2
    · rename_i g
      by_cases e : q = k
      · rw [e]
        intro z
        rw [z] at g
        exact absurd g.1 (by decide)
      · exact ltN_nz (by omega) h2
    · omega
/-- what statement() leaves -/
def SyP (Ia : amI) (Ja : amJ) (Ra : amR) (T : Nat → Int32) (b : Nat) (v : Option Value) (Ia' : amI) (Ja' : amJ) (Ra' : amR) : Prop := v = none ∧ Ra' = Ra ∧ FrX Ia Ia' ∧ Fr Ja Ja' 156 ∧ ((∃ e, stmS T b = .inl e ∧ Ia' 152 38 = 1 ∧ Ia' 152 39 = nI e) ∨ (∃ k p, stmS T b = .inr (k, .inl p) ∧ Ia' 152 38 = 0 ∧ Ia' 152 37 = nI k ∧ Ia' 152 40 = -1 ∧ JP Ja' 156 p) ∨ (∃ k t i s, stmS T b = .inr (k, .inr (t, i, s)) ∧ t < 12 ∧ Ia' 152 38 = 0 ∧ Ia' 152 37 = nI k ∧ Ia' 152 40 = nI t ∧ Ia' 152 41 = nI i ∧ (isSg t ∨ isTw (nI t) → Ia' 152 42 = s)))
section REF39
variable {L : Nat} {Ia : amI} {Ja : amJ} {Ra : amR} {Q : amQ} {T : Nat → Int32} {n k b e i s ab t : Nat} {p q : Po}
theorem m_figure {g : Bool} (hR : amRok Ra) (hT : MT Ia T n) (hb : b ≤ n) (ha : Ia 152 37 = nI b) (h0 : Ia 152 38 = 0) : Cl 228 [.ref 152, .int (bI g)] (amSH L) Ia Ja Ra (FiP Ia Ja Ra (figR T g b)) := by
  cases g
  · exact m_figure_false hR hT hb ha h0
  · exact m_figure_true hR hT hb ha h0
set_option maxHeartbeats 2000000 in
theorem m_letters (hR : amRok Ra) : ∀ (f k : Nat) (Ia : amI), n - k < f → k ≤ n → MT Ia T n → Ia 152 37 = nI k → (∀ Ia', FrW Ia Ia' → (∀ x, x ≠ 37 → Ia' 152 x = Ia 152 x) → Ia' 152 37 = nI (ltN T f k) → Ex 229 64 [some (.ref 152), some (.int (nI b))] [] (amSH L) Ia' Ja Ra Q) → Ex 229 34 [some (.ref 152), some (.int (nI b))] [] (amSH L) Ia Ja Ra Q := by
  intro f
  induction f with
  | zero => intro k Ia h; omega
  | succ f ih =>
    intro k Ia hf hk hT ha hQ
    have hn := hT.2.1
    rw [ltN] at hQ
    by_cases g : 97 ≤ (T k).toInt ∧ (T k).toInt ≤ 122
    · rw [if_pos g] at hQ
      have hkn : k < n := T_lt hT.2.2 (fun z => by rw [z] at g; exact absurd g.1 (by decide))
      refine LA0 e229_34 ?_
      refine Cv0 e229_35 c229_221 (o152 L) (Nat.le_of_ble_eq_true rfl) (Nat.le_of_ble_eq_true rfl) ((m_here (b := k) hR hT ha (by omega))) ?_
      refine I2l e229_38 ?_
      refine Kd e229_39 kj20 ?_
      refine Kd e229_42 kj21 ?_
      refine Cs3 e229_45 c229_152 (Nat.le_of_ble_eq_true rfl) (Nat.le_of_ble_eq_true rfl) (m_in) ?_
      rw [show decide ((97 : Int64) ≤ (T k).toInt64 ∧ (T k).toInt64 ≤ 122) = decide (97 ≤ (T k).toInt ∧ (T k).toInt ≤ 122) from min64 (a := 97) (b := 122), decide_eq_true g]
      rw [show bI true = 1 from rfl]
      refine B_eq e229_48 t229_48 (fun q => absurd q (by decide)) (fun _ => ?_)
      refine LA0 e229_51 ?_
      refine Dup e229_52 rfl ?_
      refine Gi e229_53 (o152 L) (amGi_of f805 (by decide)) ?_
      rw [ha]
      refine Ki e229_56 kiconst_1 ?_
      refine IaddN (a := k) (b := 1) e229_57 rfl (by decide) ?_
      refine Pi e229_58 (o152 L) f805 ?_
      refine Go e229_61 t229_61 ?_
      exact ih (k + 1) _ (by omega) (by omega) (hT.w (FrW.rf.up (by omega))) amU_same (fun Ia' q1 q2 q3 => hQ Ia' ((FrW.rf.up (by omega)).tr q1) (fun x hx => (q2 x hx).trans (up_o (by omega))) q3)
    · rw [if_neg g] at hQ
      refine LA0 e229_34 ?_
      refine Cv0 e229_35 c229_221 (o152 L) (Nat.le_of_ble_eq_true rfl) (Nat.le_of_ble_eq_true rfl) ((m_here (b := k) hR hT ha (by omega))) ?_
      refine I2l e229_38 ?_
      refine Kd e229_39 kj20 ?_
      refine Kd e229_42 kj21 ?_
      refine Cs3 e229_45 c229_152 (Nat.le_of_ble_eq_true rfl) (Nat.le_of_ble_eq_true rfl) (m_in) ?_
      rw [show decide ((97 : Int64) ≤ (T k).toInt64 ∧ (T k).toInt64 ≤ 122) = decide (97 ≤ (T k).toInt ∧ (T k).toInt ≤ 122) from min64 (a := 97) (b := 122), decide_eq_false g]
      rw [show bI false = 0 from rfl]
      refine B_eq e229_48 t229_48 (fun _ => ?_) (fun q => absurd (rfl) q)
      exact hQ Ia FrW.rf (fun _ _ => rfl) ha
set_option maxHeartbeats 2000000 in
theorem m_st96 {Ia1 : amI} {ii : Int32} (hR : amRok Ra) (ht : t < 12) (hT : MT Ia1 T n) (he : e ≤ n) (hF : FrX Ia Ia1) (h40 : Ia1 152 40 = nI t) (h41 : Ia1 152 41 = ii) (hw : (∃ d, figR T false e = .inl d ∧ Ia1 152 38 = 1 ∧ Ia1 152 39 = nI d) ∨ ∃ k d, figR T false e = .inr (k, d, false) ∧ ii = nI d ∧ Ia1 152 38 = 0 ∧ Ia1 152 37 = nI k) (hS1 : ∀ d, figS T t e = .inl d → stmS T b = .inl d) (hS2 : ∀ k i s, figS T t e = .inr (k, i, s) → stmS T b = .inr (k, .inr (t, i, s))) : Ex 229 96 [some (.ref 152), some (.int (nI b))] [] (amSH L) Ia1 Ja Ra (SyP Ia Ja Ra T b) := by
  have htI : (nI t).toInt = (t : Int) := nI_toInt (by omega)
  have hns := nu_sg t ht
  have key : isSg t ∨ isTw (nI t) → Ex 229 117 [some (.ref 152), some (.int (nI b))] [.ref 152] (amSH L) Ia1 Ja Ra (SyP Ia Ja Ra T b) := fun hg => by
    refine LA0 e229_117 ?_
    refine LA0 e229_118 ?_
    refine Gi e229_119 (o152 L) (amGi_of f808 (by decide)) ?_
    rw [h40]
    refine Cs1 e229_122 c229_214 (Nat.le_of_ble_eq_true rfl) (Nat.le_of_ble_eq_true rfl) (m_isOfNumber) ?_
    rcases hw with ⟨d, hd, w1, w2⟩ | ⟨k, d, hd, hii, w1, w2⟩
    · refine Cv1p e229_125 c229_228 (o152 L) (Nat.le_of_ble_eq_true rfl) (Nat.le_of_ble_eq_true rfl) (m_figure1 hR w1) ?_
      rintro _ Ia2 Ja2 Ra2 ⟨rfl, hI2, hJ2, hR2⟩
      have hI2 := hI2.symm
      subst hI2
      have hJ2 := hJ2.symm
      subst hJ2
      have hR2 := hR2.symm
      subst hR2
      refine Go e229_128 t229_128 ?_
      refine Pi e229_132 (o152 L) f810 ?_
      exact Rvd e229_135 rt229 (⟨rfl, rfl, hF.up (by omega), Fr.rf, Or.inl ⟨d, hS1 d (by rw [figS_r, hd]), (by (repeat rw [up_o (by omega)]); first | exact amU_same | exact w1), (by (repeat rw [up_o (by omega)]); first | exact amU_same | exact w2)⟩⟩)
    · refine Cv1p e229_125 c229_228 (o152 L) (Nat.le_of_ble_eq_true rfl) (Nat.le_of_ble_eq_true rfl) (m_figure (g := decide (isNu (nI t))) (b := k) hR hT (figR_le hT.2.2 hd).1 w2 w1) ?_
      rintro v Ia2 Ja2 Ra2 ⟨hR2, hJ2, hF2, hD⟩
      have hJ2 := hJ2.symm
      subst hJ2
      have hR2 := hR2.symm
      subst hR2
      have ed : decide (isNu (nI t)) = decide (isSg t) := decide_eq_decide.mpr hns
      rw [ed] at hD
      rcases hD with ⟨d2, e2, hv, x1, x2⟩ | ⟨k2, d2, m2, e2, hv, x1, x2⟩
      · subst hv
        refine Go e229_128 t229_128 ?_
        refine Pi e229_132 (o152 L) f810 ?_
        exact Rvd e229_135 rt229 (⟨rfl, rfl, (hF.tr hF2.x).up (by omega), Fr.rf, Or.inl ⟨d2, hS1 d2 (by rw [figS_r, hd]; dsimp only; rw [if_pos hg, e2]), (by (repeat rw [up_o (by omega)]); first | exact amU_same | exact x1), (by (repeat rw [up_o (by omega)]); first | exact amU_same | exact x2)⟩⟩)
      · subst hv
        refine Go e229_128 t229_128 ?_
        refine Pi e229_132 (o152 L) f810 ?_
        exact Rvd e229_135 rt229 (⟨rfl, rfl, (hF.tr hF2.x).up (by omega), Fr.rf, Or.inr (Or.inr ⟨k2, t, d, figV d2 m2, hS2 k2 d _ (by rw [figS_r, hd]; dsimp only; rw [if_pos hg, e2]), ht, (by (repeat rw [up_o (by omega)]); first | exact amU_same | exact x1), (by (repeat rw [up_o (by omega)]); first | exact amU_same | exact x2), (by (repeat rw [up_o (by omega)]); first | exact amU_same | exact ((hF2 152 40 (by omega)).trans h40)), (by (repeat rw [up_o (by omega)]); first | exact amU_same | exact ((hF2 152 41 (by omega)).trans (h41.trans hii))), fun _ => amU_same⟩)⟩)
  by_cases g2 : isTw (nI t)
  · refine LA0 e229_96 ?_
    refine LA0 e229_97 ?_
    refine Gi e229_98 (o152 L) (amGi_of f808 (by decide)) ?_
    rw [h40]
    refine Cs1 e229_101 c229_213 (Nat.le_of_ble_eq_true rfl) (Nat.le_of_ble_eq_true rfl) ((m_isOfTwo (by rw [htI]; omega))) ?_
    rw [decide_eq_true g2]
    rw [show bI true = 1 from rfl]
    refine B_ne e229_104 t229_104 (fun _ => ?_) (fun q => absurd (by decide) q)
    exact key (Or.inr g2)
  · by_cases g3 : isSg t
    · refine LA0 e229_96 ?_
      refine LA0 e229_97 ?_
      refine Gi e229_98 (o152 L) (amGi_of f808 (by decide)) ?_
      rw [h40]
      refine Cs1 e229_101 c229_213 (Nat.le_of_ble_eq_true rfl) (Nat.le_of_ble_eq_true rfl) ((m_isOfTwo (by rw [htI]; omega))) ?_
      rw [decide_eq_false g2]
      rw [show bI false = 0 from rfl]
      refine B_ne e229_104 t229_104 (fun q => absurd q (fun z => z rfl)) (fun _ => ?_)
      refine LA0 e229_107 ?_
      refine Gi e229_108 (o152 L) (amGi_of f808 (by decide)) ?_
      rw [h40]
      refine Cs1 e229_111 c229_214 (Nat.le_of_ble_eq_true rfl) (Nat.le_of_ble_eq_true rfl) (m_isOfNumber) ?_
      rw [decide_eq_true (hns.mpr g3)]
      rw [show bI true = 1 from rfl]
      refine B_eq e229_114 t229_114 (fun q => absurd q (by decide)) (fun _ => ?_)
      exact key (Or.inl g3)
    · have hg : ¬ (isSg t ∨ isTw (nI t)) := fun z => z.elim g3 g2
      refine LA0 e229_96 ?_
      refine LA0 e229_97 ?_
      refine Gi e229_98 (o152 L) (amGi_of f808 (by decide)) ?_
      rw [h40]
      refine Cs1 e229_101 c229_213 (Nat.le_of_ble_eq_true rfl) (Nat.le_of_ble_eq_true rfl) ((m_isOfTwo (by rw [htI]; omega))) ?_
      rw [decide_eq_false g2]
      rw [show bI false = 0 from rfl]
      refine B_ne e229_104 t229_104 (fun q => absurd q (fun z => z rfl)) (fun _ => ?_)
      refine LA0 e229_107 ?_
      refine Gi e229_108 (o152 L) (amGi_of f808 (by decide)) ?_
      rw [h40]
      refine Cs1 e229_111 c229_214 (Nat.le_of_ble_eq_true rfl) (Nat.le_of_ble_eq_true rfl) (m_isOfNumber) ?_
      rw [decide_eq_false (fun z => g3 (hns.mp z))]
      rw [show bI false = 0 from rfl]
      refine B_eq e229_114 t229_114 (fun _ => ?_) (fun q => absurd (rfl) q)
      refine Ki e229_131 kiconst_0 ?_
      refine Pi e229_132 (o152 L) f810 ?_
      exact Rvd e229_135 rt229 (by
      rcases hw with ⟨d, hd, w1, w2⟩ | ⟨k, d, hd, hii, w1, w2⟩
      · exact ⟨rfl, rfl, hF.up (by omega), Fr.rf, Or.inl ⟨d, hS1 d (by rw [figS_r, hd]), (by (repeat rw [up_o (by omega)]); first | exact amU_same | exact w1), (by (repeat rw [up_o (by omega)]); first | exact amU_same | exact w2)⟩⟩
      · exact ⟨rfl, rfl, hF.up (by omega), Fr.rf, Or.inr (Or.inr ⟨k, t, d, 0, hS2 k d 0 (by rw [figS_r, hd]; dsimp only; rw [if_neg hg]), ht, (by (repeat rw [up_o (by omega)]); first | exact amU_same | exact w1), (by (repeat rw [up_o (by omega)]); first | exact amU_same | exact w2), (by (repeat rw [up_o (by omega)]); first | exact amU_same | exact h40), (by (repeat rw [up_o (by omega)]); first | exact amU_same | exact (h41.trans hii)), fun z => absurd z hg⟩)⟩)
set_option maxHeartbeats 2000000 in
theorem m_statement (hR : amRok Ra) (hT : MT Ia T n) (hb : b ≤ n) (ha : Ia 152 37 = nI b) (h0 : Ia 152 38 = 0) : Cl 229 [.ref 152] (amSH L) Ia Ja Ra (SyP Ia Ja Ra T b) := by
  show Ex 229 0 [some (.ref 152), none] [] (amSH L) Ia Ja Ra _
  have hn := hT.2.1
  have hX : FrX Ia (amU Ia 152 40 (-1)) := FrX.rf.up (by omega)
  by_cases g61 : T b = 61
  · refine LA0 e229_0 ?_
    refine Ki e229_1 kiconst_m1 ?_
    refine Pi e229_2 (o152 L) f808 ?_
    refine LA0 e229_5 ?_
    refine Cv0 e229_6 c229_221 (o152 L) (Nat.le_of_ble_eq_true rfl) (Nat.le_of_ble_eq_true rfl) ((m_here (b := b) hR (hT.x hX) (by (repeat rw [up_o (by omega)]); first | exact amU_same | exact ha) (by omega))) ?_
    refine Ki e229_9 kbipush_61 ?_
    refine C_ne e229_11 t229_11 (fun q => absurd q (fun z => z g61)) (fun _ => ?_)
    refine LA0 e229_14 ?_
    refine Dup e229_15 rfl ?_
    refine Gi e229_16 (o152 L) (amGi_of f805 (by decide)) ?_
    rw [up_o (by omega), ha]
    refine Ki e229_19 kiconst_1 ?_
    refine IaddN (a := b) (b := 1) e229_20 rfl (by decide) ?_
    refine Pi e229_21 (o152 L) f805 ?_
    refine LA0 e229_24 ?_
    refine Cv0p e229_25 c229_224 (o152 L) (Nat.le_of_ble_eq_true rfl) (Nat.le_of_ble_eq_true rfl) (m_text (b := b + 1) hR (hT.x (hX.up (by omega))) (T_lt hT.2.2 (fun z => by rw [z] at g61; exact absurd g61 (by decide))) amU_same (by (repeat rw [up_o (by omega)]); first | exact amU_same | exact h0)) ?_
    rintro v Ia2 Ja2 Ra2 ⟨hv, hR2, hF2, hF3, hD⟩
    subst hv
    have hR2 := hR2.symm
    subst hR2
    have hF4 := (hX.up (k := 37) (v := nI (b + 1)) (by omega)).tr hF2.x
    have h40 : Ia2 152 40 = -1 := (hF2 152 40 (by omega)).trans (by rw [up_o (by omega), amU_same])
    exact Rvd e229_28 rt229 (by
    refine ⟨rfl, rfl, hF4, hF3, ?_⟩
    unfold stmS
    rw [if_pos g61]
    rcases hD with ⟨e, he, x1, x2⟩ | ⟨k, p, he, x1, x2, x3⟩
    · exact Or.inl ⟨e, by rw [he], x1, x2⟩
    · exact Or.inr (Or.inl ⟨k, p, by rw [he], x1, x2, h40, x3⟩))
  · refine LA0 e229_0 ?_
    refine Ki e229_1 kiconst_m1 ?_
    refine Pi e229_2 (o152 L) f808 ?_
    refine LA0 e229_5 ?_
    refine Cv0 e229_6 c229_221 (o152 L) (Nat.le_of_ble_eq_true rfl) (Nat.le_of_ble_eq_true rfl) ((m_here (b := b) hR (hT.x hX) (by (repeat rw [up_o (by omega)]); first | exact amU_same | exact ha) (by omega))) ?_
    refine Ki e229_9 kbipush_61 ?_
    refine C_ne e229_11 t229_11 (fun _ => ?_) (fun q => absurd (g61) q)
    refine LA0 e229_29 ?_
    refine Gi e229_30 (o152 L) (amGi_of f805 (by decide)) ?_
    rw [up_o (by omega), ha]
    refine SI1 e229_33 rfl ?_
    refine m_letters hR 121 b _ (by omega) hb (hT.x hX) (by (repeat rw [up_o (by omega)]); first | exact amU_same | exact ha) (fun Ia1 q1 q2 q3 => ?_)
    have hl := ltN_n hT.2.2 (f := 121) hb
    have hlz : ∀ x, b ≤ x → x < ltN T 121 b → ¬ T x = 0 := fun x h1 h2 => ltN_nz h1 h2
    have h38 : Ia1 152 38 = 0 := (q2 38 (by decide)).trans (by rw [up_o (by omega)]; exact h0)
    have hX1 := hX.tr q1.x
    generalize he : ltN T 121 b = e at *
    refine LA0 e229_64 ?_
    refine LA0 e229_65 ?_
    refine LI1 e229_66 ?_
    refine Cv1 e229_67 c229_227 (o152 L) (Nat.le_of_ble_eq_true rfl) (Nat.le_of_ble_eq_true rfl) ((m_wordFrom hR ((hT.x hX).w q1) q3 hl.2 hl.1 hlz)) ?_
    cases hw : wrdS T b e with
    | none =>
      rw [show wdI none = -1 from rfl]
      refine Pi e229_70 (o152 L) f808 ?_
      refine LA0 e229_73 ?_
      refine Gi e229_74 (o152 L) (amGi_of f808 (by decide)) ?_
      rw [amU_same]
      refine Ki e229_77 kiconst_m1 ?_
      refine C_ne e229_78 t229_78 (fun q => absurd q (fun z => z rfl)) (fun _ => ?_)
      refine LA0 e229_81 ?_
      refine LI1 e229_82 ?_
      refine Cv1p e229_83 c229_222 (o152 L) (Nat.le_of_ble_eq_true rfl) (Nat.le_of_ble_eq_true rfl) (m_wrong (by (repeat rw [up_o (by omega)]); first | exact amU_same | exact h38)) ?_
      rintro _ Ia9 Ja9 Ra9 ⟨rfl, hI9, hJ9, hR9⟩
      have hI9 := hI9.symm
      subst hI9
      have hJ9 := hJ9.symm
      subst hJ9
      have hR9 := hR9.symm
      subst hR9
      exact Rvd e229_86 rt229 (by
      refine ⟨rfl, rfl, ((hX1.up (by omega)).up (by omega)).up (by omega), Fr.rf, Or.inl ⟨b, ?_, (by (repeat rw [up_o (by omega)]); first | exact amU_same | exact h38), (by (repeat rw [up_o (by omega)]); first | exact amU_same | exact h38)⟩⟩
      unfold stmS
      rw [if_neg g61, he, hw])
    | some t =>
      have ht : t < 12 := by
        have := wdN_lt hw
        omega
      rw [show wdI (some t) = nI t from rfl]
      have h77 : ¬ nI t = -1 := fun z => by
        have z2 := congrArg Int32.toInt z
        rw [nI_toInt (by omega), show (-1 : Int32).toInt = -1 from by decide] at z2
        omega
      have hS1 : ∀ d, figS T t e = .inl d → stmS T b = .inl d := fun d hd => by
        unfold stmS
        rw [if_neg g61, he, hw]
        dsimp only
        rw [hd]
      have hS2 : ∀ k i s, figS T t e = .inr (k, i, s) → stmS T b = .inr (k, .inr (t, i, s)) := fun k i s hd => by
        unfold stmS
        rw [if_neg g61, he, hw]
        dsimp only
        rw [hd]
      have hX2 : FrX Ia (amU Ia1 152 40 (nI t)) := hX1.up (by omega)
      have hT2 : MT (amU Ia1 152 40 (nI t)) T n := hT.x hX2
      refine Pi e229_70 (o152 L) f808 ?_
      refine LA0 e229_73 ?_
      refine Gi e229_74 (o152 L) (amGi_of f808 (by decide)) ?_
      rw [amU_same]
      refine Ki e229_77 kiconst_m1 ?_
      refine C_ne e229_78 t229_78 (fun _ => ?_) (fun q => absurd (h77) q)
      refine LA0 e229_87 ?_
      refine LA0 e229_88 ?_
      refine Ki e229_89 kiconst_0 ?_
      refine Cv1p e229_90 c229_228 (o152 L) (Nat.le_of_ble_eq_true rfl) (Nat.le_of_ble_eq_true rfl) (m_figure_false hR hT2 hl.2 (by (repeat rw [up_o (by omega)]); first | exact amU_same | exact q3) (by (repeat rw [up_o (by omega)]); first | exact amU_same | exact h38)) ?_
      rintro v Ia2 Ja2 Ra2 ⟨hR2, hJ2, hF2, hD⟩
      have hJ2 := hJ2.symm
      subst hJ2
      have hR2 := hR2.symm
      subst hR2
      have hX3 := hX2.tr hF2.x
      have h40 : Ia2 152 40 = nI t := (hF2 152 40 (by omega)).trans amU_same
      rcases hD with ⟨d2, e2, hv, x1, x2⟩ | ⟨k2, d2, m2, e2, hv, x1, x2⟩
      · subst hv
        refine Pi e229_93 (o152 L) f809 ?_
        exact m_st96 hR ht (hT.x (hX3.up (by omega))) hl.2 (hX3.up (by omega)) (by (repeat rw [up_o (by omega)]); first | exact amU_same | exact h40) amU_same (Or.inl ⟨d2, e2, (by (repeat rw [up_o (by omega)]); first | exact amU_same | exact x1), (by (repeat rw [up_o (by omega)]); first | exact amU_same | exact x2)⟩) hS1 hS2
      · subst hv
        have hm := figR_false e2
        subst hm
        refine Pi e229_93 (o152 L) f809 ?_
        exact m_st96 hR ht (hT.x (hX3.up (by omega))) hl.2 (hX3.up (by omega)) (by (repeat rw [up_o (by omega)]); first | exact amU_same | exact h40) amU_same (Or.inr ⟨k2, d2, e2, rfl, (by (repeat rw [up_o (by omega)]); first | exact amU_same | exact x1), (by (repeat rw [up_o (by omega)]); first | exact amU_same | exact x2)⟩) hS1 hS2
end REF39
