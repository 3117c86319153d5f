/-! the tape: a text (printed by wip/whole/t40.py) -/
theorem T_lt {T : Nat → Int32} {n k : Nat} (hz : ∀ k, n ≤ k → T k = 0) (h : ¬ T k = 0) : k < n := by
  rcases Nat.lt_or_ge k n with g | g
  · exact g
  · exact absurd (hz k g) h
theorem fg_n0 {x : Int32} (h : isFg x) : ¬ x = 0 := fun e => by
  subst e
  exact absurd h.1 (by decide)
theorem fgN_n {T : Nat → Int32} {n : Nat} (hz : ∀ k, n ≤ k → T k = 0) : ∀ {m k v : Nat}, k ≤ n → (fgN T m k v).1 ≤ n
  | 0, k, v, h => h
  | m + 1, k, v, h => by
    unfold fgN
    split
    · rename_i g
      have := T_lt hz (fg_n0 g)
      exact fgN_n hz (by omega)
    · exact h
theorem trmS_l {T : Nat → Int32} {n b e : Nat} (hz : ∀ k, n ≤ k → T k = 0) (hb : b ≤ n) (h : trmS T b = .inl e) : e ≤ n := by
  have h1 := fgN_n hz (m := 3) (v := 0) hb
  unfold trmS at h
  split at h
  · cases h; exact hb
  · split at h
    · split at h
      · cases h; exact hb
      · cases h
    · rename_i g
      have h2 : (fgN T 3 b 0).1 < n := T_lt hz (fun z => g (by rw [z]; decide))
      split at h
      · cases h
      · rename_i g2
        have h3 : (fgN T 3 b 0).1 + 1 < n := T_lt hz (fun z => g2 (by rw [z]; decide))
        split at h
        · cases h
        · cases h; omega
theorem trmS_r {T : Nat → Int32} {n b k r s : Nat} (hz : ∀ k, n ≤ k → T k = 0) (hb : b ≤ n) (h : trmS T b = .inr (k, r, s)) : k ≤ n ∧ b < k ∧ r ≤ 4 ∧ s ≤ 999 := by
  have h1 := fgN_n hz (m := 3) (v := 0) hb
  have h0 := fgN_le (T := T) (m := 3) (k := b) (v := 0)
  unfold trmS at h
  split at h
  · cases h
  · split at h
    · split at h
      · cases h
      · cases h; exact ⟨h1, by omega, by omega, by omega⟩
    · rename_i g
      have h2 : (fgN T 3 b 0).1 < n := T_lt hz (fun z => g (by rw [z]; decide))
      split at h
      · cases h
        exact ⟨by omega, by omega, by omega, by split <;> omega⟩
      · rename_i g2
        have h3 : (fgN T 3 b 0).1 + 1 < n := T_lt hz (fun z => g2 (by rw [z]; decide))
        split at h
        · rename_i g3
          have h4 : (fgN T 3 b 0).1 + 1 + 1 < n := T_lt hz (fun z => by rw [z] at g3; exact absurd g3.1 (by decide))
          cases h
          exact ⟨by omega, by omega, by unfold dg; omega, by split <;> omega⟩
        · cases h
/-- TERMS from a place on, below a power -/
def txN (T : Nat → Int32) : Nat → Nat → Bool → Nat → Po → Nat ⊕ (Nat × Po)
  | 0, b, _, _, _ => .inl b
  | f + 1, b, mi, ab, p => match trmS T b with
    | .inl e => .inl e
    | .inr (k, r, s) => if r < ab then
        (if T k = 43 ∨ T k = 45 then txN T f (k + 1) (decide (T k = 45)) r (pU p r (if mi = true then -(s : Int) else s)) else .inr (k, pU p r (if mi = true then -(s : Int) else s)))
      else .inl b
/-- a text of a POLYNOMIAL -/
def txtS (T : Nat → Int32) (b : Nat) : Nat ⊕ (Nat × Po) := if T b = 45 then txN T 6 (b + 1) true 5 zP else txN T 6 b false 5 zP
theorem txN_n {T : Nat → Int32} {n : Nat} (hz : ∀ k, n ≤ k → T k = 0) : ∀ {f b ab : Nat} {mi : Bool} {p : Po}, b ≤ n → (∀ e, txN T f b mi ab p = .inl e → e ≤ n) ∧ ∀ k q, txN T f b mi ab p = .inr (k, q) → k ≤ n ∧ b < k
  | 0, b, ab, mi, p, hb => ⟨fun e h => (by cases h; exact hb), fun k q h => (by cases h)⟩
  | f + 1, b, ab, mi, p, hb => by
    rw [txN]
    cases hE : trmS T b with
    | inl e => exact ⟨fun e h => (by cases h; exact trmS_l hz hb hE), fun k q h => (by cases h)⟩
    | inr x =>
      obtain ⟨k, r, s⟩ := x
      have hk := trmS_r hz hb hE
      dsimp only
      by_cases g : r < ab
      · rw [if_pos g]
        by_cases g2 : T k = 43 ∨ T k = 45
        · rw [if_pos g2]
          have hkn : k < n := T_lt hz (fun z => by rw [z] at g2; exact absurd g2 (by decide))
          have ih := txN_n hz (f := f) (b := k + 1) (ab := r) (mi := decide (T k = 45)) (p := pU p r (if mi = true then -(s : Int) else s)) hkn
          exact ⟨ih.1, fun k' q h => ⟨(ih.2 k' q h).1, by have := (ih.2 k' q h).2; omega⟩⟩
        · rw [if_neg g2]
          exact ⟨fun e h => (by cases h), fun k' q h => (by cases h; exact ⟨hk.1, hk.2.1⟩)⟩
      · rw [if_neg g]
        exact ⟨fun e h => (by cases h; exact hb), fun k q h => (by cases h)⟩
theorem txtS_n {T : Nat → Int32} {n b : Nat} (hz : ∀ k, n ≤ k → T k = 0) (hb : b ≤ n) : (∀ e, txtS T b = .inl e → e ≤ n) ∧ ∀ k q, txtS T b = .inr (k, q) → k ≤ n ∧ b < k := by
  unfold txtS
  split
  · rename_i g
    have hkn : b < n := T_lt hz (fun z => by rw [z] at g; exact absurd g (by decide))
    have h := txN_n hz (f := 6) (b := b + 1) (ab := 5) (mi := true) (p := zP) hkn
    exact ⟨h.1, fun k q hh => ⟨(h.2 k q hh).1, by have := (h.2 k q hh).2; omega⟩⟩
  · exact txN_n hz hb
theorem neg64 : ∀ s, s < 1000 → (-nI s).toInt64 = oI (-(s : Int)) := by decide +kernel
theorem nI_nn {k : Nat} (hk : k < 2 ^ 31) : 0 ≤ nI k := by
  rw [i32le, nI_toInt hk, show (0 : Int32).toInt = 0 from rfl]
  omega
theorem fI_nge {k : Nat} (hk : k < 300) : ¬ 0 ≤ fI k := by
  have h := fI_neg k hk
  rw [i32lt, show (0 : Int32).toInt = 0 from rfl] at h
  rw [i32le, show (0 : Int32).toInt = 0 from rfl]
  omega
def TxP (I : amI) (J : amJ) (R : amR) (o : Nat ⊕ (Nat × Po)) (v : Option Value) (I' : amI) (J' : amJ) (R' : amR) : Prop := FrT I I' ∧ I' 143 3 = I 143 3 ∧ R' = R ∧ Fr J J' 146 ∧ ((∃ e, o = .inl e ∧ v = some (.int (fI e))) ∨ ∃ k p, o = .inr (k, p) ∧ v = some (.int (nI k)) ∧ JP J' 146 p)
theorem TxP.tr {I I1 I' : amI} {J J1 J' : amJ} {R R' : amR} {o : Nat ⊕ (Nat × Po)} {v : Option Value} (h : TxP I1 J1 R o v I' J' R') (h1 : FrT I I1) (h3 : I1 143 3 = I 143 3) (h2 : Fr J J1 146) : TxP I J R o v I' J' R' := ⟨h1.tr h.1, h.2.1.trans h3, h.2.2.1, h2.tr h.2.2.2.1, h.2.2.2.2⟩
section TEXT
variable {L : Nat} {I : amI} {J : amJ} {R : amR} {Q : amQ} {T : Nat → Int32} {n k b c v : Nat} {p : Po}
set_option maxHeartbeats 2000000 in
theorem tx_loop {y1 : Int32} (hR : amRok R) : ∀ (f b ab tm : Nat) (mi : Bool) (mz : Int32) (p : Po) (I : amI) (J : amJ) (l6 : Option Value), TT I T n → b ≤ n → ab < f → ab ≤ 5 → tm + f ≤ 10 → mz = bI mi → JP J 146 p → Ex 92 38 [some (.ref 143), some (.int y1), some (.int (nI b)), some (.int mz), some (.int (nI ab)), some (.int (nI tm)), l6] [] (amSH L) I J R (fun v I' J' R' => TxP I J R (txN T f b mi ab p) v I' J' R') := by
  intro f
  induction f with
  | zero => intro b ab tm mi mz p I J l6 hT hb h; omega
  | succ f ih =>
    intro b ab tm mi mz p I J l6 hT hb hab hab5 htm hmz hp
    have hn := hT.2.1
    have hz := hT.2.2.2
    rw [txN]
    refine LI5 e92_38 ?_
    refine Ki e92_40 kbipush_120 ?_
    refine CN_ge (a := tm) (b := 120) e92_42 t92_42 rfl (by decide) (by omega) (by omega) (fun q => absurd q (by omega)) (fun _ => ?_)
    refine LA0 e92_45 ?_
    refine LI2 e92_46 ?_
    refine Cv1p e92_47 c92_93 (o143 L) (Nat.le_of_ble_eq_true rfl) (Nat.le_of_ble_eq_true rfl) (t_term hR hT (by omega)) ?_
    rintro v I1 J1 R1 ⟨⟨hF, h3, hD⟩, hJ1, hR1⟩
    subst hJ1
    subst hR1
    have hT1 := hT.fr hF
    rcases hD with ⟨e, hE, rfl⟩ | ⟨k, r, s, hE, rfl, h6, h7⟩
    · rw [hE]
      have he := trmS_l hz hb hE
      refine SI6 e92_50 rfl ?_
      refine LI6 e92_52 ?_
      refine B_ge e92_54 t92_54 (fun q => absurd q (fI_nge (by omega))) (fun _ => ?_)
      refine LI6 e92_57 ?_
      exact Ri e92_59 rt92 (⟨FrT.tr hF FrT.rf, h3, rfl, Fr.rf, Or.inl ⟨e, rfl, rfl⟩⟩)
    · rw [hE]
      dsimp only
      have he := trmS_r hz hb hE
      refine SI6 e92_50 rfl ?_
      refine LI6 e92_52 ?_
      refine B_ge e92_54 t92_54 (fun _ => ?_) (fun q => absurd (nI_nn (by omega)) q)
      refine LA0 e92_60 ?_
      refine Gi e92_61 (o143 L) (amGi_of f646 (by decide)) ?_
      rw [h6]
      refine LI4 e92_64 ?_
      refine CN_lt (a := r) (b := ab) e92_66 t92_66 rfl rfl (by omega) (by omega) (fun h66 => ?_) (fun h66 => ?_)
      · refine LA0 e92_74 ?_
        refine Gi e92_75 (o143 L) (amGi_of f646 (by decide)) ?_
        rw [h6]
        refine SI4 e92_78 rfl ?_
        refine LA0 e92_80 ?_
        refine Gr e92_81 (o143 L) (hR 143 2 145 rfl) f642 ?_
        refine LA0 e92_84 ?_
        refine Gi e92_85 (o143 L) (amGi_of f646 (by decide)) ?_
        rw [h6]
        refine LI3 e92_88 ?_
        refine B_eq e92_89 t92_89 (fun h89 => ?_) (fun h89 => ?_)
        · refine LA0 e92_101 ?_
          refine Gi e92_102 (o143 L) (amGi_of f647 (by decide)) ?_
          rw [h7]
          refine I2l e92_105 ?_
          have hm : (if mi = true then -(s : Int) else s) = (s : Int) := by
            subst hmz
            cases mi <;> first | rfl | exact absurd rfl h89 | exact absurd h89 (by decide)
          rw [hm]
          rw [nI_oI (by omega)]
          refine Cv2p e92_106 c92_4 (o145 L) (Nat.le_of_ble_eq_true rfl) (Nat.le_of_ble_eq_true rfl) (p_put (v := (s : Int)) (po145 hR) (hp) (by omega)) ?_
          rintro _ I2 J2 R2 ⟨rfl, hI2, hR2, hF2, hP2⟩
          subst hI2
          subst hR2
          refine LA0 e92_109 ?_
          refine LI6 e92_110 ?_
          refine Cv1 e92_112 c92_94 (o143 L) (Nat.le_of_ble_eq_true rfl) (Nat.le_of_ble_eq_true rfl) ((tq_at hR hT1 (by omega))) ?_
          refine Ki e92_115 kbipush_43 ?_
          refine C_eq e92_117 t92_117 (fun h117 => ?_) (fun h117 => ?_)
          · refine LA0 e92_134 ?_
            refine LI6 e92_135 ?_
            refine Cv1 e92_137 c92_94 (o143 L) (Nat.le_of_ble_eq_true rfl) (Nat.le_of_ble_eq_true rfl) ((tq_at hR hT1 (by omega))) ?_
            refine Ki e92_140 kbipush_45 ?_
            refine C_ne e92_142 t92_142 (fun h142 => ?_) (fun h142 => ?_)
            · refine Ki e92_149 kiconst_0 ?_
              refine SI3 e92_150 rfl ?_
              refine LI6 e92_151 ?_
              refine Ki e92_153 kiconst_1 ?_
              refine IaddN (a := k) (b := 1) e92_154 rfl (by decide) ?_
              refine SI2 e92_155 rfl ?_
              refine IncN5 (m := tm) e92_156 rfl ?_
              refine Go e92_159 t92_159 ?_
              rw [if_pos h66, if_pos (Or.inl h117)]
              exact (ih (k + 1) r (tm + 1) _ _ _ _ _ _ hT1 (T_lt hz (fun z => by rw [z] at h117; exact absurd h117 (by decide))) (by omega) (by omega) (by omega) (by rw [decide_eq_false h142]; rfl) hP2).mono (fun v I' J' R' q => q.tr hF h3 hF2)
            · refine Ki e92_145 kiconst_1 ?_
              refine Go e92_146 t92_146 ?_
              refine SI3 e92_150 rfl ?_
              refine LI6 e92_151 ?_
              refine Ki e92_153 kiconst_1 ?_
              refine IaddN (a := k) (b := 1) e92_154 rfl (by decide) ?_
              refine SI2 e92_155 rfl ?_
              refine IncN5 (m := tm) e92_156 rfl ?_
              refine Go e92_159 t92_159 ?_
              rw [if_pos h66, if_pos (Or.inl h117)]
              exact (ih (k + 1) r (tm + 1) _ _ _ _ _ _ hT1 (T_lt hz (fun z => by rw [z] at h117; exact absurd h117 (by decide))) (by omega) (by omega) (by omega) (by rw [decide_eq_true (Decidable.not_not.mp h142)]; rfl) hP2).mono (fun v I' J' R' q => q.tr hF h3 hF2)
          · refine LA0 e92_120 ?_
            refine LI6 e92_121 ?_
            refine Cv1 e92_123 c92_94 (o143 L) (Nat.le_of_ble_eq_true rfl) (Nat.le_of_ble_eq_true rfl) ((tq_at hR hT1 (by omega))) ?_
            refine Ki e92_126 kbipush_45 ?_
            refine C_eq e92_128 t92_128 (fun h128 => ?_) (fun h128 => ?_)
            · refine LA0 e92_134 ?_
              refine LI6 e92_135 ?_
              refine Cv1 e92_137 c92_94 (o143 L) (Nat.le_of_ble_eq_true rfl) (Nat.le_of_ble_eq_true rfl) ((tq_at hR hT1 (by omega))) ?_
              refine Ki e92_140 kbipush_45 ?_
              refine C_ne e92_142 t92_142 (fun h142 => ?_) (fun h142 => ?_)
              · refine Ki e92_149 kiconst_0 ?_
                refine SI3 e92_150 rfl ?_
                refine LI6 e92_151 ?_
                refine Ki e92_153 kiconst_1 ?_
                refine IaddN (a := k) (b := 1) e92_154 rfl (by decide) ?_
                refine SI2 e92_155 rfl ?_
                refine IncN5 (m := tm) e92_156 rfl ?_
                refine Go e92_159 t92_159 ?_
                rw [if_pos h66, if_pos (Or.inr h128)]
                exact (ih (k + 1) r (tm + 1) _ _ _ _ _ _ hT1 (T_lt hz (fun z => by rw [z] at h128; exact absurd h128 (by decide))) (by omega) (by omega) (by omega) (by rw [decide_eq_false h142]; rfl) hP2).mono (fun v I' J' R' q => q.tr hF h3 hF2)
              · refine Ki e92_145 kiconst_1 ?_
                refine Go e92_146 t92_146 ?_
                refine SI3 e92_150 rfl ?_
                refine LI6 e92_151 ?_
                refine Ki e92_153 kiconst_1 ?_
                refine IaddN (a := k) (b := 1) e92_154 rfl (by decide) ?_
                refine SI2 e92_155 rfl ?_
                refine IncN5 (m := tm) e92_156 rfl ?_
                refine Go e92_159 t92_159 ?_
                rw [if_pos h66, if_pos (Or.inr h128)]
                exact (ih (k + 1) r (tm + 1) _ _ _ _ _ _ hT1 (T_lt hz (fun z => by rw [z] at h128; exact absurd h128 (by decide))) (by omega) (by omega) (by omega) (by rw [decide_eq_true (Decidable.not_not.mp h142)]; rfl) hP2).mono (fun v I' J' R' q => q.tr hF h3 hF2)
            · refine LI6 e92_131 ?_
              exact Ri e92_133 rt92 (by
              rw [if_pos h66, if_neg (fun z => z.elim h117 h128)]
              exact ⟨hF, h3, rfl, hF2, Or.inr ⟨k, _, rfl, rfl, hP2⟩⟩)
        · refine LA0 e92_92 ?_
          refine Gi e92_93 (o143 L) (amGi_of f647 (by decide)) ?_
          rw [h7]
          refine Ineg e92_96 ?_
          refine I2l e92_97 ?_
          have hm : (if mi = true then -(s : Int) else s) = -(s : Int) := by
            subst hmz
            cases mi <;> first | rfl | exact absurd rfl h89 | exact absurd h89 (by decide)
          rw [hm]
          rw [neg64 s (by omega)]
          refine Go e92_98 t92_98 ?_
          refine Cv2p e92_106 c92_4 (o145 L) (Nat.le_of_ble_eq_true rfl) (Nat.le_of_ble_eq_true rfl) (p_put (v := (-(s : Int))) (po145 hR) (hp) (by omega)) ?_
          rintro _ I2 J2 R2 ⟨rfl, hI2, hR2, hF2, hP2⟩
          subst hI2
          subst hR2
          refine LA0 e92_109 ?_
          refine LI6 e92_110 ?_
          refine Cv1 e92_112 c92_94 (o143 L) (Nat.le_of_ble_eq_true rfl) (Nat.le_of_ble_eq_true rfl) ((tq_at hR hT1 (by omega))) ?_
          refine Ki e92_115 kbipush_43 ?_
          refine C_eq e92_117 t92_117 (fun h117 => ?_) (fun h117 => ?_)
          · refine LA0 e92_134 ?_
            refine LI6 e92_135 ?_
            refine Cv1 e92_137 c92_94 (o143 L) (Nat.le_of_ble_eq_true rfl) (Nat.le_of_ble_eq_true rfl) ((tq_at hR hT1 (by omega))) ?_
            refine Ki e92_140 kbipush_45 ?_
            refine C_ne e92_142 t92_142 (fun h142 => ?_) (fun h142 => ?_)
            · refine Ki e92_149 kiconst_0 ?_
              refine SI3 e92_150 rfl ?_
              refine LI6 e92_151 ?_
              refine Ki e92_153 kiconst_1 ?_
              refine IaddN (a := k) (b := 1) e92_154 rfl (by decide) ?_
              refine SI2 e92_155 rfl ?_
              refine IncN5 (m := tm) e92_156 rfl ?_
              refine Go e92_159 t92_159 ?_
              rw [if_pos h66, if_pos (Or.inl h117)]
              exact (ih (k + 1) r (tm + 1) _ _ _ _ _ _ hT1 (T_lt hz (fun z => by rw [z] at h117; exact absurd h117 (by decide))) (by omega) (by omega) (by omega) (by rw [decide_eq_false h142]; rfl) hP2).mono (fun v I' J' R' q => q.tr hF h3 hF2)
            · refine Ki e92_145 kiconst_1 ?_
              refine Go e92_146 t92_146 ?_
              refine SI3 e92_150 rfl ?_
              refine LI6 e92_151 ?_
              refine Ki e92_153 kiconst_1 ?_
              refine IaddN (a := k) (b := 1) e92_154 rfl (by decide) ?_
              refine SI2 e92_155 rfl ?_
              refine IncN5 (m := tm) e92_156 rfl ?_
              refine Go e92_159 t92_159 ?_
              rw [if_pos h66, if_pos (Or.inl h117)]
              exact (ih (k + 1) r (tm + 1) _ _ _ _ _ _ hT1 (T_lt hz (fun z => by rw [z] at h117; exact absurd h117 (by decide))) (by omega) (by omega) (by omega) (by rw [decide_eq_true (Decidable.not_not.mp h142)]; rfl) hP2).mono (fun v I' J' R' q => q.tr hF h3 hF2)
          · refine LA0 e92_120 ?_
            refine LI6 e92_121 ?_
            refine Cv1 e92_123 c92_94 (o143 L) (Nat.le_of_ble_eq_true rfl) (Nat.le_of_ble_eq_true rfl) ((tq_at hR hT1 (by omega))) ?_
            refine Ki e92_126 kbipush_45 ?_
            refine C_eq e92_128 t92_128 (fun h128 => ?_) (fun h128 => ?_)
            · refine LA0 e92_134 ?_
              refine LI6 e92_135 ?_
              refine Cv1 e92_137 c92_94 (o143 L) (Nat.le_of_ble_eq_true rfl) (Nat.le_of_ble_eq_true rfl) ((tq_at hR hT1 (by omega))) ?_
              refine Ki e92_140 kbipush_45 ?_
              refine C_ne e92_142 t92_142 (fun h142 => ?_) (fun h142 => ?_)
              · refine Ki e92_149 kiconst_0 ?_
                refine SI3 e92_150 rfl ?_
                refine LI6 e92_151 ?_
                refine Ki e92_153 kiconst_1 ?_
                refine IaddN (a := k) (b := 1) e92_154 rfl (by decide) ?_
                refine SI2 e92_155 rfl ?_
                refine IncN5 (m := tm) e92_156 rfl ?_
                refine Go e92_159 t92_159 ?_
                rw [if_pos h66, if_pos (Or.inr h128)]
                exact (ih (k + 1) r (tm + 1) _ _ _ _ _ _ hT1 (T_lt hz (fun z => by rw [z] at h128; exact absurd h128 (by decide))) (by omega) (by omega) (by omega) (by rw [decide_eq_false h142]; rfl) hP2).mono (fun v I' J' R' q => q.tr hF h3 hF2)
              · refine Ki e92_145 kiconst_1 ?_
                refine Go e92_146 t92_146 ?_
                refine SI3 e92_150 rfl ?_
                refine LI6 e92_151 ?_
                refine Ki e92_153 kiconst_1 ?_
                refine IaddN (a := k) (b := 1) e92_154 rfl (by decide) ?_
                refine SI2 e92_155 rfl ?_
                refine IncN5 (m := tm) e92_156 rfl ?_
                refine Go e92_159 t92_159 ?_
                rw [if_pos h66, if_pos (Or.inr h128)]
                exact (ih (k + 1) r (tm + 1) _ _ _ _ _ _ hT1 (T_lt hz (fun z => by rw [z] at h128; exact absurd h128 (by decide))) (by omega) (by omega) (by omega) (by rw [decide_eq_true (Decidable.not_not.mp h142)]; rfl) hP2).mono (fun v I' J' R' q => q.tr hF h3 hF2)
            · refine LI6 e92_131 ?_
              exact Ri e92_133 rt92 (by
              rw [if_pos h66, if_neg (fun z => z.elim h117 h128)]
              exact ⟨hF, h3, rfl, hF2, Or.inr ⟨k, _, rfl, rfl, hP2⟩⟩)
      · refine LI2 e92_69 ?_
        refine Cs1 e92_70 c92_96 (Nat.le_of_ble_eq_true rfl) (Nat.le_of_ble_eq_true rfl) (t_fault) ?_
        exact Ri e92_73 rt92 (by
        rw [if_neg (by omega)]
        exact ⟨hF, h3, rfl, Fr.rf, Or.inl ⟨b, rfl, rfl⟩⟩)
set_option maxHeartbeats 2000000 in
theorem t_text (hR : amRok R) (hT : TT I T n) (hb : b ≤ n) : Cl 92 [.ref 143, .int (nI b)] (amSH L) I J R (fun v I' J' R' => TxP I J R (txtS T b) v I' J' R') := by
  have hn := hT.2.1
  show Ex 92 0 [some (.ref 143), some (.int (nI b)), none, none, none, none, none] [] (amSH L) I J R _
  unfold txtS
  refine LA0 e92_0 ?_
  refine Gr e92_1 (o143 L) (hR 143 2 145 rfl) f642 ?_
  refine Cv0p e92_4 c92_7 (o145 L) (Nat.le_of_ble_eq_true rfl) (Nat.le_of_ble_eq_true rfl) (p_clear (po145 hR)) ?_
  rintro _ I1 J1 R1 ⟨rfl, hI1, hR1, hF1, hP1⟩
  subst hI1
  subst hR1
  refine LI1 e92_7 ?_
  refine SI2 e92_8 rfl ?_
  refine LA0 e92_9 ?_
  refine LI2 e92_10 ?_
  refine Cv1 e92_11 c92_94 (o143 L) (Nat.le_of_ble_eq_true rfl) (Nat.le_of_ble_eq_true rfl) ((tq_at hR hT (by omega))) ?_
  refine Ki e92_14 kbipush_45 ?_
  refine C_ne e92_16 t92_16 (fun h16 => ?_) (fun h16 => ?_)
  · refine Ki e92_23 kiconst_0 ?_
    refine SI3 e92_24 rfl ?_
    refine LI3 e92_25 ?_
    refine B_eq e92_26 t92_26 (fun _ => ?_) (fun q => absurd (rfl) q)
    refine Ki e92_32 kiconst_5 ?_
    refine SI4 e92_33 rfl ?_
    refine Ki e92_35 kiconst_0 ?_
    refine SI5 e92_36 rfl ?_
    rw [if_neg h16]
    exact (tx_loop hR 6 b 5 0 false _ zP _ _ _ hT hb (by omega) (by omega) (by omega) rfl hP1).mono (fun v I' J' R' q => q.tr FrT.rf rfl hF1)
  · refine Ki e92_19 kiconst_1 ?_
    refine Go e92_20 t92_20 ?_
    refine SI3 e92_24 rfl ?_
    refine LI3 e92_25 ?_
    refine B_eq e92_26 t92_26 (fun q => absurd q (by decide)) (fun _ => ?_)
    refine IncN2 (m := b) e92_29 rfl ?_
    refine Ki e92_32 kiconst_5 ?_
    refine SI4 e92_33 rfl ?_
    refine Ki e92_35 kiconst_0 ?_
    refine SI5 e92_36 rfl ?_
    rw [if_pos (Decidable.not_not.mp h16)]
    exact (tx_loop hR 6 (b + 1) 5 0 true _ zP _ _ _ hT (T_lt hT.2.2.2 (fun z => h16 (fun y => by rw [z] at y; exact absurd y (by decide)))) (by omega) (by omega) (by omega) rfl hP1).mono (fun v I' J' R' q => q.tr FrT.rf rfl hF1)
end TEXT
