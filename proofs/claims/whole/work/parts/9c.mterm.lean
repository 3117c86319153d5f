/-! the reference: here, wrong, a term, a text (printed by wip/whole/t9c.py) -/
/-- only the reader's cells may differ -/
def FrW (Ia Ia' : amI) : Prop := ∀ y i, ¬ (y = 152 ∧ (i = 37 ∨ i = 38 ∨ i = 39 ∨ i = 43)) → Ia' y i = Ia y i
theorem FrW.rf {Ia : amI} : FrW Ia Ia := fun _ _ _ => rfl
theorem FrW.tr {Ia Ia1 Ia2 : amI} (h1 : FrW Ia Ia1) (h2 : FrW Ia1 Ia2) : FrW Ia Ia2 := fun y i a => (h2 y i a).trans (h1 y i a)
theorem FrW.up {Ia Ia1 : amI} {k : Nat} {v : Int32} (h : FrW Ia Ia1) (hk : k = 37 ∨ k = 38 ∨ k = 39 ∨ k = 43) : FrW Ia (amU Ia1 152 k v) := fun y i a => by
  rw [up_o (by omega)]
  exact h y i a
theorem M4.w {Ia Ia1 : amI} {T : Nat → Int32} {n : Nat} (h : M4 Ia T n) (hf : FrW Ia Ia1) : M4 Ia1 T n := h.cg (hf _ _ (by omega)) (fun i => hf _ _ (by omega))
/-- the tape as the reference holds it -/
def MT (Ia : amI) (T : Nat → Int32) (n : Nat) : Prop := M4 Ia T n ∧ n ≤ 120 ∧ ∀ k, n ≤ k → T k = 0
theorem MT.w {Ia Ia1 : amI} {T : Nat → Int32} {n : Nat} (h : MT Ia T n) (hf : FrW Ia Ia1) : MT Ia1 T n := ⟨h.1.w hf, h.2⟩
theorem sg_mul {c : Int} {z : Int32} {s : Nat} (hc : (c = 1 ∧ z = 1) ∨ (c = -1 ∧ z = -1)) (hs : s < 1000) : z.toInt64 * (nI s).toInt64 = oI (c * (s : Int)) := by
  rw [i2l_oI, i2l_oI, ← oI_mul, nI_toInt (by omega)]
  rcases hc with ⟨rfl, rfl⟩ | ⟨rfl, rfl⟩ <;> rfl
section REF36
variable {L : Nat} {Ia : amI} {Ja : amJ} {Ra : amR} {Q : amQ} {T : Nat → Int32} {n k b e s ab : Nat} {p q : Po}
set_option maxHeartbeats 2000000 in
theorem m_here (hR : amRok Ra) (hT : MT Ia T n) (ha : Ia 152 37 = nI b) (hb : b < 2 ^ 31) : Rv 221 [.ref 152] (amSH L) Ia Ja Ra (.int (T b)) := by
  intro Q hQ
  obtain ⟨h4, hn, hz⟩ := hT
  show Ex 221 0 [some (.ref 152)] [] (amSH L) Ia Ja Ra _
  refine LA0 e221_0 ?_
  refine Gi e221_1 (o152 L) (amGi_of f805 (by decide)) ?_
  rw [ha]
  refine LA0 e221_4 ?_
  refine Gi e221_5 (o152 L) (amGi_of f804 (by decide)) ?_
  rw [h4.1]
  refine CN_ge (a := b) (b := n) e221_8 t221_8 rfl rfl (by omega) (by omega) (fun h8 => ?_) (fun h8 => ?_)
  · refine Ki e221_23 kiconst_0 ?_
    exact Ri e221_24 rt221 (by
    rw [hz b (by omega)] at hQ
    exact hQ)
  · refine LA0 e221_11 ?_
    refine Gr e221_12 (o152 L) (hR 152 35 199 rfl) f803 ?_
    refine LA0 e221_15 ?_
    refine Gi e221_16 (o152 L) (amGi_of f805 (by decide)) ?_
    rw [ha]
    refine AiN (k := b) e221_19 (o199 L) rfl (by omega) (by decide) ?_
    rw [h4.2 b (by omega)]
    refine Go e221_20 t221_20 ?_
    exact Ri e221_24 rt221 (hQ)
set_option maxHeartbeats 2000000 in
theorem m_wrong {x : Int32} (h0 : Ia 152 38 = 0) : Cl 222 [.ref 152, .int x] (amSH L) Ia Ja Ra (fun v Ia' Ja' Ra' => v = none ∧ Ia' = amU (amU Ia 152 38 1) 152 39 x ∧ Ja' = Ja ∧ Ra' = Ra) := by
  show Ex 222 0 [some (.ref 152), some (.int x)] [] (amSH L) Ia Ja Ra _
  refine LA0 e222_0 ?_
  refine Gi e222_1 (o152 L) (amGi_of f806 (by decide)) ?_
  rw [h0]
  refine B_eq e222_4 t222_4 (fun _ => ?_) (fun q => absurd (rfl) q)
  refine LA0 e222_8 ?_
  refine Ki e222_9 kiconst_1 ?_
  refine Pz e222_10 (o152 L) f806 (by decide) ?_
  refine LA0 e222_13 ?_
  refine LI1 e222_14 ?_
  refine Pi e222_15 (o152 L) f807 ?_
  exact Rvd e222_18 rt222 (⟨rfl, rfl, rfl, rfl⟩)
theorem m_wrong1 {x : Int32} (h0 : Ia 152 38 = 1) : Cl 222 [.ref 152, .int x] (amSH L) Ia Ja Ra (fun v Ia' Ja' Ra' => v = none ∧ Ia' = Ia ∧ Ja' = Ja ∧ Ra' = Ra) := by
  show Ex 222 0 [some (.ref 152), some (.int x)] [] (amSH L) Ia Ja Ra _
  refine LA0 e222_0 ?_
  refine Gi e222_1 (o152 L) (amGi_of f806 (by decide)) ?_
  rw [h0]
  refine B_eq e222_4 t222_4 (fun q => absurd q (by decide)) (fun _ => ?_)
  exact Rvd e222_7 rt222 (⟨rfl, rfl, rfl, rfl⟩)
set_option maxHeartbeats 2000000 in
theorem m_figs {z : Int32} (hR : amRok Ra) : ∀ (m k v i : Nat) (Ia : amI), MT Ia T n → i + m = 3 → k ≤ 200 → Ia 152 37 = nI k → (∀ Ia' i2, FrW Ia Ia' → (∀ x, x ≠ 37 → Ia' 152 x = Ia 152 x) → Ia' 152 37 = nI (fgN T m k v).1 → Ex 223 89 [some (.ref 152), some (.int z), some (.int (nI b)), some (.int 1), some (.int (nI (fgN T m k v).2)), some (.int (nI i2)), none] [] (amSH L) Ia' Ja Ra Q) → Ex 223 26 [some (.ref 152), some (.int z), some (.int (nI b)), some (.int 1), some (.int (nI v)), some (.int (nI i)), none] [] (amSH L) Ia Ja Ra Q := by
  intro m
  induction m with
  | zero =>
    intro k v i Ia hT hi hk ha hQ
    refine LI5 e223_26 ?_
    refine Ki e223_28 kiconst_3 ?_
    refine CN_ge (a := i) (b := 3) e223_29 t223_29 rfl (by decide) (by omega) (by omega) (fun _ => ?_) (fun q => by omega)
    exact hQ Ia i FrW.rf (fun _ _ => rfl) ha
  | succ m ih =>
    intro k v i Ia hT hi hk ha hQ
    by_cases g : isFg (T k)
    · have ef : fgN T (m + 1) k v = fgN T m (k + 1) (v * 10 + dg (T k)) := by rw [fgN, if_pos g]
      rw [ef] at hQ
      have hd := dg_le g
      have hkn : k < n := T_lt hT.2.2 (fg_n0 g)
      have hkv := hT.1.2 k hkn
      have hn120 := hT.2.1
      refine LI5 e223_26 ?_
      refine Ki e223_28 kiconst_3 ?_
      refine CN_ge (a := i) (b := 3) e223_29 t223_29 rfl (by decide) (by omega) (by omega) (fun q => absurd q (by omega)) (fun _ => ?_)
      refine LI3 e223_32 ?_
      refine B_eq e223_33 t223_33 (fun q => absurd q (by decide)) (fun _ => ?_)
      refine LA0 e223_36 ?_
      refine Cv0 e223_37 c223_221 (o152 L) (Nat.le_of_ble_eq_true rfl) (Nat.le_of_ble_eq_true rfl) ((m_here (b := k) hR hT ha (by omega))) ?_
      refine I2l e223_40 ?_
      refine Kd e223_41 kj17 ?_
      refine Kd e223_44 kj16 ?_
      refine Cs3 e223_47 c223_152 (Nat.le_of_ble_eq_true rfl) (Nat.le_of_ble_eq_true rfl) (m_in) ?_
      rw [show decide ((48 : Int64) ≤ (T k).toInt64 ∧ (T k).toInt64 ≤ 57) = decide (48 ≤ (T k).toInt ∧ (T k).toInt ≤ 57) from min64 (a := 48) (b := 57), decide_eq_true g]
      rw [show bI true = 1 from rfl]
      refine B_eq e223_50 t223_50 (fun q => absurd q (by decide)) (fun _ => ?_)
      refine Ki e223_53 kbipush_10 ?_
      refine LI4 e223_55 ?_
      refine ImulN (a := 10) (b := v) e223_57 (by decide) rfl ?_
      refine LA0 e223_58 ?_
      refine Gr e223_59 (o152 L) (hR 152 35 199 rfl) f803 ?_
      refine LA0 e223_62 ?_
      refine Gi e223_63 (o152 L) (amGi_of f805 (by decide)) ?_
      rw [ha]
      refine AiN (k := k) e223_66 (o199 L) rfl (by omega) (by decide) ?_
      rw [hkv, dg_nI g]
      refine IaddN (a := (10 * v)) (b := (48 + dg (T k))) e223_67 rfl rfl ?_
      refine Ki e223_68 kbipush_48 ?_
      refine IsubN (a := ((10 * v) + (48 + dg (T k)))) (b := 48) e223_70 rfl (by decide) (by omega) ?_
      refine SI4 e223_71 rfl ?_
      refine LA0 e223_73 ?_
      refine Dup e223_74 rfl ?_
      refine Gi e223_75 (o152 L) (amGi_of f805 (by decide)) ?_
      rw [ha]
      refine Ki e223_78 kiconst_1 ?_
      refine IaddN (a := k) (b := 1) e223_79 rfl (by decide) ?_
      refine Pi e223_80 (o152 L) f805 ?_
      refine IncN5 (m := i) e223_83 rfl ?_
      refine Go e223_86 t223_86 ?_
      have e7 : 10 * v + (48 + dg (T k)) - 48 = v * 10 + dg (T k) := by omega
      rw [e7]
      exact ih (k + 1) _ (i + 1) _ (hT.w (FrW.rf.up (by omega))) (by omega) (by omega) amU_same (fun Ia' i2 q1 q2 q3 => hQ Ia' i2 ((FrW.rf.up (by omega)).tr q1) (fun x hx => (q2 x hx).trans (up_o (by omega))) q3)
    · have ef : fgN T (m + 1) k v = (k, v) := by rw [fgN, if_neg g]
      rw [ef] at hQ
      refine LI5 e223_26 ?_
      refine Ki e223_28 kiconst_3 ?_
      refine CN_ge (a := i) (b := 3) e223_29 t223_29 rfl (by decide) (by omega) (by omega) (fun q => absurd q (by omega)) (fun _ => ?_)
      refine LI3 e223_32 ?_
      refine B_eq e223_33 t223_33 (fun q => absurd q (by decide)) (fun _ => ?_)
      refine LA0 e223_36 ?_
      refine Cv0 e223_37 c223_221 (o152 L) (Nat.le_of_ble_eq_true rfl) (Nat.le_of_ble_eq_true rfl) ((m_here (b := k) hR hT ha (by omega))) ?_
      refine I2l e223_40 ?_
      refine Kd e223_41 kj17 ?_
      refine Kd e223_44 kj16 ?_
      refine Cs3 e223_47 c223_152 (Nat.le_of_ble_eq_true rfl) (Nat.le_of_ble_eq_true rfl) (m_in) ?_
      rw [show decide ((48 : Int64) ≤ (T k).toInt64 ∧ (T k).toInt64 ≤ 57) = decide (48 ≤ (T k).toInt ∧ (T k).toInt ≤ 57) from min64 (a := 48) (b := 57), decide_eq_false g]
      rw [show bI false = 0 from rfl]
      refine B_eq e223_50 t223_50 (fun _ => ?_) (fun q => absurd (rfl) q)
      exact hQ Ia i FrW.rf (fun _ _ => rfl) ha
/-- what term() leaves -/
def TeP (Ia : amI) (Ja : amJ) (Ra : amR) (T : Nat → Int32) (b ab : Nat) (c : Int) (p : Po) (v : Option Value) (Ia' : amI) (Ja' : amJ) (Ra' : amR) : Prop := v = none ∧ Ra' = Ra ∧ FrW Ia Ia' ∧ Fr Ja Ja' 156 ∧ ((∃ e, (trmS T b = .inl e ∨ ((∃ k r s, trmS T b = .inr (k, r, s) ∧ ¬ r < ab) ∧ e = b)) ∧ Ia' 152 38 = 1 ∧ Ia' 152 39 = nI e) ∨ ∃ k r s, trmS T b = .inr (k, r, s) ∧ r < ab ∧ Ia' 152 38 = 0 ∧ Ia' 152 37 = nI k ∧ Ia' 152 43 = nI r ∧ JP Ja' 156 (pU p r (c * (s : Int))))
set_option maxHeartbeats 2000000 in
theorem m_tr1 {Ia1 : amI} {z y5 : Int32} {c : Int} (hR : amRok Ra) (hT : MT Ia1 T n) (h48 : ¬ T b = 48) (hE : fgN T 3 b 0 = (e, s)) (heb : ¬ e = b) (he : e ≤ 250) (hs : s < 1000) (hF : FrW Ia Ia1) (ha : Ia1 152 37 = nI e) (h0 : Ia1 152 38 = 0) (hab : Ia1 152 43 = nI ab) (hab5 : ab ≤ 5) (hp : JP Ja 156 p) (hc : (c = 1 ∧ z = 1) ∨ (c = -1 ∧ z = -1)) : Ex 223 89 [some (.ref 152), some (.int z), some (.int (nI b)), some (.int 1), some (.int (nI s)), some (.int y5), none] [] (amSH L) Ia1 Ja Ra (TeP Ia Ja Ra T b ab c p) := by
  refine LA0 e223_89 ?_
  refine Cv0 e223_90 c223_221 (o152 L) (Nat.le_of_ble_eq_true rfl) (Nat.le_of_ble_eq_true rfl) ((m_here (b := e) hR (hT.w FrW.rf) ha (by omega))) ?_
  refine Ki e223_93 kbipush_120 ?_
  refine C_ne e223_95 t223_95 (fun h95 => ?_) (fun h95 => ?_)
  · refine Ki e223_102 kiconst_0 ?_
    refine SI5 e223_103 rfl ?_
    refine LI3 e223_105 ?_
    refine B_ne e223_106 t223_106 (fun _ => ?_) (fun q => absurd (by decide) q)
    refine Ki e223_123 kiconst_0 ?_
    refine SI6 e223_124 rfl ?_
    refine LI5 e223_126 ?_
    refine B_eq e223_128 t223_128 (fun _ => ?_) (fun q => absurd (rfl) q)
    refine LI6 e223_213 ?_
    refine LA0 e223_215 ?_
    refine Gi e223_216 (o152 L) (amGi_of f811 (by decide)) ?_
    rw [hab]
    refine CN_lt (a := 0) (b := ab) e223_219 t223_219 (by decide) rfl (by omega) (by omega) (fun h219 => ?_) (fun h219 => ?_)
    · refine LA0 e223_228 ?_
      refine LI6 e223_229 ?_
      refine Pi e223_231 (o152 L) f811 ?_
      refine LA0 e223_234 ?_
      refine Gr e223_235 (o152 L) (hR 152 6 156 rfl) f774 ?_
      refine LI6 e223_238 ?_
      refine LI1 e223_240 ?_
      refine I2l e223_241 ?_
      refine LI3 e223_242 ?_
      refine B_eq e223_243 t223_243 (fun q => absurd q (by decide)) (fun _ => ?_)
      refine LI4 e223_246 ?_
      refine Go e223_248 t223_248 ?_
      refine I2l e223_252 ?_
      refine Lmul e223_253 ?_
      rw [sg_mul hc hs]
      refine WjN (k := 0) e223_254 (o156 L) (by decide) (by omega) (by decide) ?_
      exact Rvd e223_255 rt223 (by
      have ht : trmS T b = .inr (e, 0, s) := by
        unfold trmS
        rw [hE, if_neg h48]
        dsimp only
        rw [if_pos h95, if_neg heb]
      refine ⟨rfl, rfl, (hF.up (by omega)), Fr.rf.up, ?_⟩
      exact Or.inr ⟨_, _, _, ht, by omega, (by (repeat rw [up_o (by omega)]); first | exact amU_same | exact h0), (by (repeat rw [up_o (by omega)]); first | exact amU_same | exact ha), (by (repeat rw [up_o (by omega)]); first | exact amU_same | exact hab), JP.st hp⟩)
    · refine LA0 e223_222 ?_
      refine LI2 e223_223 ?_
      refine Cv1p e223_224 c223_222 (o152 L) (Nat.le_of_ble_eq_true rfl) (Nat.le_of_ble_eq_true rfl) (m_wrong (by (repeat rw [up_o (by omega)]); first | exact amU_same | exact h0)) ?_
      rintro _ Ia9 Ja9 Ra9 ⟨rfl, hI9, hJ9, hR9⟩
      have hI9 := hI9.symm
      subst hI9
      have hJ9 := hJ9.symm
      subst hJ9
      have hR9 := hR9.symm
      subst hR9
      exact Rvd e223_227 rt223 (by
      have ht : trmS T b = .inr (e, 0, s) := by
        unfold trmS
        rw [hE, if_neg h48]
        dsimp only
        rw [if_pos h95, if_neg heb]
      refine ⟨rfl, rfl, ((hF.up (by omega)).up (by omega)), Fr.rf, ?_⟩
      exact Or.inl ⟨b, Or.inr ⟨⟨_, _, _, ht, by omega⟩, rfl⟩, (by (repeat rw [up_o (by omega)]); first | exact amU_same | exact h0), (by (repeat rw [up_o (by omega)]); first | exact amU_same | exact h0)⟩)
  · refine Ki e223_98 kiconst_1 ?_
    refine Go e223_99 t223_99 ?_
    refine SI5 e223_103 rfl ?_
    refine LI3 e223_105 ?_
    refine B_ne e223_106 t223_106 (fun _ => ?_) (fun q => absurd (by decide) q)
    refine Ki e223_123 kiconst_0 ?_
    refine SI6 e223_124 rfl ?_
    refine LI5 e223_126 ?_
    refine B_eq e223_128 t223_128 (fun q => absurd q (by decide)) (fun _ => ?_)
    refine LA0 e223_131 ?_
    refine Dup e223_132 rfl ?_
    refine Gi e223_133 (o152 L) (amGi_of f805 (by decide)) ?_
    rw [ha]
    refine Ki e223_136 kiconst_1 ?_
    refine IaddN (a := e) (b := 1) e223_137 rfl (by decide) ?_
    refine Pi e223_138 (o152 L) f805 ?_
    refine Ki e223_141 kiconst_1 ?_
    refine SI6 e223_142 rfl ?_
    refine LA0 e223_144 ?_
    refine Cv0 e223_145 c223_221 (o152 L) (Nat.le_of_ble_eq_true rfl) (Nat.le_of_ble_eq_true rfl) ((m_here (b := e + 1) hR (hT.w (FrW.rf.up (by omega))) amU_same (by omega))) ?_
    refine Ki e223_148 kbipush_94 ?_
    refine C_ne e223_150 t223_150 (fun h150 => ?_) (fun h150 => ?_)
    · refine LI6 e223_213 ?_
      refine LA0 e223_215 ?_
      refine Gi e223_216 (o152 L) (amGi_of f811 (by decide)) ?_
      rw [up_o (by omega), hab]
      refine CN_lt (a := 1) (b := ab) e223_219 t223_219 (by decide) rfl (by omega) (by omega) (fun h219 => ?_) (fun h219 => ?_)
      · refine LA0 e223_228 ?_
        refine LI6 e223_229 ?_
        refine Pi e223_231 (o152 L) f811 ?_
        refine LA0 e223_234 ?_
        refine Gr e223_235 (o152 L) (hR 152 6 156 rfl) f774 ?_
        refine LI6 e223_238 ?_
        refine LI1 e223_240 ?_
        refine I2l e223_241 ?_
        refine LI3 e223_242 ?_
        refine B_eq e223_243 t223_243 (fun q => absurd q (by decide)) (fun _ => ?_)
        refine LI4 e223_246 ?_
        refine Go e223_248 t223_248 ?_
        refine I2l e223_252 ?_
        refine Lmul e223_253 ?_
        rw [sg_mul hc hs]
        refine WjN (k := 1) e223_254 (o156 L) (by decide) (by omega) (by decide) ?_
        exact Rvd e223_255 rt223 (by
        have ht : trmS T b = .inr (e + 1, 1, s) := by
          unfold trmS
          rw [hE, if_neg h48]
          dsimp only
          rw [if_neg h95, if_pos h150, if_neg heb]
        refine ⟨rfl, rfl, ((hF.up (by omega)).up (by omega)), Fr.rf.up, ?_⟩
        exact Or.inr ⟨_, _, _, ht, by omega, (by (repeat rw [up_o (by omega)]); first | exact amU_same | exact h0), (by (repeat rw [up_o (by omega)]); first | exact amU_same | exact ha), (by (repeat rw [up_o (by omega)]); first | exact amU_same | exact hab), JP.st hp⟩)
      · refine LA0 e223_222 ?_
        refine LI2 e223_223 ?_
        refine Cv1p e223_224 c223_222 (o152 L) (Nat.le_of_ble_eq_true rfl) (Nat.le_of_ble_eq_true rfl) (m_wrong (by (repeat rw [up_o (by omega)]); first | exact amU_same | exact h0)) ?_
        rintro _ Ia9 Ja9 Ra9 ⟨rfl, hI9, hJ9, hR9⟩
        have hI9 := hI9.symm
        subst hI9
        have hJ9 := hJ9.symm
        subst hJ9
        have hR9 := hR9.symm
        subst hR9
        exact Rvd e223_227 rt223 (by
        have ht : trmS T b = .inr (e + 1, 1, s) := by
          unfold trmS
          rw [hE, if_neg h48]
          dsimp only
          rw [if_neg h95, if_pos h150, if_neg heb]
        refine ⟨rfl, rfl, (((hF.up (by omega)).up (by omega)).up (by omega)), Fr.rf, ?_⟩
        exact Or.inl ⟨b, Or.inr ⟨⟨_, _, _, ht, by omega⟩, rfl⟩, (by (repeat rw [up_o (by omega)]); first | exact amU_same | exact h0), (by (repeat rw [up_o (by omega)]); first | exact amU_same | exact h0)⟩)
    · refine LA0 e223_153 ?_
      refine Dup e223_154 rfl ?_
      refine Gi e223_155 (o152 L) (amGi_of f805 (by decide)) ?_
      rw [amU_same]
      refine Ki e223_158 kiconst_1 ?_
      refine IaddN (a := (e + 1)) (b := 1) e223_159 rfl (by decide) ?_
      refine Pi e223_160 (o152 L) f805 ?_
      refine LA0 e223_163 ?_
      refine Cv0 e223_164 c223_221 (o152 L) (Nat.le_of_ble_eq_true rfl) (Nat.le_of_ble_eq_true rfl) ((m_here (b := e + 1 + 1) hR (hT.w ((FrW.rf.up (by omega)).up (by omega))) amU_same (by omega))) ?_
      refine I2l e223_167 ?_
      refine Kd e223_168 kj18 ?_
      refine Kd e223_171 kj19 ?_
      refine Cs3 e223_174 c223_152 (Nat.le_of_ble_eq_true rfl) (Nat.le_of_ble_eq_true rfl) (m_in) ?_
      by_cases gp : 50 ≤ (T (e + 1 + 1)).toInt ∧ (T (e + 1 + 1)).toInt ≤ 52
      · rw [show decide ((50 : Int64) ≤ (T (e + 1 + 1)).toInt64 ∧ (T (e + 1 + 1)).toInt64 ≤ 52) = decide (50 ≤ (T (e + 1 + 1)).toInt ∧ (T (e + 1 + 1)).toInt ≤ 52) from min64 (a := 50) (b := 52), decide_eq_true gp]
        rw [show bI true = 1 from rfl]
        have gf : isFg (T (e + 1 + 1)) := ⟨by omega, by omega⟩
        have hl2 : e + 1 + 1 < n := T_lt hT.2.2 (fg_n0 gf)
        have hdg := dg_le gf
        have hn120 := hT.2.1
        refine B_ne e223_177 t223_177 (fun _ => ?_) (fun q => absurd (by decide) q)
        refine LA0 e223_189 ?_
        refine Gr e223_190 (o152 L) (hR 152 35 199 rfl) f803 ?_
        refine LA0 e223_193 ?_
        refine Gi e223_194 (o152 L) (amGi_of f805 (by decide)) ?_
        rw [amU_same]
        refine AiN (k := (e + 1 + 1)) e223_197 (o199 L) rfl (by omega) (by decide) ?_
        rw [up_o (by omega), up_o (by omega), hT.1.2 _ hl2]
        rw [show T (e + 1 + 1) = nI (48 + dg (T (e + 1 + 1))) from dg_nI gf]
        refine Ki e223_198 kbipush_48 ?_
        refine IsubN (a := (48 + dg (T (e + 1 + 1)))) (b := 48) e223_200 rfl (by decide) (by omega) ?_
        rw [Nat.add_sub_cancel_left]
        refine SI6 e223_201 rfl ?_
        refine LA0 e223_203 ?_
        refine Dup e223_204 rfl ?_
        refine Gi e223_205 (o152 L) (amGi_of f805 (by decide)) ?_
        rw [amU_same]
        refine Ki e223_208 kiconst_1 ?_
        refine IaddN (a := (e + 1 + 1)) (b := 1) e223_209 rfl (by decide) ?_
        refine Pi e223_210 (o152 L) f805 ?_
        refine LI6 e223_213 ?_
        refine LA0 e223_215 ?_
        refine Gi e223_216 (o152 L) (amGi_of f811 (by decide)) ?_
        rw [up_o (by omega), up_o (by omega), up_o (by omega), hab]
        refine CN_lt (a := (dg (T (e + 1 + 1)))) (b := ab) e223_219 t223_219 rfl rfl (by omega) (by omega) (fun h219 => ?_) (fun h219 => ?_)
        · refine LA0 e223_228 ?_
          refine LI6 e223_229 ?_
          refine Pi e223_231 (o152 L) f811 ?_
          refine LA0 e223_234 ?_
          refine Gr e223_235 (o152 L) (hR 152 6 156 rfl) f774 ?_
          refine LI6 e223_238 ?_
          refine LI1 e223_240 ?_
          refine I2l e223_241 ?_
          refine LI3 e223_242 ?_
          refine B_eq e223_243 t223_243 (fun q => absurd q (by decide)) (fun _ => ?_)
          refine LI4 e223_246 ?_
          refine Go e223_248 t223_248 ?_
          refine I2l e223_252 ?_
          refine Lmul e223_253 ?_
          rw [sg_mul hc hs]
          refine WjN (k := (dg (T (e + 1 + 1)))) e223_254 (o156 L) rfl (by omega) (by decide) ?_
          exact Rvd e223_255 rt223 (by
          have ht : trmS T b = .inr (e + 1 + 1 + 1, dg (T (e + 1 + 1)), s) := by
            unfold trmS
            rw [hE, if_neg h48]
            dsimp only
            rw [if_neg h95, if_neg h150, if_pos gp, if_neg heb]
          refine ⟨rfl, rfl, ((((hF.up (by omega)).up (by omega)).up (by omega)).up (by omega)), Fr.rf.up, ?_⟩
          exact Or.inr ⟨_, _, _, ht, by omega, (by (repeat rw [up_o (by omega)]); first | exact amU_same | exact h0), (by (repeat rw [up_o (by omega)]); first | exact amU_same | exact ha), (by (repeat rw [up_o (by omega)]); first | exact amU_same | exact hab), JP.st hp⟩)
        · refine LA0 e223_222 ?_
          refine LI2 e223_223 ?_
          refine Cv1p e223_224 c223_222 (o152 L) (Nat.le_of_ble_eq_true rfl) (Nat.le_of_ble_eq_true rfl) (m_wrong (by (repeat rw [up_o (by omega)]); first | exact amU_same | exact h0)) ?_
          rintro _ Ia9 Ja9 Ra9 ⟨rfl, hI9, hJ9, hR9⟩
          have hI9 := hI9.symm
          subst hI9
          have hJ9 := hJ9.symm
          subst hJ9
          have hR9 := hR9.symm
          subst hR9
          exact Rvd e223_227 rt223 (by
          have ht : trmS T b = .inr (e + 1 + 1 + 1, dg (T (e + 1 + 1)), s) := by
            unfold trmS
            rw [hE, if_neg h48]
            dsimp only
            rw [if_neg h95, if_neg h150, if_pos gp, if_neg heb]
          refine ⟨rfl, rfl, (((((hF.up (by omega)).up (by omega)).up (by omega)).up (by omega)).up (by omega)), Fr.rf, ?_⟩
          exact Or.inl ⟨b, Or.inr ⟨⟨_, _, _, ht, by omega⟩, rfl⟩, (by (repeat rw [up_o (by omega)]); first | exact amU_same | exact h0), (by (repeat rw [up_o (by omega)]); first | exact amU_same | exact h0)⟩)
      · rw [show decide ((50 : Int64) ≤ (T (e + 1 + 1)).toInt64 ∧ (T (e + 1 + 1)).toInt64 ≤ 52) = decide (50 ≤ (T (e + 1 + 1)).toInt ∧ (T (e + 1 + 1)).toInt ≤ 52) from min64 (a := 50) (b := 52), decide_eq_false gp]
        rw [show bI false = 0 from rfl]
        refine B_ne e223_177 t223_177 (fun q => absurd q (fun z => z rfl)) (fun _ => ?_)
        refine LA0 e223_180 ?_
        refine LA0 e223_181 ?_
        refine Gi e223_182 (o152 L) (amGi_of f805 (by decide)) ?_
        rw [amU_same]
        refine Cv1p e223_185 c223_222 (o152 L) (Nat.le_of_ble_eq_true rfl) (Nat.le_of_ble_eq_true rfl) (m_wrong (by (repeat rw [up_o (by omega)]); first | exact amU_same | exact h0)) ?_
        rintro _ Ia9 Ja9 Ra9 ⟨rfl, hI9, hJ9, hR9⟩
        have hI9 := hI9.symm
        subst hI9
        have hJ9 := hJ9.symm
        subst hJ9
        have hR9 := hR9.symm
        subst hR9
        exact Rvd e223_188 rt223 (by
        refine ⟨rfl, rfl, ((((hF.up (by omega)).up (by omega)).up (by omega)).up (by omega)), Fr.rf, ?_⟩
        refine Or.inl ⟨e + 1 + 1, Or.inl ?_, (by (repeat rw [up_o (by omega)]); first | exact amU_same | exact h0), (by (repeat rw [up_o (by omega)]); first | exact amU_same | exact h0)⟩
        unfold trmS
        rw [hE, if_neg h48]
        dsimp only
        rw [if_neg h95, if_neg h150, if_neg (fun z => gp z)])
set_option maxHeartbeats 2000000 in
theorem m_tr0 {Ia1 : amI} {z y5 : Int32} {c : Int} (hR : amRok Ra) (hT : MT Ia1 T n) (h48 : ¬ T b = 48) (hE : fgN T 3 b 0 = (e, s)) (heb : e = b) (he : e ≤ 250) (hs : s < 1000) (hF : FrW Ia Ia1) (ha : Ia1 152 37 = nI e) (h0 : Ia1 152 38 = 0) (hab : Ia1 152 43 = nI ab) (hab5 : ab ≤ 5) (hp : JP Ja 156 p) (hc : (c = 1 ∧ z = 1) ∨ (c = -1 ∧ z = -1)) : Ex 223 89 [some (.ref 152), some (.int z), some (.int (nI b)), some (.int 0), some (.int 0), some (.int y5), none] [] (amSH L) Ia1 Ja Ra (TeP Ia Ja Ra T b ab c p) := by
  refine LA0 e223_89 ?_
  refine Cv0 e223_90 c223_221 (o152 L) (Nat.le_of_ble_eq_true rfl) (Nat.le_of_ble_eq_true rfl) ((m_here (b := e) hR (hT.w FrW.rf) ha (by omega))) ?_
  refine Ki e223_93 kbipush_120 ?_
  refine C_ne e223_95 t223_95 (fun h95 => ?_) (fun h95 => ?_)
  · refine Ki e223_102 kiconst_0 ?_
    refine SI5 e223_103 rfl ?_
    refine LI3 e223_105 ?_
    refine B_ne e223_106 t223_106 (fun q => absurd q (fun z => z rfl)) (fun _ => ?_)
    refine LI5 e223_109 ?_
    refine B_ne e223_111 t223_111 (fun q => absurd q (fun z => z rfl)) (fun _ => ?_)
    refine LA0 e223_114 ?_
    refine LA0 e223_115 ?_
    refine Gi e223_116 (o152 L) (amGi_of f805 (by decide)) ?_
    rw [ha]
    refine Cv1p e223_119 c223_222 (o152 L) (Nat.le_of_ble_eq_true rfl) (Nat.le_of_ble_eq_true rfl) (m_wrong (by (repeat rw [up_o (by omega)]); first | exact amU_same | exact h0)) ?_
    rintro _ Ia9 Ja9 Ra9 ⟨rfl, hI9, hJ9, hR9⟩
    have hI9 := hI9.symm
    subst hI9
    have hJ9 := hJ9.symm
    subst hJ9
    have hR9 := hR9.symm
    subst hR9
    exact Rvd e223_122 rt223 (by
    refine ⟨rfl, rfl, ((hF.up (by omega)).up (by omega)), Fr.rf, ?_⟩
    refine Or.inl ⟨e, Or.inl ?_, (by (repeat rw [up_o (by omega)]); first | exact amU_same | exact h0), (by (repeat rw [up_o (by omega)]); first | exact amU_same | exact h0)⟩
    unfold trmS
    rw [hE, if_neg h48]
    dsimp only
    rw [if_pos h95, if_pos heb, heb])
  · refine Ki e223_98 kiconst_1 ?_
    refine Go e223_99 t223_99 ?_
    refine SI5 e223_103 rfl ?_
    refine LI3 e223_105 ?_
    refine B_ne e223_106 t223_106 (fun q => absurd q (fun z => z rfl)) (fun _ => ?_)
    refine LI5 e223_109 ?_
    refine B_ne e223_111 t223_111 (fun _ => ?_) (fun q => absurd (by decide) q)
    refine Ki e223_123 kiconst_0 ?_
    refine SI6 e223_124 rfl ?_
    refine LI5 e223_126 ?_
    refine B_eq e223_128 t223_128 (fun q => absurd q (by decide)) (fun _ => ?_)
    refine LA0 e223_131 ?_
    refine Dup e223_132 rfl ?_
    refine Gi e223_133 (o152 L) (amGi_of f805 (by decide)) ?_
    rw [ha]
    refine Ki e223_136 kiconst_1 ?_
    refine IaddN (a := e) (b := 1) e223_137 rfl (by decide) ?_
    refine Pi e223_138 (o152 L) f805 ?_
    refine Ki e223_141 kiconst_1 ?_
    refine SI6 e223_142 rfl ?_
    refine LA0 e223_144 ?_
    refine Cv0 e223_145 c223_221 (o152 L) (Nat.le_of_ble_eq_true rfl) (Nat.le_of_ble_eq_true rfl) ((m_here (b := e + 1) hR (hT.w (FrW.rf.up (by omega))) amU_same (by omega))) ?_
    refine Ki e223_148 kbipush_94 ?_
    refine C_ne e223_150 t223_150 (fun h150 => ?_) (fun h150 => ?_)
    · refine LI6 e223_213 ?_
      refine LA0 e223_215 ?_
      refine Gi e223_216 (o152 L) (amGi_of f811 (by decide)) ?_
      rw [up_o (by omega), hab]
      refine CN_lt (a := 1) (b := ab) e223_219 t223_219 (by decide) rfl (by omega) (by omega) (fun h219 => ?_) (fun h219 => ?_)
      · refine LA0 e223_228 ?_
        refine LI6 e223_229 ?_
        refine Pi e223_231 (o152 L) f811 ?_
        refine LA0 e223_234 ?_
        refine Gr e223_235 (o152 L) (hR 152 6 156 rfl) f774 ?_
        refine LI6 e223_238 ?_
        refine LI1 e223_240 ?_
        refine I2l e223_241 ?_
        refine LI3 e223_242 ?_
        refine B_eq e223_243 t223_243 (fun _ => ?_) (fun q => absurd (rfl) q)
        refine Ki e223_251 kiconst_1 ?_
        refine I2l e223_252 ?_
        refine Lmul e223_253 ?_
        rw [show (1 : Int32) = nI 1 from rfl, sg_mul hc (by decide)]
        refine WjN (k := 1) e223_254 (o156 L) (by decide) (by omega) (by decide) ?_
        exact Rvd e223_255 rt223 (by
        have ht : trmS T b = .inr (e + 1, 1, 1) := by
          unfold trmS
          rw [hE, if_neg h48]
          dsimp only
          rw [if_neg h95, if_pos h150, if_pos heb]
        refine ⟨rfl, rfl, ((hF.up (by omega)).up (by omega)), Fr.rf.up, ?_⟩
        exact Or.inr ⟨_, _, _, ht, by omega, (by (repeat rw [up_o (by omega)]); first | exact amU_same | exact h0), (by (repeat rw [up_o (by omega)]); first | exact amU_same | exact ha), (by (repeat rw [up_o (by omega)]); first | exact amU_same | exact hab), JP.st hp⟩)
      · refine LA0 e223_222 ?_
        refine LI2 e223_223 ?_
        refine Cv1p e223_224 c223_222 (o152 L) (Nat.le_of_ble_eq_true rfl) (Nat.le_of_ble_eq_true rfl) (m_wrong (by (repeat rw [up_o (by omega)]); first | exact amU_same | exact h0)) ?_
        rintro _ Ia9 Ja9 Ra9 ⟨rfl, hI9, hJ9, hR9⟩
        have hI9 := hI9.symm
        subst hI9
        have hJ9 := hJ9.symm
        subst hJ9
        have hR9 := hR9.symm
        subst hR9
        exact Rvd e223_227 rt223 (by
        have ht : trmS T b = .inr (e + 1, 1, 1) := by
          unfold trmS
          rw [hE, if_neg h48]
          dsimp only
          rw [if_neg h95, if_pos h150, if_pos heb]
        refine ⟨rfl, rfl, (((hF.up (by omega)).up (by omega)).up (by omega)), Fr.rf, ?_⟩
        exact Or.inl ⟨b, Or.inr ⟨⟨_, _, _, ht, by omega⟩, rfl⟩, (by (repeat rw [up_o (by omega)]); first | exact amU_same | exact h0), (by (repeat rw [up_o (by omega)]); first | exact amU_same | exact h0)⟩)
    · refine LA0 e223_153 ?_
      refine Dup e223_154 rfl ?_
      refine Gi e223_155 (o152 L) (amGi_of f805 (by decide)) ?_
      rw [amU_same]
      refine Ki e223_158 kiconst_1 ?_
      refine IaddN (a := (e + 1)) (b := 1) e223_159 rfl (by decide) ?_
      refine Pi e223_160 (o152 L) f805 ?_
      refine LA0 e223_163 ?_
      refine Cv0 e223_164 c223_221 (o152 L) (Nat.le_of_ble_eq_true rfl) (Nat.le_of_ble_eq_true rfl) ((m_here (b := e + 1 + 1) hR (hT.w ((FrW.rf.up (by omega)).up (by omega))) amU_same (by omega))) ?_
      refine I2l e223_167 ?_
      refine Kd e223_168 kj18 ?_
      refine Kd e223_171 kj19 ?_
      refine Cs3 e223_174 c223_152 (Nat.le_of_ble_eq_true rfl) (Nat.le_of_ble_eq_true rfl) (m_in) ?_
      by_cases gp : 50 ≤ (T (e + 1 + 1)).toInt ∧ (T (e + 1 + 1)).toInt ≤ 52
      · rw [show decide ((50 : Int64) ≤ (T (e + 1 + 1)).toInt64 ∧ (T (e + 1 + 1)).toInt64 ≤ 52) = decide (50 ≤ (T (e + 1 + 1)).toInt ∧ (T (e + 1 + 1)).toInt ≤ 52) from min64 (a := 50) (b := 52), decide_eq_true gp]
        rw [show bI true = 1 from rfl]
        have gf : isFg (T (e + 1 + 1)) := ⟨by omega, by omega⟩
        have hl2 : e + 1 + 1 < n := T_lt hT.2.2 (fg_n0 gf)
        have hdg := dg_le gf
        have hn120 := hT.2.1
        refine B_ne e223_177 t223_177 (fun _ => ?_) (fun q => absurd (by decide) q)
        refine LA0 e223_189 ?_
        refine Gr e223_190 (o152 L) (hR 152 35 199 rfl) f803 ?_
        refine LA0 e223_193 ?_
        refine Gi e223_194 (o152 L) (amGi_of f805 (by decide)) ?_
        rw [amU_same]
        refine AiN (k := (e + 1 + 1)) e223_197 (o199 L) rfl (by omega) (by decide) ?_
        rw [up_o (by omega), up_o (by omega), hT.1.2 _ hl2]
        rw [show T (e + 1 + 1) = nI (48 + dg (T (e + 1 + 1))) from dg_nI gf]
        refine Ki e223_198 kbipush_48 ?_
        refine IsubN (a := (48 + dg (T (e + 1 + 1)))) (b := 48) e223_200 rfl (by decide) (by omega) ?_
        rw [Nat.add_sub_cancel_left]
        refine SI6 e223_201 rfl ?_
        refine LA0 e223_203 ?_
        refine Dup e223_204 rfl ?_
        refine Gi e223_205 (o152 L) (amGi_of f805 (by decide)) ?_
        rw [amU_same]
        refine Ki e223_208 kiconst_1 ?_
        refine IaddN (a := (e + 1 + 1)) (b := 1) e223_209 rfl (by decide) ?_
        refine Pi e223_210 (o152 L) f805 ?_
        refine LI6 e223_213 ?_
        refine LA0 e223_215 ?_
        refine Gi e223_216 (o152 L) (amGi_of f811 (by decide)) ?_
        rw [up_o (by omega), up_o (by omega), up_o (by omega), hab]
        refine CN_lt (a := (dg (T (e + 1 + 1)))) (b := ab) e223_219 t223_219 rfl rfl (by omega) (by omega) (fun h219 => ?_) (fun h219 => ?_)
        · refine LA0 e223_228 ?_
          refine LI6 e223_229 ?_
          refine Pi e223_231 (o152 L) f811 ?_
          refine LA0 e223_234 ?_
          refine Gr e223_235 (o152 L) (hR 152 6 156 rfl) f774 ?_
          refine LI6 e223_238 ?_
          refine LI1 e223_240 ?_
          refine I2l e223_241 ?_
          refine LI3 e223_242 ?_
          refine B_eq e223_243 t223_243 (fun _ => ?_) (fun q => absurd (rfl) q)
          refine Ki e223_251 kiconst_1 ?_
          refine I2l e223_252 ?_
          refine Lmul e223_253 ?_
          rw [show (1 : Int32) = nI 1 from rfl, sg_mul hc (by decide)]
          refine WjN (k := (dg (T (e + 1 + 1)))) e223_254 (o156 L) rfl (by omega) (by decide) ?_
          exact Rvd e223_255 rt223 (by
          have ht : trmS T b = .inr (e + 1 + 1 + 1, dg (T (e + 1 + 1)), 1) := by
            unfold trmS
            rw [hE, if_neg h48]
            dsimp only
            rw [if_neg h95, if_neg h150, if_pos gp, if_pos heb]
          refine ⟨rfl, rfl, ((((hF.up (by omega)).up (by omega)).up (by omega)).up (by omega)), Fr.rf.up, ?_⟩
          exact Or.inr ⟨_, _, _, ht, by omega, (by (repeat rw [up_o (by omega)]); first | exact amU_same | exact h0), (by (repeat rw [up_o (by omega)]); first | exact amU_same | exact ha), (by (repeat rw [up_o (by omega)]); first | exact amU_same | exact hab), JP.st hp⟩)
        · refine LA0 e223_222 ?_
          refine LI2 e223_223 ?_
          refine Cv1p e223_224 c223_222 (o152 L) (Nat.le_of_ble_eq_true rfl) (Nat.le_of_ble_eq_true rfl) (m_wrong (by (repeat rw [up_o (by omega)]); first | exact amU_same | exact h0)) ?_
          rintro _ Ia9 Ja9 Ra9 ⟨rfl, hI9, hJ9, hR9⟩
          have hI9 := hI9.symm
          subst hI9
          have hJ9 := hJ9.symm
          subst hJ9
          have hR9 := hR9.symm
          subst hR9
          exact Rvd e223_227 rt223 (by
          have ht : trmS T b = .inr (e + 1 + 1 + 1, dg (T (e + 1 + 1)), 1) := by
            unfold trmS
            rw [hE, if_neg h48]
            dsimp only
            rw [if_neg h95, if_neg h150, if_pos gp, if_pos heb]
          refine ⟨rfl, rfl, (((((hF.up (by omega)).up (by omega)).up (by omega)).up (by omega)).up (by omega)), Fr.rf, ?_⟩
          exact Or.inl ⟨b, Or.inr ⟨⟨_, _, _, ht, by omega⟩, rfl⟩, (by (repeat rw [up_o (by omega)]); first | exact amU_same | exact h0), (by (repeat rw [up_o (by omega)]); first | exact amU_same | exact h0)⟩)
      · rw [show decide ((50 : Int64) ≤ (T (e + 1 + 1)).toInt64 ∧ (T (e + 1 + 1)).toInt64 ≤ 52) = decide (50 ≤ (T (e + 1 + 1)).toInt ∧ (T (e + 1 + 1)).toInt ≤ 52) from min64 (a := 50) (b := 52), decide_eq_false gp]
        rw [show bI false = 0 from rfl]
        refine B_ne e223_177 t223_177 (fun q => absurd q (fun z => z rfl)) (fun _ => ?_)
        refine LA0 e223_180 ?_
        refine LA0 e223_181 ?_
        refine Gi e223_182 (o152 L) (amGi_of f805 (by decide)) ?_
        rw [amU_same]
        refine Cv1p e223_185 c223_222 (o152 L) (Nat.le_of_ble_eq_true rfl) (Nat.le_of_ble_eq_true rfl) (m_wrong (by (repeat rw [up_o (by omega)]); first | exact amU_same | exact h0)) ?_
        rintro _ Ia9 Ja9 Ra9 ⟨rfl, hI9, hJ9, hR9⟩
        have hI9 := hI9.symm
        subst hI9
        have hJ9 := hJ9.symm
        subst hJ9
        have hR9 := hR9.symm
        subst hR9
        exact Rvd e223_188 rt223 (by
        refine ⟨rfl, rfl, ((((hF.up (by omega)).up (by omega)).up (by omega)).up (by omega)), Fr.rf, ?_⟩
        refine Or.inl ⟨e + 1 + 1, Or.inl ?_, (by (repeat rw [up_o (by omega)]); first | exact amU_same | exact h0), (by (repeat rw [up_o (by omega)]); first | exact amU_same | exact h0)⟩
        unfold trmS
        rw [hE, if_neg h48]
        dsimp only
        rw [if_neg h95, if_neg h150, if_neg (fun z => gp z)])
set_option maxHeartbeats 2000000 in
theorem m_term {z : Int32} {c : Int} (hR : amRok Ra) (hT : MT Ia T n) (hb : b ≤ 200) (ha : Ia 152 37 = nI b) (h0 : Ia 152 38 = 0) (hab : Ia 152 43 = nI ab) (hab5 : ab ≤ 5) (hp : JP Ja 156 p) (hc : (c = 1 ∧ z = 1) ∨ (c = -1 ∧ z = -1)) : Cl 223 [.ref 152, .int z] (amSH L) Ia Ja Ra (TeP Ia Ja Ra T b ab c p) := by
  show Ex 223 0 [some (.ref 152), some (.int z), none, none, none, none, none] [] (amSH L) Ia Ja Ra _
  have hl := fgN_le (T := T) (m := 3) (k := b) (v := 0)
  by_cases g : 49 ≤ (T b).toInt ∧ (T b).toInt ≤ 57
  · have gf : isFg (T b) := ⟨by omega, by omega⟩
    have h48 : ¬ T b = 48 := fun z => by rw [z] at g; exact absurd g.1 (by decide)
    refine LA0 e223_0 ?_
    refine Gi e223_1 (o152 L) (amGi_of f805 (by decide)) ?_
    rw [ha]
    refine SI2 e223_4 rfl ?_
    refine LA0 e223_5 ?_
    refine Cv0 e223_6 c223_221 (o152 L) (Nat.le_of_ble_eq_true rfl) (Nat.le_of_ble_eq_true rfl) ((m_here (b := b) hR hT ha (by omega))) ?_
    refine I2l e223_9 ?_
    refine Kd e223_10 kj15 ?_
    refine Kd e223_13 kj16 ?_
    refine Cs3 e223_16 c223_152 (Nat.le_of_ble_eq_true rfl) (Nat.le_of_ble_eq_true rfl) (m_in) ?_
    rw [show decide ((49 : Int64) ≤ (T b).toInt64 ∧ (T b).toInt64 ≤ 57) = decide (49 ≤ (T b).toInt ∧ (T b).toInt ≤ 57) from min64 (a := 49) (b := 57), decide_eq_true g]
    rw [show bI true = 1 from rfl]
    refine SI3 e223_19 rfl ?_
    refine Ki e223_20 kiconst_0 ?_
    refine SI4 e223_21 rfl ?_
    refine Ki e223_23 kiconst_0 ?_
    refine SI5 e223_24 rfl ?_
    refine m_figs hR 3 b 0 0 Ia hT (by omega) (by omega) ha (fun Ia1 i2 q1 q2 q3 => ?_)
    refine m_tr1 (e := (fgN T 3 b 0).1) (s := (fgN T 3 b 0).2) hR (hT.w q1) h48 rfl ?_ (by omega) (by omega) q1 q3 ((q2 38 (by decide)).trans h0) ((q2 43 (by decide)).trans hab) hab5 hp hc
    have hl2 := fgN_le (T := T) (m := 2) (k := b + 1) (v := 0 * 10 + dg (T b))
    rw [show fgN T 3 b 0 = fgN T 2 (b + 1) (0 * 10 + dg (T b)) from by rw [fgN, if_pos gf]]
    omega
  · by_cases g48 : T b = 48
    · refine LA0 e223_0 ?_
      refine Gi e223_1 (o152 L) (amGi_of f805 (by decide)) ?_
      rw [ha]
      refine SI2 e223_4 rfl ?_
      refine LA0 e223_5 ?_
      refine Cv0 e223_6 c223_221 (o152 L) (Nat.le_of_ble_eq_true rfl) (Nat.le_of_ble_eq_true rfl) ((m_here (b := b) hR hT ha (by omega))) ?_
      refine I2l e223_9 ?_
      refine Kd e223_10 kj15 ?_
      refine Kd e223_13 kj16 ?_
      refine Cs3 e223_16 c223_152 (Nat.le_of_ble_eq_true rfl) (Nat.le_of_ble_eq_true rfl) (m_in) ?_
      rw [show decide ((49 : Int64) ≤ (T b).toInt64 ∧ (T b).toInt64 ≤ 57) = decide (49 ≤ (T b).toInt ∧ (T b).toInt ≤ 57) from min64 (a := 49) (b := 57), decide_eq_false g]
      rw [show bI false = 0 from rfl]
      refine SI3 e223_19 rfl ?_
      refine Ki e223_20 kiconst_0 ?_
      refine SI4 e223_21 rfl ?_
      refine Ki e223_23 kiconst_0 ?_
      refine SI5 e223_24 rfl ?_
      refine LI5 e223_26 ?_
      refine Ki e223_28 kiconst_3 ?_
      refine C_ge e223_29 t223_29 (fun q => absurd q (by decide)) (fun _ => ?_)
      refine LI3 e223_32 ?_
      refine B_eq e223_33 t223_33 (fun _ => ?_) (fun q => absurd (rfl) q)
      refine LA0 e223_89 ?_
      refine Cv0 e223_90 c223_221 (o152 L) (Nat.le_of_ble_eq_true rfl) (Nat.le_of_ble_eq_true rfl) ((m_here (b := b) hR hT ha (by omega))) ?_
      refine Ki e223_93 kbipush_120 ?_
      refine C_ne e223_95 t223_95 (fun _ => ?_) (fun q => absurd (fun z => by rw [g48] at z; exact absurd z (by decide)) q)
      refine Ki e223_102 kiconst_0 ?_
      refine SI5 e223_103 rfl ?_
      refine LI3 e223_105 ?_
      refine B_ne e223_106 t223_106 (fun q => absurd q (fun z => z rfl)) (fun _ => ?_)
      refine LI5 e223_109 ?_
      refine B_ne e223_111 t223_111 (fun q => absurd q (fun z => z rfl)) (fun _ => ?_)
      refine LA0 e223_114 ?_
      refine LA0 e223_115 ?_
      refine Gi e223_116 (o152 L) (amGi_of f805 (by decide)) ?_
      rw [ha]
      refine Cv1p e223_119 c223_222 (o152 L) (Nat.le_of_ble_eq_true rfl) (Nat.le_of_ble_eq_true rfl) (m_wrong h0) ?_
      rintro _ Ia9 Ja9 Ra9 ⟨rfl, hI9, hJ9, hR9⟩
      have hI9 := hI9.symm
      subst hI9
      have hJ9 := hJ9.symm
      subst hJ9
      have hR9 := hR9.symm
      subst hR9
      exact Rvd e223_122 rt223 (by
      refine ⟨rfl, rfl, (FrW.rf.up (by omega)).up (by omega), Fr.rf, Or.inl ⟨b, Or.inl ?_, (by (repeat rw [up_o (by omega)]); first | exact amU_same | exact h0), (by (repeat rw [up_o (by omega)]); first | exact amU_same | exact h0)⟩⟩
      unfold trmS
      rw [if_pos g48])
    · have gn : ¬ isFg (T b) := fun z => g ⟨by
        have z1 : (T b).toInt ≠ 48 := fun y => g48 (Int32.toInt_inj.mp y)
        omega, z.2⟩
      have hE : fgN T 3 b 0 = (b, 0) := by rw [fgN, if_neg gn]
      refine LA0 e223_0 ?_
      refine Gi e223_1 (o152 L) (amGi_of f805 (by decide)) ?_
      rw [ha]
      refine SI2 e223_4 rfl ?_
      refine LA0 e223_5 ?_
      refine Cv0 e223_6 c223_221 (o152 L) (Nat.le_of_ble_eq_true rfl) (Nat.le_of_ble_eq_true rfl) ((m_here (b := b) hR hT ha (by omega))) ?_
      refine I2l e223_9 ?_
      refine Kd e223_10 kj15 ?_
      refine Kd e223_13 kj16 ?_
      refine Cs3 e223_16 c223_152 (Nat.le_of_ble_eq_true rfl) (Nat.le_of_ble_eq_true rfl) (m_in) ?_
      rw [show decide ((49 : Int64) ≤ (T b).toInt64 ∧ (T b).toInt64 ≤ 57) = decide (49 ≤ (T b).toInt ∧ (T b).toInt ≤ 57) from min64 (a := 49) (b := 57), decide_eq_false g]
      rw [show bI false = 0 from rfl]
      refine SI3 e223_19 rfl ?_
      refine Ki e223_20 kiconst_0 ?_
      refine SI4 e223_21 rfl ?_
      refine Ki e223_23 kiconst_0 ?_
      refine SI5 e223_24 rfl ?_
      refine LI5 e223_26 ?_
      refine Ki e223_28 kiconst_3 ?_
      refine C_ge e223_29 t223_29 (fun q => absurd q (by decide)) (fun _ => ?_)
      refine LI3 e223_32 ?_
      refine B_eq e223_33 t223_33 (fun _ => ?_) (fun q => absurd (rfl) q)
      exact m_tr0 hR hT g48 hE rfl (by omega) (by omega) FrW.rf ha h0 hab hab5 hp hc
end REF36
