/-! the reference: values, changes along a chain (printed by wip/whole/t69.py) -/
/-- the value as the reference adds it up -/
def vsN (p : Po) (u v : Int) (d : Nat) : Nat → Int
  | 0 => 0
  | k + 1 => vsN p u v d k + p k * u ^ k * v ^ (d - k)
theorem vs_hN {p : Po} {u v : Int} {d : Nat} : ∀ j, j ≤ d + 1 → vsN p u v d (d + 1 - j) + u ^ (d + 1 - j) * hN p u v (d + 1) j = vsN p u v d (d + 1)
  | 0, _ => by rw [hN, Int.mul_zero, Int.add_zero]; rfl
  | j + 1, h => by
    have ih := vs_hN (p := p) (u := u) (v := v) (d := d) j (by omega)
    rw [← ih]
    obtain ⟨m, hm⟩ : ∃ m, d + 1 - j = m + 1 := ⟨d - j, by omega⟩
    have e1 : d + 1 - (j + 1) = m := by omega
    have e2 : d - m = j := by omega
    have e3 : d + 1 - 1 - j = m := by omega
    rw [hm, e1, vsN, hN, e2, e3, Int.pow_succ]
    grind
theorem vs_hv {p : Po} {u v : Int} {d : Nat} (h : sz p = d + 1) : vsN p u v d (d + 1) = hv p u v := by
  have := vs_hN (p := p) (u := u) (v := v) (d := d) (d + 1) (Nat.le_refl _)
  rw [Nat.sub_self, Int.pow_zero, Int.one_mul] at this
  unfold hv
  rw [h, ← this, vsN, Int.zero_add]
/-- the chain l stands in the block B -/
def MI (I : amI) (J : amJ) (B : Nat) (l : List Po) : Prop := I 184 B = nI l.length ∧ 1 ≤ l.length ∧ l.length ≤ 5 ∧ (∀ k, k < l.length → JP J (166 + (6 * B + k)) (l.getD k zP)) ∧ LPb l ∧ (∀ k, k < l.length → 0 < sz (l.getD k zP)) ∧ LZ l
theorem mrow {R : amR} (hR : amRok R) : ∀ k, k < 18 → R 165 k = some (166 + k) := fun k hk => by
  have key : ∀ k, k < 18 → amRT 165 k = some (166 + k) := by decide
  exact hR 165 k _ (key k hk)
theorem mo {L : Nat} : ∀ k, k < 18 → amA (amSH L) (166 + k) 1 9 := fun k hk => by
  have key : ∀ k, k < 18 → amKl.getD (165 + k) (.inr (9, 0)) = .inr (1, 9) := by decide
  refine ⟨by omega, by show 166 + k ≤ 202; omega, ?_⟩
  have e : 166 + k = (165 + k) + 1 := by omega
  show amKK L (166 + k) = _
  rw [e]
  exact key k hk
theorem sgl3 (x : Int64) : sgl x = -1 ∨ sgl x = 0 ∨ sgl x = 1 := by
  unfold sgl
  split
  · exact Or.inl rfl
  · split
    · exact Or.inr (Or.inr rfl)
    · exact Or.inr (Or.inl rfl)
theorem ch3 {f : Nat → Int32} (h : ∀ k, f k = -1 ∨ f k = 0 ∨ f k = 1) : ∀ n, (chN f n).2 = -1 ∨ (chN f n).2 = 0 ∨ (chN f n).2 = 1
  | 0 => Or.inr (Or.inl rfl)
  | n + 1 => by
    rw [chN]
    dsimp only
    split
    · exact ch3 h n
    · exact h n
theorem sg_neg {a b : Int32} (ha : a = -1 ∨ a = 0 ∨ a = 1) (hb : b = -1 ∨ b = 0 ∨ b = 1) : a * b < 0 ↔ (¬ a = 0 ∧ ¬ b = 0 ∧ ¬ a = b) := by
  rcases ha with e | e | e <;> rcases hb with g | g | g <;> subst e <;> subst g <;> decide
theorem hd_sgl {p : Po} (hB : PB 1000000 p) (h0 : 0 < sz p) : ¬ sgl (oI (hd p)) = 0 := by
  have hz := sz_head h0
  have e : hd p = p (sz p - 1) := by unfold hd; rw [if_neg (by omega)]
  have h9 := sz_le p
  have hi := hd_iB hB (by decide)
  have h1 : oI (hd p) < 0 ↔ hd p < 0 := by rw [oI_0]; exact oI_lt hi ⟨by decide, by decide⟩
  have h2 : 0 < oI (hd p) ↔ 0 < hd p := by rw [oI_0]; exact oI_lt ⟨by decide, by decide⟩ hi
  have hn : ¬ hd p = 0 := by rw [e]; exact hz
  unfold sgl
  by_cases g : hd p < 0
  · rw [if_pos (h1.mpr g)]; decide
  · rw [if_neg (fun z => g (h1.mp z)), if_pos (h2.mpr (by omega))]; decide
theorem dI_mod : ∀ n, n ≤ 9 → 0 < n → (dI n - dI n / 2 * 2 = 1 ↔ ¬ n % 2 = 1) := by decide
section REF6
variable {L : Nat} {I : amI} {J : amJ} {R : amR} {Q : amQ} {a B : Nat} {p : Po} {l : List Po}
theorem m_power_lp {u : Int} {n : Nat} (hn : n ≤ 100) : ∀ (m k : Nat), k + m = n → Q (some (.long (oI (u ^ n)))) I J R → Ex 168 5 [some (.long (oI u)), none, some (.int (nI n)), some (.long (oI (u ^ k))), none, some (.int (nI k))] [] (amSH L) I J R Q := by
  intro m
  induction m with
  | zero =>
    intro k hk hQ
    have e : k = n := by omega
    subst e
    refine LI5 e168_5 ?_
    refine LI2 e168_7 ?_
    refine CN_ge (a := k) (b := k) e168_8 t168_8 rfl rfl (by omega) (by omega) (fun _ => ?_) (fun q => by omega)
    refine LJ3 e168_21 ?_
    exact Rj e168_22 rt168 (hQ)
  | succ m ih =>
    intro k hk hQ
    refine LI5 e168_5 ?_
    refine LI2 e168_7 ?_
    refine CN_ge (a := k) (b := n) e168_8 t168_8 rfl rfl (by omega) (by omega) (fun q => absurd q (by omega)) (fun _ => ?_)
    refine LJ3 e168_11 ?_
    refine LJ0 e168_12 ?_
    refine Lmul e168_13 ?_
    rw [oI_mul, ← Int.pow_succ]
    refine SJ3 e168_14 rfl ?_
    refine IncN5 (m := k) e168_15 rfl ?_
    refine Go e168_18 t168_18 ?_
    exact ih (k + 1) (by omega) hQ
theorem m_power {u : Int} {n : Nat} (hn : n ≤ 100) : Rv 168 [.long (oI u), .int (nI n)] (amSH L) I J R (.long (oI (u ^ n))) := by
  intro Q hQ
  show Ex 168 0 [some (.long (oI u)), none, some (.int (nI n)), none, none, none] [] (amSH L) I J R _
  refine K1 e168_0 ?_
  refine SJ3 e168_1 rfl ?_
  rw [show (1 : Int64) = oI (u ^ 0) from by rw [Int.pow_zero]; rfl]
  refine Ki e168_2 kiconst_0 ?_
  refine SI5 e168_3 rfl ?_
  exact m_power_lp hn n 0 (Nat.zero_add n) hQ
set_option maxHeartbeats 2000000 in
theorem m_val_lp {u v : Int} {d : Nat} (ha : amA (amSH L) a 1 9) (hp : JP J a p) (hd : d ≤ 8) : ∀ (m k : Nat), k + m = d + 1 → Q (some (.long (oI (vsN p u v d (d + 1))))) I J R → Ex 169 12 [some (.ref a), some (.long (oI u)), none, some (.long (oI v)), none, some (.int (nI d)), some (.long (oI (vsN p u v d k))), none, some (.int (nI k))] [] (amSH L) I J R Q := by
  intro m
  induction m with
  | zero =>
    intro k hk hQ
    have e : k = d + 1 := by omega
    subst e
    refine LI8 e169_12 ?_
    refine LI5 e169_14 ?_
    refine CN_gt (a := (d + 1)) (b := d) e169_16 t169_16 rfl rfl (by omega) (by omega) (fun _ => ?_) (fun q => by omega)
    refine LJ6 e169_51 ?_
    exact Rj e169_53 rt169 (hQ)
  | succ m ih =>
    intro k hk hQ
    refine LI8 e169_12 ?_
    refine LI5 e169_14 ?_
    refine CN_gt (a := k) (b := d) e169_16 t169_16 rfl rfl (by omega) (by omega) (fun q => absurd q (by omega)) (fun _ => ?_)
    refine LJ6 e169_19 ?_
    refine LA0 e169_21 ?_
    refine LI8 e169_22 ?_
    refine AjN (k := k) e169_24 ha rfl (by omega) (by decide) ?_
    rw [hp k (by omega)]
    refine LJ1 e169_25 ?_
    refine LI8 e169_26 ?_
    refine Cs2 e169_28 c169_168 (Nat.le_of_ble_eq_true rfl) (Nat.le_of_ble_eq_true rfl) ((m_power (by omega))) ?_
    refine Lmul e169_31 ?_
    refine LJ3 e169_32 ?_
    refine LI5 e169_33 ?_
    refine LI8 e169_35 ?_
    refine IsubN (a := d) (b := k) e169_37 rfl rfl (by omega) ?_
    refine Cs2 e169_38 c169_168 (Nat.le_of_ble_eq_true rfl) (Nat.le_of_ble_eq_true rfl) ((m_power (by omega))) ?_
    refine Lmul e169_41 ?_
    refine Ladd e169_42 ?_
    rw [oI_mul, oI_mul, oI_add, ← vsN]
    refine SJ6 e169_43 rfl ?_
    refine IncN8 (m := k) e169_45 rfl ?_
    refine Go e169_48 t169_48 ?_
    exact ih (k + 1) (by omega) hQ
theorem m_value {u v : Int} (ha : amA (amSH L) a 1 9) (hp : JP J a p) (hB : PB 4000000000000000000 p) (h0 : 0 < sz p) : Rv 169 [.ref a, .long (oI u), .long (oI v)] (amSH L) I J R (.long (oI (hv p u v))) := by
  intro Q hQ
  have h9 := sz_le p
  obtain ⟨d, hd⟩ : ∃ d, sz p = d + 1 := ⟨sz p - 1, by omega⟩
  rw [← vs_hv hd] at hQ
  show Ex 169 0 [some (.ref a), some (.long (oI u)), none, some (.long (oI v)), none, none, none, none, none] [] (amSH L) I J R _
  refine LA0 e169_0 ?_
  refine Cs1 e169_1 c169_173 (Nat.le_of_ble_eq_true rfl) (Nat.le_of_ble_eq_true rfl) ((m_deg_n ha hp hB hd)) ?_
  refine SI5 e169_4 rfl ?_
  refine K0 e169_6 ?_
  refine SJ6 e169_7 rfl ?_
  refine Ki e169_9 kiconst_0 ?_
  refine SI8 e169_10 rfl ?_
  exact m_val_lp ha hp (by omega) (d + 1) 0 (by omega) hQ
set_option maxHeartbeats 2000000 in
theorem m_chg_lp {u v : Int} (hR : amRok R) (hB3 : B < 3) (hM : MI I J B l) : ∀ (m i : Nat) (l9 : Option Value), i + m = l.length → Q (some (.int (nI (tA l u v)))) I J R → Ex 186 9 [some (.ref 152), some (.int (nI B)), some (.long (oI u)), none, some (.long (oI v)), none, some (.int (nI (chN (sAt l u v) i).1)), some (.int ((chN (sAt l u v) i).2)), some (.int (nI i)), l9] [] (amSH L) I J R Q := by
  obtain ⟨g1, g2, g3, g4, g5, g6, g7⟩ := hM
  have hs3 : ∀ k, sAt l u v k = -1 ∨ sAt l u v k = 0 ∨ sAt l u v k = 1 := fun k => sgl3 _
  intro m
  induction m with
  | zero =>
    intro i l9 hi hQ
    have e : i = l.length := by omega
    subst e
    refine LI8 e186_9 ?_
    refine LA0 e186_11 ?_
    refine Gr e186_12 (o152 L) (hR 152 17 184 rfl) f785 ?_
    refine LI1 e186_15 ?_
    refine AiN (k := B) e186_16 (o184 L) rfl (by omega) (by decide) ?_
    rw [g1]
    refine CN_ge (a := l.length) (b := l.length) e186_17 t186_17 rfl rfl (by omega) (by omega) (fun _ => ?_) (fun q => by omega)
    refine LI6 e186_90 ?_
    exact Ri e186_92 rt186 (hQ)
  | succ m ih =>
    intro i l9 hi hQ
    have hcl := chN_le (sAt l u v) i
    have hp3 := sg_neg (hs3 i) (ch3 hs3 i)
    refine LI8 e186_9 ?_
    refine LA0 e186_11 ?_
    refine Gr e186_12 (o152 L) (hR 152 17 184 rfl) f785 ?_
    refine LI1 e186_15 ?_
    refine AiN (k := B) e186_16 (o184 L) rfl (by omega) (by decide) ?_
    rw [g1]
    refine CN_ge (a := i) (b := l.length) e186_17 t186_17 rfl rfl (by omega) (by omega) (fun q => absurd q (by omega)) (fun _ => ?_)
    refine LA0 e186_20 ?_
    refine Gr e186_21 (o152 L) (hR 152 16 165 rfl) f784 ?_
    refine Ki e186_24 kbipush_6 ?_
    refine LI1 e186_26 ?_
    refine ImulN (a := 6) (b := B) e186_27 (by decide) rfl ?_
    refine LI8 e186_28 ?_
    refine IaddN (a := (6 * B)) (b := i) e186_30 rfl rfl ?_
    refine ArN (k := 6 * B + i) e186_31 (o165 L) (by decide) rfl (by omega) (by decide) (mrow hR (6 * B + i) (by omega)) ?_
    refine LJ2 e186_32 ?_
    refine LJ4 e186_33 ?_
    refine Cs3 e186_35 c186_169 (Nat.le_of_ble_eq_true rfl) (Nat.le_of_ble_eq_true rfl) ((m_value (u := u) (v := v) (mo (6 * B + i) (by omega)) (g4 i (by omega)) ((g5 i (by omega)).mono (by decide)) (g6 i (by omega)))) ?_
    refine Cs1 e186_38 c186_154 (Nat.le_of_ble_eq_true rfl) (Nat.le_of_ble_eq_true rfl) (m_sign) ?_
    rw [show sgl (oI (hv (l.getD i zP) u v)) = sAt l u v i from rfl]
    refine SI9 e186_41 rfl ?_
    refine LI6 e186_43 ?_
    refine LI9 e186_45 ?_
    refine B_eq e186_47 t186_47 (fun h47 => ?_) (fun h47 => ?_)
    · refine Ki e186_66 kiconst_0 ?_
      refine IaddN (a := (chN (sAt l u v) i).1) (b := 0) e186_67 rfl (by decide) ?_
      refine SI6 e186_68 rfl ?_
      refine LI9 e186_70 ?_
      refine B_eq e186_72 t186_72 (fun h72 => ?_) (fun h72 => ?_)
      · refine LI7 e186_80 ?_
        refine SI7 e186_82 rfl ?_
        refine IncN8 (m := i) e186_84 rfl ?_
        refine Go e186_87 t186_87 ?_
        have e1 : (chN (sAt l u v) (i + 1)).1 = (chN (sAt l u v) i).1 + 0 := by
          rw [chN]
          dsimp only
          rw [if_neg (fun z => by have z := hp3.mp z; first | exact z.1 h47 | exact z.2.1 h52 | exact z.2.2 h59), Nat.add_zero]
        rw [← e1]
        have e2 : (chN (sAt l u v) (i + 1)).2 = (chN (sAt l u v) i).2 := by
          rw [chN]
          dsimp only
          rw [if_pos h72]
        rw [← e2]
        exact ih (i + 1) _ (by omega) hQ
      · refine LI9 e186_75 ?_
        refine Go e186_77 t186_77 ?_
        refine SI7 e186_82 rfl ?_
        refine IncN8 (m := i) e186_84 rfl ?_
        refine Go e186_87 t186_87 ?_
        have e1 : (chN (sAt l u v) (i + 1)).1 = (chN (sAt l u v) i).1 + 0 := by
          rw [chN]
          dsimp only
          rw [if_neg (fun z => by have z := hp3.mp z; first | exact z.1 h47 | exact z.2.1 h52 | exact z.2.2 h59), Nat.add_zero]
        rw [← e1]
        have e2 : (chN (sAt l u v) (i + 1)).2 = sAt l u v i := by
          rw [chN]
          dsimp only
          rw [if_neg h72]
        rw [← e2]
        exact ih (i + 1) _ (by omega) hQ
    · refine LI7 e186_50 ?_
      refine B_eq e186_52 t186_52 (fun h52 => ?_) (fun h52 => ?_)
      · refine Ki e186_66 kiconst_0 ?_
        refine IaddN (a := (chN (sAt l u v) i).1) (b := 0) e186_67 rfl (by decide) ?_
        refine SI6 e186_68 rfl ?_
        refine LI9 e186_70 ?_
        refine B_eq e186_72 t186_72 (fun h72 => ?_) (fun h72 => ?_)
        · refine LI7 e186_80 ?_
          refine SI7 e186_82 rfl ?_
          refine IncN8 (m := i) e186_84 rfl ?_
          refine Go e186_87 t186_87 ?_
          have e1 : (chN (sAt l u v) (i + 1)).1 = (chN (sAt l u v) i).1 + 0 := by
            rw [chN]
            dsimp only
            rw [if_neg (fun z => by have z := hp3.mp z; first | exact z.1 h47 | exact z.2.1 h52 | exact z.2.2 h59), Nat.add_zero]
          rw [← e1]
          have e2 : (chN (sAt l u v) (i + 1)).2 = (chN (sAt l u v) i).2 := by
            rw [chN]
            dsimp only
            rw [if_pos h72]
          rw [← e2]
          exact ih (i + 1) _ (by omega) hQ
        · refine LI9 e186_75 ?_
          refine Go e186_77 t186_77 ?_
          refine SI7 e186_82 rfl ?_
          refine IncN8 (m := i) e186_84 rfl ?_
          refine Go e186_87 t186_87 ?_
          have e1 : (chN (sAt l u v) (i + 1)).1 = (chN (sAt l u v) i).1 + 0 := by
            rw [chN]
            dsimp only
            rw [if_neg (fun z => by have z := hp3.mp z; first | exact z.1 h47 | exact z.2.1 h52 | exact z.2.2 h59), Nat.add_zero]
          rw [← e1]
          have e2 : (chN (sAt l u v) (i + 1)).2 = sAt l u v i := by
            rw [chN]
            dsimp only
            rw [if_neg h72]
          rw [← e2]
          exact ih (i + 1) _ (by omega) hQ
      · refine LI9 e186_55 ?_
        refine LI7 e186_57 ?_
        refine C_eq e186_59 t186_59 (fun h59 => ?_) (fun h59 => ?_)
        · refine Ki e186_66 kiconst_0 ?_
          refine IaddN (a := (chN (sAt l u v) i).1) (b := 0) e186_67 rfl (by decide) ?_
          refine SI6 e186_68 rfl ?_
          refine LI9 e186_70 ?_
          refine B_eq e186_72 t186_72 (fun h72 => ?_) (fun h72 => ?_)
          · refine LI7 e186_80 ?_
            refine SI7 e186_82 rfl ?_
            refine IncN8 (m := i) e186_84 rfl ?_
            refine Go e186_87 t186_87 ?_
            have e1 : (chN (sAt l u v) (i + 1)).1 = (chN (sAt l u v) i).1 + 0 := by
              rw [chN]
              dsimp only
              rw [if_neg (fun z => by have z := hp3.mp z; first | exact z.1 h47 | exact z.2.1 h52 | exact z.2.2 h59), Nat.add_zero]
            rw [← e1]
            have e2 : (chN (sAt l u v) (i + 1)).2 = (chN (sAt l u v) i).2 := by
              rw [chN]
              dsimp only
              rw [if_pos h72]
            rw [← e2]
            exact ih (i + 1) _ (by omega) hQ
          · refine LI9 e186_75 ?_
            refine Go e186_77 t186_77 ?_
            refine SI7 e186_82 rfl ?_
            refine IncN8 (m := i) e186_84 rfl ?_
            refine Go e186_87 t186_87 ?_
            have e1 : (chN (sAt l u v) (i + 1)).1 = (chN (sAt l u v) i).1 + 0 := by
              rw [chN]
              dsimp only
              rw [if_neg (fun z => by have z := hp3.mp z; first | exact z.1 h47 | exact z.2.1 h52 | exact z.2.2 h59), Nat.add_zero]
            rw [← e1]
            have e2 : (chN (sAt l u v) (i + 1)).2 = sAt l u v i := by
              rw [chN]
              dsimp only
              rw [if_neg h72]
            rw [← e2]
            exact ih (i + 1) _ (by omega) hQ
        · refine Ki e186_62 kiconst_1 ?_
          refine Go e186_63 t186_63 ?_
          refine IaddN (a := (chN (sAt l u v) i).1) (b := 1) e186_67 rfl (by decide) ?_
          refine SI6 e186_68 rfl ?_
          refine LI9 e186_70 ?_
          refine B_eq e186_72 t186_72 (fun h72 => ?_) (fun h72 => ?_)
          · refine LI7 e186_80 ?_
            refine SI7 e186_82 rfl ?_
            refine IncN8 (m := i) e186_84 rfl ?_
            refine Go e186_87 t186_87 ?_
            have e1 : (chN (sAt l u v) (i + 1)).1 = (chN (sAt l u v) i).1 + 1 := by
              rw [chN]
              dsimp only
              rw [if_pos (hp3.mpr ⟨h47, h52, h59⟩)]
            rw [← e1]
            have e2 : (chN (sAt l u v) (i + 1)).2 = (chN (sAt l u v) i).2 := by
              rw [chN]
              dsimp only
              rw [if_pos h72]
            rw [← e2]
            exact ih (i + 1) _ (by omega) hQ
          · refine LI9 e186_75 ?_
            refine Go e186_77 t186_77 ?_
            refine SI7 e186_82 rfl ?_
            refine IncN8 (m := i) e186_84 rfl ?_
            refine Go e186_87 t186_87 ?_
            have e1 : (chN (sAt l u v) (i + 1)).1 = (chN (sAt l u v) i).1 + 1 := by
              rw [chN]
              dsimp only
              rw [if_pos (hp3.mpr ⟨h47, h52, h59⟩)]
            rw [← e1]
            have e2 : (chN (sAt l u v) (i + 1)).2 = sAt l u v i := by
              rw [chN]
              dsimp only
              rw [if_neg h72]
            rw [← e2]
            exact ih (i + 1) _ (by omega) hQ
theorem m_chgAt {u v : Int} (hR : amRok R) (hB3 : B < 3) (hM : MI I J B l) : Rv 186 [.ref 152, .int (nI B), .long (oI u), .long (oI v)] (amSH L) I J R (.int (nI (tA l u v))) := by
  intro Q hQ
  show Ex 186 0 [some (.ref 152), some (.int (nI B)), some (.long (oI u)), none, some (.long (oI v)), none, none, none, none, none] [] (amSH L) I J R _
  refine Ki e186_0 kiconst_0 ?_
  refine SI6 e186_1 rfl ?_
  refine Ki e186_3 kiconst_0 ?_
  refine SI7 e186_4 rfl ?_
  refine Ki e186_6 kiconst_0 ?_
  refine SI8 e186_7 rfl ?_
  exact m_chg_lp hR hB3 hM l.length 0 _ (Nat.zero_add _) hQ
set_option maxHeartbeats 2000000 in
theorem m_by_lo_lp (hR : amRok R) (hB3 : B < 3) (hM : MI I J B l) : ∀ (m i : Nat) (l6 l7 : Option Value), i + 1 + m = l.length → amClr l6 = l6 → Q (some (.int (nI (tB l)))) I J R → Ex 187 8 [some (.ref 152), some (.int (nI B)), some (.int (-1)), some (.int (nI (df (sBe l) i))), some (.int (sBe l i)), some (.int (nI (i + 1))), l6, l7] [] (amSH L) I J R Q := by
  obtain ⟨g1, g2, g3, g4, g5, g6, g7⟩ := hM
  have hnz : ∀ k, k < l.length → ¬ sBe l k = 0 := fun k hk => by
    have h := hd_sgl (g5 k hk) (g6 k hk)
    show ¬ sba (l.getD k zP) = 0
    unfold sba
    split
    · exact h
    · rcases sgl3 (oI (hd (l.getD k zP))) with e | e | e <;> rw [e] at h ⊢
      · decide
      · exact absurd rfl h
      · decide
  intro m
  induction m with
  | zero =>
    intro i l6 l7 hi hl6 hQ
    have e : i = l.length - 1 := by omega
    subst e
    have e2 : l.length - 1 + 1 = l.length := by omega
    refine LI5 e187_8 ?_
    refine LA0 e187_10 ?_
    refine Gr e187_11 (o152 L) (hR 152 17 184 rfl) f785 ?_
    refine LI1 e187_14 ?_
    refine AiN (k := B) e187_15 (o184 L) rfl (by omega) (by decide) ?_
    rw [g1]
    refine CN_ge (a := (l.length - 1 + 1)) (b := l.length) e187_16 t187_16 rfl rfl (by omega) (by omega) (fun _ => ?_) (fun q => by omega)
    refine LI3 e187_94 ?_
    exact Ri e187_95 rt187 (hQ)
  | succ m ih =>
    intro i l6 l7 hi hl6 hQ
    have hdl := df_le (sBe l) i
    have hi9 := sz_le (l.getD (i + 1) zP)
    have h0 := g6 (i + 1) (by omega)
    refine LI5 e187_8 ?_
    refine LA0 e187_10 ?_
    refine Gr e187_11 (o152 L) (hR 152 17 184 rfl) f785 ?_
    refine LI1 e187_14 ?_
    refine AiN (k := B) e187_15 (o184 L) rfl (by omega) (by decide) ?_
    rw [g1]
    refine CN_ge (a := (i + 1)) (b := l.length) e187_16 t187_16 rfl rfl (by omega) (by omega) (fun q => absurd q (by omega)) (fun _ => ?_)
    refine LA0 e187_19 ?_
    refine Gr e187_20 (o152 L) (hR 152 16 165 rfl) f784 ?_
    refine Ki e187_23 kbipush_6 ?_
    refine LI1 e187_25 ?_
    refine ImulN (a := 6) (b := B) e187_26 (by decide) rfl ?_
    refine LI5 e187_27 ?_
    refine IaddN (a := (6 * B)) (b := (i + 1)) e187_29 rfl rfl ?_
    refine ArN (k := 6 * B + (i + 1)) e187_30 (o165 L) (by decide) rfl (by omega) (by decide) (mrow hR (6 * B + (i + 1)) (by omega)) ?_
    refine SA6 e187_31 rfl ?_
    refine LA6 e187_33 ?_
    refine Cs1 e187_35 c187_174 (Nat.le_of_ble_eq_true rfl) (Nat.le_of_ble_eq_true rfl) ((m_head (mo (6 * B + (i + 1)) (by omega)) (g4 (i + 1) (by omega)) ((g5 (i + 1) (by omega)).mono (by decide)) (g6 (i + 1) (by omega)))) ?_
    refine Cs1 e187_38 c187_154 (Nat.le_of_ble_eq_true rfl) (Nat.le_of_ble_eq_true rfl) (m_sign) ?_
    refine LI2 e187_41 ?_
    refine B_ge e187_42 t187_42 (fun q => absurd q (by decide)) (fun _ => ?_)
    refine LA6 e187_45 ?_
    refine Cs1 e187_47 c187_173 (Nat.le_of_ble_eq_true rfl) (Nat.le_of_ble_eq_true rfl) ((m_degree (mo (6 * B + (i + 1)) (by omega)) (g4 (i + 1) (by omega)) ((g5 (i + 1) (by omega)).mono (by decide)))) ?_
    refine Ki e187_50 kiconst_2 ?_
    refine Irem e187_51 (by decide) ?_
    refine Ki e187_52 kiconst_1 ?_
    refine C_ne e187_53 t187_53 (fun h53 => ?_) (fun h53 => ?_)
    · refine Ki e187_60 kiconst_1 ?_
      refine Imul e187_61 ?_
      rw [show sgl (oI (hd (l.getD (i + 1) zP))) * 1 = sBe l (i + 1) from by
        show _ = sba (l.getD (i + 1) zP)
        unfold sba
        rw [if_pos (Decidable.not_not.mp (fun z => h53 ((dI_mod _ (sz_le _) (g6 (i + 1) (by omega))).mpr z)))]
        rcases sgl3 (oI (hd (l.getD (i + 1) zP))) with e | e | e <;> rw [e] <;> decide]
      refine SI7 e187_62 rfl ?_
      refine LI3 e187_64 ?_
      refine LI4 e187_65 ?_
      refine B_eq e187_67 t187_67 (fun q => absurd q (hnz i (by omega))) (fun _ => ?_)
      refine LI7 e187_70 ?_
      refine LI4 e187_72 ?_
      refine C_eq e187_74 t187_74 (fun h74 => ?_) (fun h74 => ?_)
      · refine Ki e187_81 kiconst_0 ?_
        refine IaddN (a := (df (sBe l) i)) (b := 0) e187_82 rfl (by decide) ?_
        refine SI3 e187_83 rfl ?_
        refine LI7 e187_84 ?_
        refine SI4 e187_86 rfl ?_
        refine IncN5 (m := (i + 1)) e187_88 rfl ?_
        refine Go e187_91 t187_91 ?_
        have e1 : df (sBe l) (i + 1) = df (sBe l) i + 0 := by
          rw [df, if_pos h74.symm, Nat.add_zero]
        rw [← e1]
        exact ih (i + 1) _ _ (by omega) rfl hQ
      · refine Ki e187_77 kiconst_1 ?_
        refine Go e187_78 t187_78 ?_
        refine IaddN (a := (df (sBe l) i)) (b := 1) e187_82 rfl (by decide) ?_
        refine SI3 e187_83 rfl ?_
        refine LI7 e187_84 ?_
        refine SI4 e187_86 rfl ?_
        refine IncN5 (m := (i + 1)) e187_88 rfl ?_
        refine Go e187_91 t187_91 ?_
        have e1 : df (sBe l) (i + 1) = df (sBe l) i + 1 := by
          rw [df, if_neg (fun z => h74 z.symm)]
        rw [← e1]
        exact ih (i + 1) _ _ (by omega) rfl hQ
    · refine Ki e187_56 kiconst_m1 ?_
      refine Go e187_57 t187_57 ?_
      refine Imul e187_61 ?_
      rw [show sgl (oI (hd (l.getD (i + 1) zP))) * (-1) = sBe l (i + 1) from by
        show _ = sba (l.getD (i + 1) zP)
        unfold sba
        rw [if_neg ((dI_mod _ (sz_le _) (g6 (i + 1) (by omega))).mp (Decidable.not_not.mp h53))]
        rcases sgl3 (oI (hd (l.getD (i + 1) zP))) with e | e | e <;> rw [e] <;> decide]
      refine SI7 e187_62 rfl ?_
      refine LI3 e187_64 ?_
      refine LI4 e187_65 ?_
      refine B_eq e187_67 t187_67 (fun q => absurd q (hnz i (by omega))) (fun _ => ?_)
      refine LI7 e187_70 ?_
      refine LI4 e187_72 ?_
      refine C_eq e187_74 t187_74 (fun h74 => ?_) (fun h74 => ?_)
      · refine Ki e187_81 kiconst_0 ?_
        refine IaddN (a := (df (sBe l) i)) (b := 0) e187_82 rfl (by decide) ?_
        refine SI3 e187_83 rfl ?_
        refine LI7 e187_84 ?_
        refine SI4 e187_86 rfl ?_
        refine IncN5 (m := (i + 1)) e187_88 rfl ?_
        refine Go e187_91 t187_91 ?_
        have e1 : df (sBe l) (i + 1) = df (sBe l) i + 0 := by
          rw [df, if_pos h74.symm, Nat.add_zero]
        rw [← e1]
        exact ih (i + 1) _ _ (by omega) rfl hQ
      · refine Ki e187_77 kiconst_1 ?_
        refine Go e187_78 t187_78 ?_
        refine IaddN (a := (df (sBe l) i)) (b := 1) e187_82 rfl (by decide) ?_
        refine SI3 e187_83 rfl ?_
        refine LI7 e187_84 ?_
        refine SI4 e187_86 rfl ?_
        refine IncN5 (m := (i + 1)) e187_88 rfl ?_
        refine Go e187_91 t187_91 ?_
        have e1 : df (sBe l) (i + 1) = df (sBe l) i + 1 := by
          rw [df, if_neg (fun z => h74 z.symm)]
        rw [← e1]
        exact ih (i + 1) _ _ (by omega) rfl hQ
set_option maxHeartbeats 2000000 in
theorem m_by_lo_0 (hR : amRok R) (hB3 : B < 3) (hM : MI I J B l) (hQ : Q (some (.int (nI (tB l)))) I J R) : Ex 187 8 [some (.ref 152), some (.int (nI B)), some (.int (-1)), some (.int 0), some (.int 0), some (.int 0), none, none] [] (amSH L) I J R Q := by
  have hM2 := hM
  obtain ⟨g1, g2, g3, g4, g5, g6, g7⟩ := hM
  have hnz : ∀ k, k < l.length → ¬ sBe l k = 0 := fun k hk => by
    have h := hd_sgl (g5 k hk) (g6 k hk)
    show ¬ sba (l.getD k zP) = 0
    unfold sba
    split
    · exact h
    · rcases sgl3 (oI (hd (l.getD k zP))) with e | e | e <;> rw [e] at h ⊢
      · decide
      · exact absurd rfl h
      · decide

  refine LI5 e187_8 ?_
  refine LA0 e187_10 ?_
  refine Gr e187_11 (o152 L) (hR 152 17 184 rfl) f785 ?_
  refine LI1 e187_14 ?_
  refine AiN (k := B) e187_15 (o184 L) rfl (by omega) (by decide) ?_
  rw [g1]
  refine CN_ge (a := 0) (b := l.length) e187_16 t187_16 (by decide) rfl (by omega) (by omega) (fun q => absurd q (by omega)) (fun _ => ?_)
  refine LA0 e187_19 ?_
  refine Gr e187_20 (o152 L) (hR 152 16 165 rfl) f784 ?_
  refine Ki e187_23 kbipush_6 ?_
  refine LI1 e187_25 ?_
  refine ImulN (a := 6) (b := B) e187_26 (by decide) rfl ?_
  refine LI5 e187_27 ?_
  refine IaddN (a := (6 * B)) (b := 0) e187_29 rfl (by decide) ?_
  refine ArN (k := 6 * B + 0) e187_30 (o165 L) (by decide) rfl (by omega) (by decide) (mrow hR (6 * B + 0) (by omega)) ?_
  refine SA6 e187_31 rfl ?_
  refine LA6 e187_33 ?_
  refine Cs1 e187_35 c187_174 (Nat.le_of_ble_eq_true rfl) (Nat.le_of_ble_eq_true rfl) ((m_head (mo (6 * B + 0) (by omega)) (g4 0 (by omega)) ((g5 0 (by omega)).mono (by decide)) (g6 0 (by omega)))) ?_
  refine Cs1 e187_38 c187_154 (Nat.le_of_ble_eq_true rfl) (Nat.le_of_ble_eq_true rfl) (m_sign) ?_
  refine LI2 e187_41 ?_
  refine B_ge e187_42 t187_42 (fun q => absurd q (by decide)) (fun _ => ?_)
  refine LA6 e187_45 ?_
  refine Cs1 e187_47 c187_173 (Nat.le_of_ble_eq_true rfl) (Nat.le_of_ble_eq_true rfl) ((m_degree (mo (6 * B + 0) (by omega)) (g4 0 (by omega)) ((g5 0 (by omega)).mono (by decide)))) ?_
  refine Ki e187_50 kiconst_2 ?_
  refine Irem e187_51 (by decide) ?_
  refine Ki e187_52 kiconst_1 ?_
  refine C_ne e187_53 t187_53 (fun h53 => ?_) (fun h53 => ?_)
  · refine Ki e187_60 kiconst_1 ?_
    refine Imul e187_61 ?_
    rw [show sgl (oI (hd (l.getD 0 zP))) * 1 = sBe l 0 from by
      show _ = sba (l.getD 0 zP)
      unfold sba
      rw [if_pos (Decidable.not_not.mp (fun z => h53 ((dI_mod _ (sz_le _) (g6 0 (by omega))).mpr z)))]
      rcases sgl3 (oI (hd (l.getD 0 zP))) with e | e | e <;> rw [e] <;> decide]
    refine SI7 e187_62 rfl ?_
    refine LI3 e187_64 ?_
    refine LI4 e187_65 ?_
    refine B_eq e187_67 t187_67 (fun _ => ?_) (fun q => absurd (rfl) q)
    refine Ki e187_81 kiconst_0 ?_
    refine IaddN (a := 0) (b := 0) e187_82 (by decide) (by decide) ?_
    refine SI3 e187_83 rfl ?_
    refine LI7 e187_84 ?_
    refine SI4 e187_86 rfl ?_
    refine Inc5 (d := 1) e187_88 rfl rfl ?_
    refine Go e187_91 t187_91 ?_
    exact m_by_lo_lp hR hB3 hM2 (l.length - 1) 0 _ _ (by omega) rfl hQ
  · refine Ki e187_56 kiconst_m1 ?_
    refine Go e187_57 t187_57 ?_
    refine Imul e187_61 ?_
    rw [show sgl (oI (hd (l.getD 0 zP))) * (-1) = sBe l 0 from by
      show _ = sba (l.getD 0 zP)
      unfold sba
      rw [if_neg ((dI_mod _ (sz_le _) (g6 0 (by omega))).mp (Decidable.not_not.mp h53))]
      rcases sgl3 (oI (hd (l.getD 0 zP))) with e | e | e <;> rw [e] <;> decide]
    refine SI7 e187_62 rfl ?_
    refine LI3 e187_64 ?_
    refine LI4 e187_65 ?_
    refine B_eq e187_67 t187_67 (fun _ => ?_) (fun q => absurd (rfl) q)
    refine Ki e187_81 kiconst_0 ?_
    refine IaddN (a := 0) (b := 0) e187_82 (by decide) (by decide) ?_
    refine SI3 e187_83 rfl ?_
    refine LI7 e187_84 ?_
    refine SI4 e187_86 rfl ?_
    refine Inc5 (d := 1) e187_88 rfl rfl ?_
    refine Go e187_91 t187_91 ?_
    exact m_by_lo_lp hR hB3 hM2 (l.length - 1) 0 _ _ (by omega) rfl hQ
set_option maxHeartbeats 2000000 in
theorem m_by_lo (hR : amRok R) (hB3 : B < 3) (hM : MI I J B l) : Rv 187 [.ref 152, .int (nI B), .int (-1)] (amSH L) I J R (.int (nI (tB l))) := by
  intro Q hQ
  show Ex 187 0 [some (.ref 152), some (.int (nI B)), some (.int (-1)), none, none, none, none, none] [] (amSH L) I J R _
  refine Ki e187_0 kiconst_0 ?_
  refine SI3 e187_1 rfl ?_
  refine Ki e187_2 kiconst_0 ?_
  refine SI4 e187_3 rfl ?_
  refine Ki e187_5 kiconst_0 ?_
  refine SI5 e187_6 rfl ?_
  exact m_by_lo_0 hR hB3 hM hQ
set_option maxHeartbeats 2000000 in
theorem m_by_hi_lp (hR : amRok R) (hB3 : B < 3) (hM : MI I J B l) : ∀ (m i : Nat) (l6 l7 : Option Value), i + 1 + m = l.length → amClr l6 = l6 → Q (some (.int (nI (tU l)))) I J R → Ex 187 8 [some (.ref 152), some (.int (nI B)), some (.int 1), some (.int (nI (df (sAb l) i))), some (.int (sAb l i)), some (.int (nI (i + 1))), l6, l7] [] (amSH L) I J R Q := by
  obtain ⟨g1, g2, g3, g4, g5, g6, g7⟩ := hM
  have hnz : ∀ k, k < l.length → ¬ sAb l k = 0 := fun k hk => hd_sgl (g5 k hk) (g6 k hk)
  intro m
  induction m with
  | zero =>
    intro i l6 l7 hi hl6 hQ
    have e : i = l.length - 1 := by omega
    subst e
    have e2 : l.length - 1 + 1 = l.length := by omega
    refine LI5 e187_8 ?_
    refine LA0 e187_10 ?_
    refine Gr e187_11 (o152 L) (hR 152 17 184 rfl) f785 ?_
    refine LI1 e187_14 ?_
    refine AiN (k := B) e187_15 (o184 L) rfl (by omega) (by decide) ?_
    rw [g1]
    refine CN_ge (a := (l.length - 1 + 1)) (b := l.length) e187_16 t187_16 rfl rfl (by omega) (by omega) (fun _ => ?_) (fun q => by omega)
    refine LI3 e187_94 ?_
    exact Ri e187_95 rt187 (hQ)
  | succ m ih =>
    intro i l6 l7 hi hl6 hQ
    have hdl := df_le (sAb l) i
    have hi9 := sz_le (l.getD (i + 1) zP)
    have h0 := g6 (i + 1) (by omega)
    refine LI5 e187_8 ?_
    refine LA0 e187_10 ?_
    refine Gr e187_11 (o152 L) (hR 152 17 184 rfl) f785 ?_
    refine LI1 e187_14 ?_
    refine AiN (k := B) e187_15 (o184 L) rfl (by omega) (by decide) ?_
    rw [g1]
    refine CN_ge (a := (i + 1)) (b := l.length) e187_16 t187_16 rfl rfl (by omega) (by omega) (fun q => absurd q (by omega)) (fun _ => ?_)
    refine LA0 e187_19 ?_
    refine Gr e187_20 (o152 L) (hR 152 16 165 rfl) f784 ?_
    refine Ki e187_23 kbipush_6 ?_
    refine LI1 e187_25 ?_
    refine ImulN (a := 6) (b := B) e187_26 (by decide) rfl ?_
    refine LI5 e187_27 ?_
    refine IaddN (a := (6 * B)) (b := (i + 1)) e187_29 rfl rfl ?_
    refine ArN (k := 6 * B + (i + 1)) e187_30 (o165 L) (by decide) rfl (by omega) (by decide) (mrow hR (6 * B + (i + 1)) (by omega)) ?_
    refine SA6 e187_31 rfl ?_
    refine LA6 e187_33 ?_
    refine Cs1 e187_35 c187_174 (Nat.le_of_ble_eq_true rfl) (Nat.le_of_ble_eq_true rfl) ((m_head (mo (6 * B + (i + 1)) (by omega)) (g4 (i + 1) (by omega)) ((g5 (i + 1) (by omega)).mono (by decide)) (g6 (i + 1) (by omega)))) ?_
    refine Cs1 e187_38 c187_154 (Nat.le_of_ble_eq_true rfl) (Nat.le_of_ble_eq_true rfl) (m_sign) ?_
    refine LI2 e187_41 ?_
    refine B_ge e187_42 t187_42 (fun _ => ?_) (fun q => absurd (by decide) q)
    refine Ki e187_60 kiconst_1 ?_
    refine Imul e187_61 ?_
    rw [show sgl (oI (hd (l.getD (i + 1) zP))) * 1 = sAb l (i + 1) from Int32.mul_one _]
    refine SI7 e187_62 rfl ?_
    refine LI3 e187_64 ?_
    refine LI4 e187_65 ?_
    refine B_eq e187_67 t187_67 (fun q => absurd q (hnz i (by omega))) (fun _ => ?_)
    refine LI7 e187_70 ?_
    refine LI4 e187_72 ?_
    refine C_eq e187_74 t187_74 (fun h74 => ?_) (fun h74 => ?_)
    · refine Ki e187_81 kiconst_0 ?_
      refine IaddN (a := (df (sAb l) i)) (b := 0) e187_82 rfl (by decide) ?_
      refine SI3 e187_83 rfl ?_
      refine LI7 e187_84 ?_
      refine SI4 e187_86 rfl ?_
      refine IncN5 (m := (i + 1)) e187_88 rfl ?_
      refine Go e187_91 t187_91 ?_
      have e1 : df (sAb l) (i + 1) = df (sAb l) i + 0 := by
        rw [df, if_pos h74.symm, Nat.add_zero]
      rw [← e1]
      exact ih (i + 1) _ _ (by omega) rfl hQ
    · refine Ki e187_77 kiconst_1 ?_
      refine Go e187_78 t187_78 ?_
      refine IaddN (a := (df (sAb l) i)) (b := 1) e187_82 rfl (by decide) ?_
      refine SI3 e187_83 rfl ?_
      refine LI7 e187_84 ?_
      refine SI4 e187_86 rfl ?_
      refine IncN5 (m := (i + 1)) e187_88 rfl ?_
      refine Go e187_91 t187_91 ?_
      have e1 : df (sAb l) (i + 1) = df (sAb l) i + 1 := by
        rw [df, if_neg (fun z => h74 z.symm)]
      rw [← e1]
      exact ih (i + 1) _ _ (by omega) rfl hQ
set_option maxHeartbeats 2000000 in
theorem m_by_hi_0 (hR : amRok R) (hB3 : B < 3) (hM : MI I J B l) (hQ : Q (some (.int (nI (tU l)))) I J R) : Ex 187 8 [some (.ref 152), some (.int (nI B)), some (.int 1), some (.int 0), some (.int 0), some (.int 0), none, none] [] (amSH L) I J R Q := by
  have hM2 := hM
  obtain ⟨g1, g2, g3, g4, g5, g6, g7⟩ := hM
  have hnz : ∀ k, k < l.length → ¬ sAb l k = 0 := fun k hk => hd_sgl (g5 k hk) (g6 k hk)

  refine LI5 e187_8 ?_
  refine LA0 e187_10 ?_
  refine Gr e187_11 (o152 L) (hR 152 17 184 rfl) f785 ?_
  refine LI1 e187_14 ?_
  refine AiN (k := B) e187_15 (o184 L) rfl (by omega) (by decide) ?_
  rw [g1]
  refine CN_ge (a := 0) (b := l.length) e187_16 t187_16 (by decide) rfl (by omega) (by omega) (fun q => absurd q (by omega)) (fun _ => ?_)
  refine LA0 e187_19 ?_
  refine Gr e187_20 (o152 L) (hR 152 16 165 rfl) f784 ?_
  refine Ki e187_23 kbipush_6 ?_
  refine LI1 e187_25 ?_
  refine ImulN (a := 6) (b := B) e187_26 (by decide) rfl ?_
  refine LI5 e187_27 ?_
  refine IaddN (a := (6 * B)) (b := 0) e187_29 rfl (by decide) ?_
  refine ArN (k := 6 * B + 0) e187_30 (o165 L) (by decide) rfl (by omega) (by decide) (mrow hR (6 * B + 0) (by omega)) ?_
  refine SA6 e187_31 rfl ?_
  refine LA6 e187_33 ?_
  refine Cs1 e187_35 c187_174 (Nat.le_of_ble_eq_true rfl) (Nat.le_of_ble_eq_true rfl) ((m_head (mo (6 * B + 0) (by omega)) (g4 0 (by omega)) ((g5 0 (by omega)).mono (by decide)) (g6 0 (by omega)))) ?_
  refine Cs1 e187_38 c187_154 (Nat.le_of_ble_eq_true rfl) (Nat.le_of_ble_eq_true rfl) (m_sign) ?_
  refine LI2 e187_41 ?_
  refine B_ge e187_42 t187_42 (fun _ => ?_) (fun q => absurd (by decide) q)
  refine Ki e187_60 kiconst_1 ?_
  refine Imul e187_61 ?_
  rw [show sgl (oI (hd (l.getD 0 zP))) * 1 = sAb l 0 from Int32.mul_one _]
  refine SI7 e187_62 rfl ?_
  refine LI3 e187_64 ?_
  refine LI4 e187_65 ?_
  refine B_eq e187_67 t187_67 (fun _ => ?_) (fun q => absurd (rfl) q)
  refine Ki e187_81 kiconst_0 ?_
  refine IaddN (a := 0) (b := 0) e187_82 (by decide) (by decide) ?_
  refine SI3 e187_83 rfl ?_
  refine LI7 e187_84 ?_
  refine SI4 e187_86 rfl ?_
  refine Inc5 (d := 1) e187_88 rfl rfl ?_
  refine Go e187_91 t187_91 ?_
  exact m_by_hi_lp hR hB3 hM2 (l.length - 1) 0 _ _ (by omega) rfl hQ
set_option maxHeartbeats 2000000 in
theorem m_by_hi (hR : amRok R) (hB3 : B < 3) (hM : MI I J B l) : Rv 187 [.ref 152, .int (nI B), .int 1] (amSH L) I J R (.int (nI (tU l))) := by
  intro Q hQ
  show Ex 187 0 [some (.ref 152), some (.int (nI B)), some (.int 1), none, none, none, none, none] [] (amSH L) I J R _
  refine Ki e187_0 kiconst_0 ?_
  refine SI3 e187_1 rfl ?_
  refine Ki e187_2 kiconst_0 ?_
  refine SI4 e187_3 rfl ?_
  refine Ki e187_5 kiconst_0 ?_
  refine SI5 e187_6 rfl ?_
  exact m_by_hi_0 hR hB3 hM hQ
theorem m_roots (hR : amRok R) (hB3 : B < 3) (hM : MI I J B l) : Rv 188 [.ref 152, .int (nI B)] (amSH L) I J R (.int (nI (tB l) - nI (tU l))) := by
  intro Q hQ
  show Ex 188 0 [some (.ref 152), some (.int (nI B))] [] (amSH L) I J R _
  refine LA0 e188_0 ?_
  refine LI1 e188_1 ?_
  refine Ki e188_2 kiconst_m1 ?_
  refine Cv2 e188_3 c188_187 (o152 L) (Nat.le_of_ble_eq_true rfl) (Nat.le_of_ble_eq_true rfl) ((m_by_lo hR hB3 hM)) ?_
  refine LA0 e188_6 ?_
  refine LI1 e188_7 ?_
  refine Ki e188_8 kiconst_1 ?_
  refine Cv2 e188_9 c188_187 (o152 L) (Nat.le_of_ble_eq_true rfl) (Nat.le_of_ble_eq_true rfl) ((m_by_hi hR hB3 hM)) ?_
  refine Isub e188_12 ?_
  exact Ri e188_13 rt188 (hQ)
end REF6
