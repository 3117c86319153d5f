/-! the reference: into, of (printed by wip/whole/t75.py) -/
theorem lkP_sz {p q : Po} (hp : sz p ≤ 5) (hq : sz q ≤ 5) : lkP p q 9 = lkP p q 5 := by
  have e : ∀ t, t ≤ 4 → lkP p q (5 + t) = lkP p q 5 := by
    intro t
    induction t with
    | zero => intro _; rfl
    | succ t ih =>
      intro ht
      rw [← ih (by omega), ← Nat.add_assoc, lkP, sz_zero (p := p) (by omega) (by omega), sz_zero (p := q) (by omega) (by omega)]
      simp
  exact e 4 (by omega)
theorem iI_inj {a b : Int} (ha : -2000000000 ≤ a ∧ a ≤ 2000000000) (hb : -2000000000 ≤ b ∧ b ≤ 2000000000) : iI a = iI b ↔ a = b := by
  rw [← Int32.toInt_inj, iI_t ha, iI_t hb]
section REF12
variable {L : Nat} {I : amI} {J : amJ} {R : amR} {Q : amQ} {a B : Nat} {q : Po} {ps l : List Po} {σ : PS}
set_option maxHeartbeats 2000000 in
theorem m_in_lp {k s t m : Nat} {q : Po} (hR : amRok R) (hs : s < 4) (hm : m ≤ 24) (ht : t < m) (hk : k < 8) (h1 : I 201 s = nI m) (hq : ∀ i, i < 5 → I 153 (5 * k + i) = iI (q i)) (hQ : ∀ I'', (∀ y j, y ≠ 202 → I'' y j = I y j) → (∀ i, i < min 5 (m - t) → I'' 202 (24 * s + t + i) = iI (q i)) → (∀ j, (j < 24 * s + t ∨ 24 * s + t + min 5 (m - t) ≤ j) → I'' 202 j = I 202 j) → Q (some (.int (nI (min 5 (m - t))))) I'' J R) : ∀ (c n : Nat) (I' : amI), 6 - n < c → n ≤ 5 → n ≤ m - t → (∀ y j, y ≠ 202 → I' y j = I y j) → (∀ i, i < n → I' 202 (24 * s + t + i) = iI (q i)) → (∀ j, (j < 24 * s + t ∨ 24 * s + t + n ≤ j) → I' 202 j = I 202 j) → Ex 244 39 [some (.ref 152), some (.int (nI k)), some (.int (nI s)), some (.int (nI t)), some (.int (nI n))] [] (amSH L) I' J R Q := by
  intro c
  induction c with
  | zero => intro n I' h; omega
  | succ c ih =>
    intro n I' h h9 hnm g1 g2 g3
    refine LI4 e244_39 ?_
    refine Ki e244_41 kiconst_5 ?_
    refine CN_ge (a := n) (b := 5) e244_42 t244_42 rfl (by decide) (by omega) (by omega) (fun h42 => ?_) (fun h42 => ?_)
    · refine LI4 e244_89 ?_
      exact Ri e244_91 rt244 (by
      have e9 : min 5 (m - t) = n := by omega
      rw [e9] at hQ
      exact hQ _ g1 g2 g3)
    · refine LI3 e244_45 ?_
      refine LA0 e244_46 ?_
      refine Gr e244_47 (o152 L) (hR 152 47 201 rfl) f815 ?_
      refine LI2 e244_50 ?_
      refine AiN (k := s) e244_51 (o201 L) rfl (by omega) (by decide) ?_
      rw [(show I' 201 s = nI m from (g1 _ _ (by omega)).trans h1)]
      refine LI4 e244_52 ?_
      refine IsubN (a := m) (b := n) e244_54 rfl rfl (by omega) ?_
      refine CN_ge (a := t) (b := (m - n)) e244_55 t244_55 rfl rfl (by omega) (by omega) (fun h55 => ?_) (fun h55 => ?_)
      · refine LI4 e244_89 ?_
        exact Ri e244_91 rt244 (by
        have e9 : min 5 (m - t) = n := by omega
        rw [e9] at hQ
        exact hQ _ g1 g2 g3)
      · refine LA0 e244_58 ?_
        refine Gr e244_59 (o152 L) (hR 152 48 202 rfl) f816 ?_
        refine Ki e244_62 kbipush_24 ?_
        refine LI2 e244_64 ?_
        refine ImulN (a := 24) (b := s) e244_65 (by decide) rfl ?_
        refine LI3 e244_66 ?_
        refine IaddN (a := (24 * s)) (b := t) e244_67 rfl rfl ?_
        refine LI4 e244_68 ?_
        refine IaddN (a := ((24 * s) + t)) (b := n) e244_70 rfl rfl ?_
        refine LA0 e244_71 ?_
        refine Gr e244_72 (o152 L) (hR 152 1 153 rfl) f769 ?_
        refine Ki e244_75 kiconst_5 ?_
        refine LI1 e244_76 ?_
        refine ImulN (a := 5) (b := k) e244_77 (by decide) rfl ?_
        refine LI4 e244_78 ?_
        refine IaddN (a := (5 * k)) (b := n) e244_80 rfl rfl ?_
        refine AiN (k := ((5 * k) + n)) e244_81 (o153 L) rfl (by omega) (by decide) ?_
        rw [(show I' 153 (5 * k + n) = iI (q n) from (g1 _ _ (by omega)).trans (hq n (by omega)))]
        refine WiN (k := (((24 * s) + t) + n)) e244_82 (o202 L) rfl (by omega) (by decide) ?_
        refine IncN4 (m := n) e244_83 rfl ?_
        refine Go e244_86 t244_86 ?_
        refine ih (n + 1) _ (by omega) (by omega) (by omega) (fun y j hy => by rw [up_o (by omega)]; exact g1 y j hy) (fun i hi => ?_) (fun j hj => by rw [up_o (by omega)]; exact g3 j (by omega))
        by_cases e : i = n
        · rw [e, amU_same]
        · rw [up_o (by omega)]
          exact g2 i (by omega)
set_option maxHeartbeats 2000000 in
theorem n_into {p q i : Int32} (h : MSt I J R σ) : Cl 244 [.ref 152, .int p, .int q, .int i] (amSH L) I J R (MP I J R (sInto σ p q i).2 (.int (sInto σ p q i).1)) := by
  obtain ⟨hR, hPl, h3, h4, h5, h6, h7⟩ := id h
  have h3 : M3 I σ.2.1 := h3
  have h4 : M4 I σ.2.2.1 σ.2.2.2.1 := h4
  have h5 : M5 I σ.2.2.2.2.1 := h5
  have h6 : M6 I σ.2.2.2.2.2.1 σ.2.2.2.2.2.2 := h6
  have h8 := h7.1.1
  have hn120 := h7.2.2.1
  have hw35 := h7.2.2.2.1
  unfold sInto
  show Ex 244 0 [some (.ref 152), some (.int p), some (.int q), some (.int i), none] [] (amSH L) I J R _
  by_cases hp : inP σ.1 p
  · obtain ⟨k, hk, rfl, ek⟩ := hp.of h8
    have ei : bI (decide (inP σ.1 (nI k))) = 1 := by rw [decide_eq_true hp]; rfl
    rw [ek]
    by_cases g : inL q
    · rw [if_pos ⟨hp, g⟩]
      obtain ⟨s, hs, rfl⟩ : ∃ s : Nat, s < 4 ∧ q = nI s := ⟨q.toInt.toNat, by omega, by rw [← Int32.toInt_inj, nI_toInt (by omega)]; omega⟩
      have es : (nI s).toInt.toNat = s := by rw [nI_toInt (by omega)]; omega
      rw [es]
      rcases h6 s hs with ⟨e1, e2⟩ | ⟨m, e1, e2, e3⟩
      · rw [e1]
        dsimp only
        refine LA0 e244_0 ?_
        refine LI1 e244_1 ?_
        refine Cv1 e244_2 c244_157 (o152 L) (Nat.le_of_ble_eq_true rfl) (Nat.le_of_ble_eq_true rfl) ((m_isPoly h8 hPl.1)) ?_
        rw [ei]
        refine B_eq e244_5 t244_5 (fun q => absurd q (by decide)) (fun _ => ?_)
        refine LI2 e244_8 ?_
        refine Cs1 e244_9 c244_240 (Nat.le_of_ble_eq_true rfl) (Nat.le_of_ble_eq_true rfl) (m_isList) ?_
        rw [decide_eq_true g]
        rw [show bI true = 1 from rfl]
        refine B_ne e244_12 t244_12 (fun _ => ?_) (fun q => absurd (by decide) q)
        refine LA0 e244_17 ?_
        refine Gr e244_18 (o152 L) (hR 152 47 201 rfl) f815 ?_
        refine LI2 e244_21 ?_
        refine AiN (k := s) e244_22 (o201 L) rfl (by omega) (by decide) ?_
        rw [e2]
        refine B_ge e244_23 t244_23 (fun q => absurd q (by decide)) (fun _ => ?_)
        refine Ki e244_26 kbipush_m11 ?_
        exact Ri e244_28 rt244 (MP.rf h)
      · rw [e1]
        dsimp only
        have hm24 := h7.2.2.2.2 s m e1
        have hm0 : (0 : Int32) ≤ nI m := by rw [i32le, nI_toInt (by omega), show (0 : Int32).toInt = 0 from rfl]; omega
        by_cases g0 : i.toInt < 0
        · rw [if_pos g0]
          refine LA0 e244_0 ?_
          refine LI1 e244_1 ?_
          refine Cv1 e244_2 c244_157 (o152 L) (Nat.le_of_ble_eq_true rfl) (Nat.le_of_ble_eq_true rfl) ((m_isPoly h8 hPl.1)) ?_
          rw [ei]
          refine B_eq e244_5 t244_5 (fun q => absurd q (by decide)) (fun _ => ?_)
          refine LI2 e244_8 ?_
          refine Cs1 e244_9 c244_240 (Nat.le_of_ble_eq_true rfl) (Nat.le_of_ble_eq_true rfl) (m_isList) ?_
          rw [decide_eq_true g]
          rw [show bI true = 1 from rfl]
          refine B_ne e244_12 t244_12 (fun _ => ?_) (fun q => absurd (by decide) q)
          refine LA0 e244_17 ?_
          refine Gr e244_18 (o152 L) (hR 152 47 201 rfl) f815 ?_
          refine LI2 e244_21 ?_
          refine AiN (k := s) e244_22 (o201 L) rfl (by omega) (by decide) ?_
          rw [e2]
          refine B_ge e244_23 t244_23 (fun _ => ?_) (fun q => absurd (hm0) q)
          refine LI3 e244_29 ?_
          refine B_ge e244_30 t244_30 (fun q => absurd q (fun z => by rw [i32le, show (0 : Int32).toInt = 0 from rfl] at z; omega)) (fun _ => ?_)
          refine Ki e244_33 kbipush_m13 ?_
          exact Ri e244_35 rt244 (MP.rf h)
        · rw [if_neg g0]
          obtain ⟨t, ht0, rfl⟩ : ∃ t : Nat, (t : Int) = i.toInt ∧ i = nI t := ⟨i.toInt.toNat, by omega, by rw [← Int32.toInt_inj, nI_toInt (by have := Int32.toInt_lt i; omega)]; omega⟩
          have ht9 : t < 2147483648 := by have := Int32.toInt_lt (nI t); omega
          have h30p : (0 : Int32) ≤ nI t := by rw [i32le, show (0 : Int32).toInt = 0 from rfl]; omega
          rw [← ht0, Int.toNat_natCast]
          by_cases gt : t < m
          · rw [if_pos (by omega)]
            refine LA0 e244_0 ?_
            refine LI1 e244_1 ?_
            refine Cv1 e244_2 c244_157 (o152 L) (Nat.le_of_ble_eq_true rfl) (Nat.le_of_ble_eq_true rfl) ((m_isPoly h8 hPl.1)) ?_
            rw [ei]
            refine B_eq e244_5 t244_5 (fun q => absurd q (by decide)) (fun _ => ?_)
            refine LI2 e244_8 ?_
            refine Cs1 e244_9 c244_240 (Nat.le_of_ble_eq_true rfl) (Nat.le_of_ble_eq_true rfl) (m_isList) ?_
            rw [decide_eq_true g]
            rw [show bI true = 1 from rfl]
            refine B_ne e244_12 t244_12 (fun _ => ?_) (fun q => absurd (by decide) q)
            refine LA0 e244_17 ?_
            refine Gr e244_18 (o152 L) (hR 152 47 201 rfl) f815 ?_
            refine LI2 e244_21 ?_
            refine AiN (k := s) e244_22 (o201 L) rfl (by omega) (by decide) ?_
            rw [e2]
            refine B_ge e244_23 t244_23 (fun _ => ?_) (fun q => absurd (hm0) q)
            refine LI3 e244_29 ?_
            refine B_ge e244_30 t244_30 (fun _ => ?_) (fun q => absurd (h30p) q)
            refine Ki e244_36 kiconst_0 ?_
            refine SI4 e244_37 rfl ?_
            refine m_in_lp hR hs hm24 gt (by omega) e2 (fun i hi => hPl.2 k i hk hi) (fun I1 g1 g2 g3 => ?_) 7 0 I (by omega) (by omega) (by omega) (fun _ _ _ => rfl) (fun i hi => by omega) (fun _ _ => rfl)
            refine ⟨rfl, ⟨hR, hPl.cg (g1 _ _ (by omega)) (fun i => g1 _ _ (by omega)), h3.cg (g1 _ _ (by omega)) (fun i => g1 _ _ (by omega)), h4.cg (g1 _ _ (by omega)) (fun i => g1 _ _ (by omega)), h5.cg (g1 _ _ (by omega)) (fun i => g1 _ _ (by omega)), fun r hr => ?_, h7⟩, fun y hy => funext (fun i => g1 _ _ (by omega)), fun _ _ => rfl, rfl⟩
            rw [g1 _ _ (by omega)]
            rcases h6 r hr with g6 | ⟨m6, f1, f2, f3⟩
            · exact Or.inl g6
            · refine Or.inr ⟨m6, f1, f2, fun i hi => ?_⟩
              have hm6 := h7.2.2.2.2 r m6 f1
              show _ = if r = s ∧ t ≤ i ∧ i < t + 5 then iI (σ.1.getD k zP (i - t)) else σ.2.2.2.2.2.2 r i
              by_cases er : r = s ∧ t ≤ i ∧ i < t + 5
              · rw [if_pos er]
                obtain ⟨rfl, er1, er2⟩ := er
                have em : m6 = m := by
                  rw [e1] at f1
                  exact (Option.some.inj f1).symm
                have := g2 (i - t) (by omega)
                rw [show 24 * r + t + (i - t) = r * 24 + i by omega] at this
                exact this
              · rw [if_neg er, g3 _ (by omega)]
                exact f3 i hi
          · rw [if_neg (by omega)]
            refine LA0 e244_0 ?_
            refine LI1 e244_1 ?_
            refine Cv1 e244_2 c244_157 (o152 L) (Nat.le_of_ble_eq_true rfl) (Nat.le_of_ble_eq_true rfl) ((m_isPoly h8 hPl.1)) ?_
            rw [ei]
            refine B_eq e244_5 t244_5 (fun q => absurd q (by decide)) (fun _ => ?_)
            refine LI2 e244_8 ?_
            refine Cs1 e244_9 c244_240 (Nat.le_of_ble_eq_true rfl) (Nat.le_of_ble_eq_true rfl) (m_isList) ?_
            rw [decide_eq_true g]
            rw [show bI true = 1 from rfl]
            refine B_ne e244_12 t244_12 (fun _ => ?_) (fun q => absurd (by decide) q)
            refine LA0 e244_17 ?_
            refine Gr e244_18 (o152 L) (hR 152 47 201 rfl) f815 ?_
            refine LI2 e244_21 ?_
            refine AiN (k := s) e244_22 (o201 L) rfl (by omega) (by decide) ?_
            rw [e2]
            refine B_ge e244_23 t244_23 (fun _ => ?_) (fun q => absurd (hm0) q)
            refine LI3 e244_29 ?_
            refine B_ge e244_30 t244_30 (fun _ => ?_) (fun q => absurd (h30p) q)
            refine Ki e244_36 kiconst_0 ?_
            refine SI4 e244_37 rfl ?_
            refine LI4 e244_39 ?_
            refine Ki e244_41 kiconst_5 ?_
            refine CN_ge (a := 0) (b := 5) e244_42 t244_42 (by decide) (by decide) (by omega) (by omega) (fun q => absurd q (by decide)) (fun _ => ?_)
            refine LI3 e244_45 ?_
            refine LA0 e244_46 ?_
            refine Gr e244_47 (o152 L) (hR 152 47 201 rfl) f815 ?_
            refine LI2 e244_50 ?_
            refine AiN (k := s) e244_51 (o201 L) rfl (by omega) (by decide) ?_
            rw [e2]
            refine LI4 e244_52 ?_
            refine Isub e244_54 ?_
            refine C_ge e244_55 t244_55 (fun _ => ?_) (fun q => absurd (by rw [show nI m - 0 = nI m from by rw [Int32.sub_zero], i32le, nI_toInt (by omega)]; omega) q)
            refine LI4 e244_89 ?_
            exact Ri e244_91 rt244 (MP.rf h)
    · rw [if_neg (fun z => g z.2)]
      refine LA0 e244_0 ?_
      refine LI1 e244_1 ?_
      refine Cv1 e244_2 c244_157 (o152 L) (Nat.le_of_ble_eq_true rfl) (Nat.le_of_ble_eq_true rfl) ((m_isPoly h8 hPl.1)) ?_
      rw [ei]
      refine B_eq e244_5 t244_5 (fun q => absurd q (by decide)) (fun _ => ?_)
      refine LI2 e244_8 ?_
      refine Cs1 e244_9 c244_240 (Nat.le_of_ble_eq_true rfl) (Nat.le_of_ble_eq_true rfl) (m_isList) ?_
      rw [decide_eq_false g]
      rw [show bI false = 0 from rfl]
      refine B_ne e244_12 t244_12 (fun q => absurd q (fun z => z rfl)) (fun _ => ?_)
      refine Ki e244_15 kiconst_m1 ?_
      exact Ri e244_16 rt244 (MP.rf h)
  · rw [if_neg (fun z => hp z.1)]
    refine LA0 e244_0 ?_
    refine LI1 e244_1 ?_
    refine Cv1 e244_2 c244_157 (o152 L) (Nat.le_of_ble_eq_true rfl) (Nat.le_of_ble_eq_true rfl) ((m_isPoly h8 hPl.1)) ?_
    rw [show bI (decide (inP σ.1 p)) = 0 from by rw [decide_eq_false hp]; rfl]
    refine B_eq e244_5 t244_5 (fun _ => ?_) (fun q => absurd (rfl) q)
    refine Ki e244_15 kiconst_m1 ?_
    exact Ri e244_16 rt244 (MP.rf h)
end REF12
