/-! Sturm: no count falls -/
theorem sg_p {z : Rat} (h : 0 < z) : sgR z = 1 := by
  unfold sgR
  rw [if_neg (by grind), if_pos h]
theorem sg_n {z : Rat} (h : z < 0) : sgR z = -1 := by
  unfold sgR
  rw [if_pos h]
theorem sg_tri (z : Rat) : sgR z = -1 ∨ sgR z = 0 ∨ sgR z = 1 := by
  unfold sgR
  split
  · exact Or.inl rfl
  · split
    · exact Or.inr (Or.inr rfl)
    · exact Or.inr (Or.inl rfl)
theorem SMe.sg {z w : Rat} (h : SMe z w) : sgR z = sgR w ∧ sgR z ≠ 0 := by
  rcases h with ⟨a, b⟩ | ⟨a, b⟩
  · rw [sg_p a, sg_p b]
    exact ⟨rfl, by decide⟩
  · rw [sg_n a, sg_n b]
    exact ⟨rfl, by decide⟩
theorem SMe.op {z w : Rat} (h : SMe z (-w)) : (sgR z = 1 ∧ sgR w = -1) ∨ (sgR z = -1 ∧ sgR w = 1) := by
  rcases h with ⟨a, b⟩ | ⟨a, b⟩
  · exact Or.inl ⟨sg_p a, sg_n (by grind)⟩
  · exact Or.inr ⟨sg_n a, sg_p (by grind)⟩
theorem ch_s {f : Nat → Int32} {n : Nat} (h : f n ≠ 0) : (chN f (n + 1)).2 = f n := by
  show (if f n = 0 then (chN f n).2 else f n) = f n
  rw [if_neg h]
theorem ch_1 {f : Nat → Int32} {n : Nat} (h : f n ≠ 0) : (chN f (n + 2)).1 = if f (n + 1) * f n < 0 then (chN f (n + 1)).1 + 1 else (chN f (n + 1)).1 := by
  show (if f (n + 1) * (chN f (n + 1)).2 < 0 then (chN f (n + 1)).1 + 1 else (chN f (n + 1)).1) = _
  rw [ch_s h]
theorem ch_2 {f : Nat → Int32} {n : Nat} (h : (f n = 1 ∧ f (n + 2) = -1) ∨ (f n = -1 ∧ f (n + 2) = 1)) (ht : f (n + 1) = -1 ∨ f (n + 1) = 0 ∨ f (n + 1) = 1) : (chN f (n + 3)).1 = (chN f (n + 1)).1 + 1 := by
  have hn : f n ≠ 0 := by
    rcases h with ⟨h, -⟩ | ⟨h, -⟩ <;> (rw [h]; decide)
  have e2 := ch_s hn
  have e1 := ch_1 hn
  show (if f (n + 2) * (if f (n + 1) = 0 then (chN f (n + 1)).2 else f (n + 1)) < 0 then (chN f (n + 2)).1 + 1 else (chN f (n + 2)).1) = _
  rw [e2, e1]
  generalize (chN f (n + 1)).1 = c
  rcases h with ⟨h, h2⟩ | ⟨h, h2⟩ <;> rcases ht with t | t | t <;> rw [h, h2, t]
  · rw [if_neg (show ¬ (-1 : Int32) = 0 by decide), if_neg (show ¬ (-1 : Int32) * -1 < 0 by decide), if_pos (show (-1 : Int32) * 1 < 0 by decide)]
  · rw [if_pos rfl, if_pos (show (-1 : Int32) * 1 < 0 by decide), if_neg (show ¬ (0 : Int32) * 1 < 0 by decide)]
  · rw [if_neg (show ¬ (1 : Int32) = 0 by decide), if_pos (show (-1 : Int32) * 1 < 0 by decide), if_neg (show ¬ (1 : Int32) * 1 < 0 by decide)]
  · rw [if_neg (show ¬ (-1 : Int32) = 0 by decide), if_pos (show (1 : Int32) * -1 < 0 by decide), if_neg (show ¬ (-1 : Int32) * -1 < 0 by decide)]
  · rw [if_pos rfl, if_pos (show (1 : Int32) * -1 < 0 by decide), if_neg (show ¬ (0 : Int32) * -1 < 0 by decide)]
  · rw [if_neg (show ¬ (1 : Int32) = 0 by decide), if_neg (show ¬ (1 : Int32) * 1 < 0 by decide), if_pos (show (1 : Int32) * -1 < 0 by decide)]
theorem ch_mono {s t : Nat → Int32} {n : Nat} (hs : ∀ i, s i = -1 ∨ s i = 0 ∨ s i = 1) (ht : ∀ i, t i = -1 ∨ t i = 0 ∨ t i = 1) (hmid : ∀ i, 1 ≤ i → i + 1 < n → (s i = t i ∧ s i ≠ 0) ∨ (s (i - 1) = t (i - 1) ∧ (s (i + 1) = t (i + 1) ∧ s (i + 1) ≠ 0) ∧ ((s (i - 1) = 1 ∧ s (i + 1) = -1) ∨ (s (i - 1) = -1 ∧ s (i + 1) = 1)))) (hlast : s (n - 1) = t (n - 1) ∧ s (n - 1) ≠ 0) : ∀ m j, n - j ≤ m → j < n → s j = t j → s j ≠ 0 → (chN t (j + 1)).1 ≤ (chN s (j + 1)).1 → (chN t n).1 ≤ (chN s n).1 := by
  intro m
  induction m with
  | zero => intro j h1 h2; omega
  | succ m ih =>
    intro j h1 h2 e e0 hj
    by_cases hn : j + 1 = n
    · rw [← hn]
      exact hj
    · by_cases g : s (j + 1) = t (j + 1) ∧ s (j + 1) ≠ 0
      · refine ih (j + 1) (by omega) (by omega) g.1 g.2 ?_
        rw [ch_1 e0, ch_1 (f := t) (by rw [← e]; exact e0), ← g.1, ← e]
        split <;> omega
      · have hj2 : j + 2 < n := by
          rcases Nat.lt_or_ge (j + 2) n with l | l
          · exact l
          · exfalso
            refine g ?_
            have : n - 1 = j + 1 := by omega
            rw [this] at hlast
            exact hlast
        rcases hmid (j + 1) (by omega) (by omega) with z | ⟨z1, z2, z3⟩
        · exact absurd z g
        · rw [Nat.add_sub_cancel] at z1 z3
          refine ih (j + 2) (by omega) (by omega) z2.1 z2.2 ?_
          rw [ch_2 z3 (hs (j + 1)), ch_2 (f := t) (by rw [← z1, ← z2.1]; exact z3) (ht (j + 1))]
          omega
theorem ch_le {s t : Nat → Int32} {n : Nat} (hs : ∀ i, s i = -1 ∨ s i = 0 ∨ s i = 1) (ht : ∀ i, t i = -1 ∨ t i = 0 ∨ t i = 1) (hmid : ∀ i, 1 ≤ i → i + 1 < n → (s i = t i ∧ s i ≠ 0) ∨ (s (i - 1) = t (i - 1) ∧ (s (i + 1) = t (i + 1) ∧ s (i + 1) ≠ 0) ∧ ((s (i - 1) = 1 ∧ s (i + 1) = -1) ∨ (s (i - 1) = -1 ∧ s (i + 1) = 1)))) (hlast : s (n - 1) = t (n - 1) ∧ s (n - 1) ≠ 0) (hfirst : 2 ≤ n → (s 0 = t 0 ∧ s 0 ≠ 0) ∨ ((s 1 = t 1 ∧ s 1 ≠ 0) ∧ (t 1 * t 0 < 0 → s 1 * s 0 < 0))) : (chN t n).1 ≤ (chN s n).1 := by
  have one : ∀ f : Nat → Int32, (chN f 1).1 = 0 := fun f => by
    show (if f 0 * 0 < 0 then 0 + 1 else 0) = 0
    rw [Int32.mul_zero, if_neg (by decide)]
  have two : ∀ f : Nat → Int32, (chN f 2).1 = if f 1 * f 0 < 0 then 1 else 0 := fun f => by
    have e : (chN f 1).2 = f 0 := by
      show (if f 0 = 0 then (0 : Int32) else f 0) = f 0
      by_cases g : f 0 = 0
      · rw [if_pos g, g]
      · rw [if_neg g]
    show (if f 1 * (chN f 1).2 < 0 then (chN f 1).1 + 1 else (chN f 1).1) = _
    rw [e, one]
  rcases Nat.lt_or_ge n 2 with l | l
  · rcases (by omega : n = 0 ∨ n = 1) with rfl | rfl
    · exact Nat.le_refl _
    · rw [one, one]
      exact Nat.le_refl _
  · rcases hfirst l with ⟨a, b⟩ | ⟨⟨a, b⟩, c⟩
    · exact ch_mono hs ht hmid hlast n 0 (by omega) (by omega) a b (by rw [one, one]; exact Nat.le_refl _)
    · refine ch_mono hs ht hmid hlast n 1 (by omega) (by omega) a b ?_
      rw [two, two]
      by_cases g : t 1 * t 0 < 0
      · rw [if_pos g, if_pos (c g)]
        exact Nat.le_refl _
      · rw [if_neg g]
        exact Nat.zero_le _
/-! the signs of the class -/
theorem hN_bq {p : Po} {u v : Int} {s : Nat} (hp : PB 1000000 p) (hs : s ≤ 9) (hu : u.natAbs ≤ 1000) (hv : v.natAbs ≤ 1000) : ∀ {j : Nat}, j ≤ s → (hN p u v s j).natAbs * 1000 ≤ j * 1000000 * 1000 ^ j
  | 0, _ => by
    rw [hN]
    decide
  | j + 1, h => by
    have ih := hN_bq hp hs hu hv (j := j) (by omega)
    have hpj : (p (s - 1 - j)).natAbs ≤ 1000000 := by
      have := hp (s - 1 - j) (by omega)
      omega
    rw [hN]
    have a1 : (hN p u v s j * u + p (s - 1 - j) * v ^ j).natAbs ≤ (hN p u v s j * u).natAbs + (p (s - 1 - j) * v ^ j).natAbs := Int.natAbs_add_le _ _
    have a2 : (hN p u v s j * u).natAbs ≤ (hN p u v s j).natAbs * 1000 := by
      rw [Int.natAbs_mul]
      exact Nat.mul_le_mul_left _ hu
    have a3 : (p (s - 1 - j) * v ^ j).natAbs ≤ 1000000 * 1000 ^ j := by
      rw [Int.natAbs_mul, Int.natAbs_pow]
      exact Nat.mul_le_mul hpj (Nat.pow_le_pow_left hv j)
    rw [Nat.pow_succ, Nat.add_mul]
    generalize 1000 ^ j = P at *
    generalize (hN p u v s j).natAbs = H at *
    have e : (j * 1000000 + 1 * 1000000) * (P * 1000) = (j * 1000000 * P + 1000000 * P) * 1000 := by
      rw [Nat.add_mul, Nat.add_mul, Nat.one_mul, ← Nat.mul_assoc, ← Nat.mul_assoc]
    rw [e]
    exact Nat.mul_le_mul_right _ (by omega)
theorem hv_bq {p : Po} {u v : Int} (hp : PB 1000000 p) (hs : sz p ≤ 5) (hu : -1000 ≤ u ∧ u ≤ 1000) (hv1 : 1 ≤ v ∧ v ≤ 1000) : iB (hv p u v) := by
  have h := hN_bq (u := u) (v := v) (s := sz p) hp (by omega) (by omega) (by omega) (Nat.le_refl (sz p))
  have h4 : 1000 ^ (sz p) ≤ 1000000000000000 := Nat.le_trans (Nat.pow_le_pow_right (by decide) hs) (by decide)
  have h2 : sz p * 1000000 * 1000 ^ (sz p) ≤ 5000000000000000000000 := Nat.le_trans (Nat.mul_le_mul (Nat.mul_le_mul_right 1000000 hs) h4) (Nat.le_of_ble_eq_true rfl)
  unfold hv iB
  generalize sz p * 1000000 * 1000 ^ (sz p) = X at *
  omega
theorem evS_N {p : Po} {x : Rat} : ∀ {n k : Nat}, evS p k n x = evN (fun i => p (k + i)) n x
  | 0, _ => rfl
  | n + 1, k => by
    rw [evS, evN_s, evS_N (n := n)]
    have : (fun i => p (k + 1 + i)) = fun i => p (k + (i + 1)) := by
      funext i
      rw [Nat.add_assoc, Nat.add_comm 1]
    rw [this]
    rfl
theorem hv_ev {p : Po} {u v : Int} {x : Rat} (hx : x * (v : Rat) = (u : Rat)) : (hv p u v : Rat) * (v : Rat) = (v : Rat) ^ (sz p) * ev p x := by
  have h := hN_ev (p := p) (s := sz p) hx (j := sz p) (Nat.le_refl _)
  have h9 := sz_le p
  rw [Nat.sub_self, evS_N] at h
  have e : evN (fun i => p (0 + i)) (sz p) x = ev p x := by
    rw [evN_cg (q := p) (fun k _ => by rw [Nat.zero_add])]
    exact (evN_to h9 (fun k a b => sz_zero a b)).symm
  rw [e] at h
  exact h
theorem sg_oI {h : Int} (hb : iB h) : sgl (oI h) = if h < 0 then -1 else if 0 < h then 1 else 0 := by
  unfold sgl
  have e1 : oI h < 0 ↔ h < 0 := by
    rw [oI_0]
    exact oI_lt hb ⟨by decide, by decide⟩
  have e2 : 0 < oI h ↔ 0 < h := by
    rw [oI_0]
    exact oI_lt ⟨by decide, by decide⟩ hb
  by_cases g : h < 0
  · rw [if_pos g, if_pos (e1.mpr g)]
  · rw [if_neg g, if_neg (fun z => g (e1.mp z))]
    by_cases g2 : 0 < h
    · rw [if_pos g2, if_pos (e2.mpr g2)]
    · rw [if_neg g2, if_neg (fun z => g2 (e2.mp z))]
theorem sg_hv {p : Po} {u v : Int} {x : Rat} (hp : PB 1000000 p) (hs : sz p ≤ 5) (hu : -1000 ≤ u ∧ u ≤ 1000) (hv1 : 1 ≤ v ∧ v ≤ 1000) (hx : x * (v : Rat) = (u : Rat)) : sgl (oI (hv p u v)) = sgR (ev p x) := by
  rw [sg_oI (hv_bq hp hs hu hv1)]
  have e := hv_ev (p := p) hx
  have v1 := rq_int1 (c := v) (by omega)
  have vp : (0 : Rat) < (v : Rat) ^ (sz p) := Rat.pow_pos (by grind)
  generalize (v : Rat) ^ (sz p) = V at *
  by_cases g : hv p u v < 0
  · rw [if_pos g]
    have h1 : (hv p u v : Rat) ≤ ((-1 : Int) : Rat) := Rat.intCast_le_intCast.mpr (by omega)
    have h1 : (hv p u v : Rat) ≤ -1 := h1
    have := Rat.mul_nonneg (show 0 ≤ -1 - (hv p u v : Rat) by grind) (show 0 ≤ (v : Rat) by grind)
    exact (sg_n (neg_of (E := V) (by grind) (by grind))).symm
  · rw [if_neg g]
    by_cases g2 : 0 < hv p u v
    · rw [if_pos g2]
      have h1 := rq_int1 g2
      have := Rat.mul_nonneg (show 0 ≤ (hv p u v : Rat) - 1 by grind) (show 0 ≤ (v : Rat) by grind)
      exact (sg_p (pos_of (E := V) (by grind) (by grind))).symm
    · rw [if_neg g2]
      have h0 : hv p u v = 0 := by omega
      rw [h0, Rat.intCast_zero] at e
      have e2 : ev p x = 0 := rat_mul_zero (a := V) (by grind) (by grind)
      rw [e2]
      unfold sgR
      rw [if_neg (by grind), if_neg (by grind)]
/-! along a chain -/
theorem As_ng {r : Po} : As (ng r) r := ⟨-1, 1, by decide, by decide, fun x => by rw [ev_ng, Rat.intCast_neg, Rat.intCast_one]; grind⟩
theorem As.rf {a : Po} : As a a := ⟨1, 1, by decide, by decide, fun _ => rfl⟩
abbrev Cpo (a b : Po) : Prop := cop (ev a) (ev b)
theorem Cpo_step {a b r : Po} (h : Cpo a b) (hr : rem a b = some r) (h0 : 0 < sz b) : Cpo b (ng r) ∧ ∃ (c d : Int) (T : Rat → Rat), 0 < c ∧ 0 < d ∧ isP T ∧ ∀ x, (c : Rat) * ev a x = T x * ev b x - (d : Rat) * ev (ng r) x := by
  obtain ⟨c, d, hc, hd, T, hT, e⟩ := rem_R hr h0
  obtain ⟨q, A, B, hq, hA, hB, e2⟩ := h
  refine ⟨⟨q * c, _, _, Int.mul_ne_zero hq (by omega), isP_add (isP_mul hA hT) (isP_sm c hB), isP_neg (isP_sm d hA), fun x => ?_⟩, c, d, T, hc, hd, hT, fun x => ?_⟩
  · have g1 := e x
    have g2 := e2 x
    rw [ev_ng, Rat.intCast_mul, g2]
    have s1 : (A x * ev a x + B x * ev b x) * (c : Rat) = A x * ((c : Rat) * ev a x) + (c : Rat) * B x * ev b x := by grind
    rw [s1, g1]
    grind
  · rw [ev_ng, e x]
    grind
theorem exN_hd {n : Nat} {a b : Po} {t : List Po} (h : exN n a b = some t) (h0 : 0 < t.length) : t.getD 0 zP = b := by
  cases n with
  | zero => cases h; exact absurd h0 (by decide)
  | succ n =>
    rw [exN] at h
    split at h
    · cases h; exact absurd h0 (by decide)
    · split at h
      · cases h
      · split at h
        · cases h
        · cases h; rfl
/-- what a small step may do to the signs along a chain -/
def Qn (L : List Po) (x y : Rat) : Prop := SMe (ev (L.getD (L.length - 1) zP) x) (ev (L.getD (L.length - 1) zP) y) ∧ ∀ i, 1 ≤ i → i + 1 < L.length → SMe (ev (L.getD i zP) x) (ev (L.getD i zP) y) ∨ (SMe (ev (L.getD (i - 1) zP) x) (ev (L.getD (i - 1) zP) y) ∧ SMe (ev (L.getD (i + 1) zP) x) (ev (L.getD (i + 1) zP) y) ∧ SMe (ev (L.getD (i - 1) zP) x) (-ev (L.getD (i + 1) zP) x))
theorem exN_Q : ∀ {n : Nat} {a b : Po} {t : List Po}, exN n a b = some t → sz b < n → Cpo a b → evk (Qn (a :: t))
  | 0, _, _, _, _, h, _ => absurd h (Nat.not_lt_zero _)
  | n + 1, a, b, t, h, hn, hc => by
    rw [exN] at h
    by_cases e : sz b = 0
    · rw [if_pos e] at h
      cases h
      obtain ⟨q, A, B, hq, hA, hB, e2⟩ := hc
      refine (evk_same (isP_ev a) hA hq (fun x => ?_)).mono (fun x y hz => ⟨hz, fun i h1 h2 => ?_⟩)
      · rw [e2 x, ev_z e x]
        grind
      · have h2 : i + 1 < 1 := h2
        omega
    · rw [if_neg e] at h
      cases hr : rem a b with
      | none => rw [hr] at h; cases h
      | some r =>
        rw [hr] at h
        dsimp only at h
        cases ht : exN n b (ng r) with
        | none => rw [ht] at h; cases h
        | some u =>
          rw [ht] at h
          cases h
          have hs := rem_sz hr (by omega)
          obtain ⟨hc2, c, d, T, h1, h2, hT, e3⟩ := Cpo_step hc hr (by omega)
          have ih := exN_Q ht (by rw [sz_ng]; omega) hc2
          refine (ih.and (evk_mid (isP_ev a) (isP_ev b) (isP_ev (ng r)) hT h1 h2 e3 hc2)).mono (fun x y hz => ?_)
          obtain ⟨⟨q1, q2⟩, q3⟩ := hz
          refine ⟨?_, fun i i1 i2 => ?_⟩
          · exact q1
          · have i2 : i + 1 < u.length + 1 + 1 := i2
            obtain ⟨k, rfl⟩ : ∃ k, i = k + 1 := ⟨i - 1, by omega⟩
            cases k with
            | zero =>
              have hu : u.getD 0 zP = ng r := exN_hd ht (by omega)
              have e4 : (a :: b :: u).getD (0 + 1 + 1) zP = ng r := hu
              rw [e4]
              exact q3
            | succ k => exact q2 (k + 1) (by omega) (by show k + 1 + 1 < u.length + 1; omega)
/-- what the first two have in common -/
theorem exN_E : ∀ {n : Nat} {a b : Po} {t : List Po}, exN n a b = some t → sz b < n → 0 < sz a → ∃ h, 0 < sz h ∧ Dd h a ∧ Dd h b ∧ Bz h a b
  | 0, _, _, _, _, h, _ => absurd h (Nat.not_lt_zero _)
  | n + 1, a, b, t, h, hn, ha => by
    rw [exN] at h
    by_cases e : sz b = 0
    · exact ⟨a, ha, Dd.rf, Dd.zr e, 1, by decide, _, _, isP_c 1, isP_c 0, fun x => by rw [Rat.intCast_zero]; grind⟩
    · rw [if_neg e] at h
      cases hr : rem a b with
      | none => rw [hr] at h; cases h
      | some r1 =>
        rw [hr] at h
        dsimp only at h
        cases ht : exN n b (ng r1) with
        | none => rw [ht] at h; cases h
        | some u =>
          have hs := rem_sz hr (by omega)
          obtain ⟨g, g0, k1, k2, k3⟩ := exN_E ht (by rw [sz_ng]; omega) (by omega)
          obtain ⟨c1, hc1, T1, hT1, e1⟩ := k1
          obtain ⟨c2, hc2, T2, hT2, e2⟩ := k2.as As_ng
          obtain ⟨c3, hc3, A, B, hA, hB, e3⟩ := k3.as As.rf As.rf As_ng
          obtain ⟨c, d, hc, hd, T, hT, e4⟩ := rem_R hr (by omega)
          refine ⟨g, g0, ⟨c * c1 * c2, Int.mul_ne_zero (Int.mul_ne_zero (by omega) hc1) hc2, _, isP_add (isP_sm c2 (isP_mul hT hT1)) (isP_sm (d * c1) hT2), fun x => ?_⟩, ⟨c1, hc1, T1, hT1, e1⟩, d * c3, Int.mul_ne_zero (by omega) hc3, _, _, isP_sm c hB, isP_sub (isP_sm d hA) (isP_mul hT hB), fun x => ?_⟩
          · have f1 := e1 x
            have f2 := e2 x
            have f4 := e4 x
            rw [Rat.intCast_mul, Rat.intCast_mul, Rat.intCast_mul]
            grind
          · have f3 := e3 x
            have f4 := e4 x
            rw [Rat.intCast_mul]
            grind
/-! free of repeated roots -/
theorem isD_c (c : Int) : isD (fun _ => (c : Rat)) (fun _ => 0) := ⟨fun _ => c, 1, fun x => by
  rw [evN_S]
  show (c : Rat) = 0 + (c : Rat) * x ^ 0
  rw [Rat.pow_zero]
  grind, fun x => by
  rw [dN_S]
  show (0 : Rat) = 0 + (c : Rat) * (((0 : Nat) : Rat) * x ^ (0 - 1))
  rw [show ((0 : Nat) : Rat) = 0 from rfl]
  grind⟩
theorem h_pw (h : Po) : ∀ k : Nat, ∃ D, isD (fun x => ev h x ^ k) D ∧ isP D ∧ ∀ x, ev h x * D x = (k : Rat) * (ev (der h) x * ev h x ^ k)
  | 0 => by
    obtain ⟨f, t, h1, h2⟩ := isD_c 1
    refine ⟨fun _ => 0, ⟨f, t, fun x => ?_, h2⟩, by simpa using isP_c 0, fun x => ?_⟩
    · rw [← h1 x]
      show ev h x ^ 0 = ((1 : Int) : Rat)
      rw [Rat.pow_zero]
      rfl
    · rw [show ((0 : Nat) : Rat) = 0 from rfl]
      grind
  | k + 1 => by
    obtain ⟨D, hD, hP, e⟩ := h_pw h k
    obtain ⟨f, t, h1, h2⟩ := isD_mul hD (isD_ev h)
    refine ⟨fun x => D x * ev h x + ev h x ^ k * ev (der h) x, ⟨f, t, fun x => ?_, h2⟩, isP_add (isP_mul hP (isP_ev h)) (isP_mul hD.p (isP_ev (der h))), fun x => ?_⟩
    · rw [← h1 x]
      show ev h x ^ (k + 1) = ev h x ^ k * ev h x
      rw [Rat.pow_succ]
    · have e1 := e x
      rw [rq_add, show ((1 : Nat) : Rat) = 1 from rfl, Rat.pow_succ]
      dsimp only
      generalize D x = d at *
      generalize ev h x ^ k = H at *
      have s1 : ev h x * (d * ev h x + H * ev (der h) x) = (ev h x * d) * ev h x + ev h x * H * ev (der h) x := by grind
      rw [s1, e1]
      grind
theorem hasD_pw {h : Po} (h0 : 0 < sz h) : ∀ k : Nat, hasD (fun x => ev h x ^ k) (k * (sz h - 1))
  | 0 => ⟨fun _ => 1, by show (1 : Int) ≠ 0; decide, fun x => by
    rw [Nat.zero_mul, evN_S]
    show ev h x ^ 0 = 0 + ((1 : Int) : Rat) * x ^ 0
    rw [Rat.pow_zero, Rat.pow_zero, Rat.intCast_one]
    grind⟩
  | k + 1 => by
    obtain ⟨f, f0, hf⟩ := hasD_mul (hasD_pw h0 k) (hasD_ev h0)
    rw [Nat.add_mul, Nat.one_mul]
    exact ⟨f, f0, fun x => by
      rw [← hf x]
      show ev h x ^ (k + 1) = ev h x ^ k * ev h x
      rw [Rat.pow_succ]⟩
theorem As_der {a b : Po} (h : As a b) : As (der a) (der b) := by
  obtain ⟨u, v, hu, hv, e⟩ := h
  refine ⟨u, v, hu, hv, ?_⟩
  have h1 := isD_sm u (isD_ev a)
  have h2 : isD (fun x => (u : Rat) * ev a x) (fun x => (v : Rat) * ev (der b) x) := by
    obtain ⟨f, t, e1, e2⟩ := isD_sm v (isD_ev b)
    exact ⟨f, t, fun x => (e x).trans (e1 x), e2⟩
  exact isD_uq h1 h2
theorem sq_free {P q g h : Po} (hPq : ∀ x, ev P x = ev q x * ev g x) (hB : Bz g P (der P)) (h1 : Dd h q) (h2 : Dd h (der q)) (hg0 : 0 < sz g) (hh : 0 < sz h) : sz h = 1 := by
  by_cases hs : sz h = 1
  · exact hs
  · exfalso
    have h9 := sz_le g
    obtain ⟨a, ha, V, hV, eV⟩ := h1
    obtain ⟨b, hb, W, hW, eW⟩ := h2
    obtain ⟨cg, hcg, A, B, hA, hB, eB⟩ := hB
    have hder : ∀ x, ev (der P) x = ev (der q) x * ev g x + ev q x * ev (der g) x := by
      have d1 : isD (ev P) (fun x => ev (der q) x * ev g x + ev q x * ev (der g) x) := by
        obtain ⟨f, t, e1, e2⟩ := isD_mul (isD_ev q) (isD_ev g)
        exact ⟨f, t, fun x => (hPq x).trans (e1 x), e2⟩
      exact isD_uq (isD_ev P) d1
    obtain ⟨V', hV', pV'⟩ := isD_P hV
    -- a q' = V' h + V h'
    have eq' : ∀ x, (a : Rat) * ev (der q) x = V' x * ev h x + V x * ev (der h) x := by
      have d1 : isD (fun x => (a : Rat) * ev q x) (fun x => V' x * ev h x + V x * ev (der h) x) := by
        obtain ⟨f, t, e1, e2⟩ := isD_mul hV' (isD_ev h)
        exact ⟨f, t, fun x => (eV x).trans (e1 x), e2⟩
      exact isD_uq (isD_sm a (isD_ev q)) d1
    have pw : ∀ k : Nat, ∃ c : Int, c ≠ 0 ∧ ∃ U, isP U ∧ ∀ x, (c : Rat) * ev g x = U x * ev h x ^ k := by
      intro k
      induction k with
      | zero => exact ⟨1, by decide, _, isP_ev g, fun x => by rw [Rat.pow_zero, Rat.intCast_one]; grind⟩
      | succ k ih =>
        obtain ⟨c, hc, U, hU, eU⟩ := ih
        obtain ⟨D, hD, pD, eD⟩ := h_pw h k
        obtain ⟨U', hU', pU'⟩ := isD_P hU
        have eg' : ∀ x, (c : Rat) * ev (der g) x = U' x * ev h x ^ k + U x * D x := by
          have d1 : isD (fun x => (c : Rat) * ev g x) (fun x => U' x * ev h x ^ k + U x * D x) := by
            obtain ⟨f, t, e1, e2⟩ := isD_mul hU' hD
            exact ⟨f, t, fun x => (eU x).trans (e1 x), e2⟩
          exact isD_uq (isD_sm c (isD_ev g)) d1
        have hk : ∃ kz : Int, (kz : Rat) = (k : Rat) := ⟨(k : Int), Rat.intCast_natCast k⟩
        obtain ⟨kz, hkz⟩ := hk
        refine ⟨a * b * c * cg, Int.mul_ne_zero (Int.mul_ne_zero (Int.mul_ne_zero ha hb) hc) hcg, _, isP_add (isP_mul (isP_sm b hA) (isP_mul hV hU)) (isP_mul hB (isP_add (isP_sm a (isP_mul hW hU)) (isP_add (isP_sm b (isP_mul hV pU')) (isP_sm kz (isP_mul hU (isP_sub (isP_sm a hW) (isP_sm b pV'))))))), fun x => ?_⟩
        have f1 := eU x
        have f2 := eV x
        have f3 := eW x
        have f4 := eB x
        have f5 := eD x
        have f6 := eg' x
        have f7 := eq' x
        have f8 := hPq x
        have f9 := hder x
        simp only [Rat.intCast_mul, Rat.pow_succ]
        rw [hkz]
        rw [f8, f9] at f4
        generalize ev (der q) x = q' at *
        generalize ev (der g) x = g' at *
        generalize ev (der h) x = h' at *
        generalize ev h x ^ k = H at *
        generalize ev q x = Q at *
        generalize ev g x = G at *
        generalize ev h x = y at *
        generalize D x = d at *
        generalize U' x = u' at *
        generalize U x = u at *
        generalize V' x = v' at *
        generalize V x = v at *
        generalize W x = w at *
        generalize A x = α at *
        generalize B x = β at *
        generalize (a : Rat) = a at *
        generalize (b : Rat) = b at *
        generalize (c : Rat) = c at *
        generalize (cg : Rat) = cg at *
        generalize (k : Rat) = kk at *
        -- b v h' = (a w - b v') y
        have t1 : b * (v * h') = (a * w - b * v') * y := by
          have : v * h' = a * q' - v' * y := by grind
          rw [this]
          have : b * (a * q' - v' * y) = a * (b * q') - b * v' * y := by grind
          rw [this, f3]
          grind
        -- a b c (q' G)
        have t2 : a * b * c * (q' * G) = a * (w * u) * (H * y) := by
          have : a * b * c * (q' * G) = a * (b * q') * (c * G) := by grind
          rw [this, f3, f1]
          grind
        -- a b c (Q g')
        have t3 : a * b * c * (Q * g') = (b * (v * u') + kk * (u * (a * w - b * v'))) * (H * y) := by
          have s1 : a * b * c * (Q * g') = b * (a * Q) * (c * g') := by grind
          rw [s1, f2, f6]
          have s2 : b * (v * y) * (u' * H + u * d) = b * (v * u') * (H * y) + b * (v * u) * (y * d) := by grind
          rw [s2, f5]
          have s3 : b * (v * u) * (kk * (h' * H)) = kk * u * H * (b * (v * h')) := by grind
          rw [s3, t1]
          grind
        have t4 : a * b * c * (Q * G) = b * (v * u) * (H * y) := by
          have : a * b * c * (Q * G) = b * (a * Q) * (c * G) := by grind
          rw [this, f2, f1]
          grind
        have s4 : a * b * c * cg * G = a * b * c * (cg * G) := by grind
        have s5 : a * b * c * (α * (Q * G) + β * (q' * G + Q * g')) = α * (a * b * c * (Q * G)) + β * (a * b * c * (q' * G) + a * b * c * (Q * g')) := by grind
        rw [s4, f4, s5, t2, t3, t4]
        grind
    obtain ⟨c, hc, U, hU, eU⟩ := pw 9
    have hcg' : hasD (fun x => (c : Rat) * ev g x) (sz g - 1) := by
      obtain ⟨f, f0, hf⟩ := hasD_ev hg0
      exact ⟨fun k => c * f k, Int.mul_ne_zero hc f0, fun x => by rw [evN_sm, ← hf]⟩
    rcases isP_deg hU with z | ⟨n, hn⟩
    · exact absurd (fun x => (eU x).trans (by rw [z x]; grind)) (hasD_ne hcg')
    · have hm : hasD (fun x => (c : Rat) * ev g x) (n + 9 * (sz h - 1)) := by
        obtain ⟨f, f0, hf⟩ := hasD_mul hn (hasD_pw hh 9)
        exact ⟨f, f0, fun x => (eU x).trans (hf x)⟩
      have := hasD_uniq hm hcg'
      omega
theorem fre_sq {p f h : Po} (hf : fre p = some f) (h0 : 0 < sz p) (h5 : sz p ≤ 5) (h1 : Dd h f) (h2 : Dd h (der f)) (hh : 0 < sz h) : sz h = 1 := by
  have hfs := fre_szP (fr_okP h5) hf h0 h5
  unfold fre at hf
  by_cases hfit : fit p = true
  · rw [if_pos hfit] at hf
    have c0 : 0 < sz (cln p) := by rw [cln_szz]; exact h0
    have hd := der_szz c0
    by_cases hz : sz (der (cln p)) = 0
    · rw [if_pos hz] at hf
      have e := cu_szz hf
      have := Dd_sz h1 hfs.1 hh
      omega
    · rw [if_neg hz] at hf
      cases hc : com (cln p) (der (cln p)) with
      | none => rw [hc] at hf; cases hf
      | some g =>
        rw [hc] at hf
        dsimp only at hf
        have c5 : sz (cln p) ≤ 5 := by rw [cln_szz]; exact h5
        obtain ⟨-, -, -, hB⟩ := com_all hc c0 c5 (by omega)
        have hg := com_szP hc c0 c5 (by omega)
        have hq := quo_dv (fr_okP h5 g hfit hz hc).2
        have hA : As (quo (cln p) g) f := by
          unfold cu at hf
          split at hf
          · cases hf
            exact As_up.tr As_cln
          · cases hf
        exact sq_free (Dv_ev hq hg.1) hB (h1.as hA.sy) (h2.as (As_der hA).sy) hg.1 hh
  · rw [if_neg hfit] at hf
    cases hf
theorem exN_PBs : ∀ {n : Nat} {a b : Po} {t : List Po}, exN n a b = some t → PB 1000000 b → ∀ k, k < t.length → PB 1000000 (t.getD k zP)
  | 0, _, _, _, h, _, k, hk => by cases h; exact absurd hk (Nat.not_lt_zero k)
  | n + 1, a, b, t, h, hb, k, hk => by
    rw [exN] at h
    split at h
    · cases h; exact absurd hk (Nat.not_lt_zero k)
    · split at h
      · cases h
      · rename_i r hr
        split at h
        · cases h
        · rename_i u hu
          cases h
          have hb2 : PB 1000000 (ng r) := fun i hi => by
            have := rem_PB hr i hi
            unfold ng
            omega
          cases k with
          | zero => exact hb
          | succ k =>
            have hk : k + 1 < u.length + 1 := hk
            exact exN_PBs hu hb2 k (by omega)
/-- changes at a fraction -/
def vR (L : List Po) (x : Rat) : Nat := (chN (fun i => sgR (ev (L.getD i zP) x)) L.length).1
theorem vR_step {L : List Po} {x y : Rat} (hQ : Qn L x y) (hF : 2 ≤ L.length → SMe (ev (L.getD 0 zP) x) (ev (L.getD 0 zP) y) ∨ (SMe (ev (L.getD 1 zP) x) (ev (L.getD 1 zP) y) ∧ ((0 < ev (L.getD 1 zP) x ∧ ev (L.getD 0 zP) x ≤ ev (L.getD 0 zP) y) ∨ (ev (L.getD 1 zP) x < 0 ∧ ev (L.getD 0 zP) y ≤ ev (L.getD 0 zP) x)))) : vR L y ≤ vR L x := by
  refine ch_le (s := fun i => sgR (ev (L.getD i zP) x)) (t := fun i => sgR (ev (L.getD i zP) y)) (fun i => sg_tri _) (fun i => sg_tri _) (fun i h1 h2 => ?_) hQ.1.sg (fun h2 => ?_)
  · rcases hQ.2 i h1 h2 with z | ⟨z1, z2, z3⟩
    · exact Or.inl z.sg
    · exact Or.inr ⟨z1.sg.1, z2.sg, z3.op⟩
  · rcases hF h2 with z | ⟨z, w⟩
    · exact Or.inl z.sg
    · refine Or.inr ⟨z.sg, fun g => ?_⟩
      rcases w with ⟨w1, w2⟩ | ⟨w1, w2⟩
      · have y1 : 0 < ev (L.getD 1 zP) y := by
          rcases z with z | z
          · exact z.2
          · grind
        rw [sg_p y1, Int32.one_mul] at g
        rw [sg_p w1, Int32.one_mul]
        have y0 : ev (L.getD 0 zP) y < 0 := by
          unfold sgR at g
          split at g
          · assumption
          · split at g
            · exact absurd g (by decide)
            · exact absurd g (by decide)
        rw [sg_n (show ev (L.getD 0 zP) x < 0 by grind)]
        decide
      · have y1 : ev (L.getD 1 zP) y < 0 := by
          rcases z with z | z
          · grind
          · exact z.2
        rw [sg_n y1] at g
        rw [sg_n w1]
        have y0 : 0 < ev (L.getD 0 zP) y := by
          unfold sgR at g
          split at g
          · exact absurd g (by decide)
          · split at g
            · assumption
            · exact absurd g (by decide)
        rw [sg_p (show 0 < ev (L.getD 0 zP) x by grind)]
        decide
theorem vR_all {L : List Po} {K : Nat} (k0 : 0 < K) (h : ∀ x y, inR x → inR y → x ≤ y → (y - x) * (K : Rat) ≤ 1 → vR L y ≤ vR L x) : ∀ (N : Nat) (x y : Rat), inR x → inR y → x ≤ y → (y - x) * (K : Rat) ≤ (N : Rat) → vR L y ≤ vR L x
  | 0, x, y, hx, hy, hxy, hk => h x y hx hy hxy (by rw [show ((0 : Nat) : Rat) = 0 from rfl] at hk; grind)
  | N + 1, x, y, hx, hy, hxy, hk => by
    by_cases g : (y - x) * (K : Rat) ≤ 1
    · exact h x y hx hy hxy g
    · have hK1 := rq_one k0
      have hne : (K : Rat) ≠ 0 := by grind
      have hi : (K : Rat)⁻¹ * (K : Rat) = 1 := Rat.inv_mul_cancel _ hne
      have hi0 : 0 < (K : Rat)⁻¹ := pos_of (E := (K : Rat)) (by grind) (by grind)
      generalize (K : Rat)⁻¹ = d at *
      have hxz : x ≤ y - d := by
        by_cases z : x ≤ y - d
        · exact z
        · have := Rat.mul_nonneg (show 0 ≤ d - (y - x) by grind) (show 0 ≤ (K : Rat) by grind)
          grind
      obtain ⟨x1, x2⟩ := hx
      obtain ⟨y1, y2⟩ := hy
      have hz : inR (y - d) := ⟨by grind, by grind⟩
      have a1 := h (y - d) y hz ⟨y1, y2⟩ (by grind) (by grind)
      have a2 := vR_all k0 h N x (y - d) ⟨x1, x2⟩ hz hxz (by
        rw [rq_add, show ((1 : Nat) : Rat) = 1 from rfl] at hk
        grind)
      omega
theorem tA_monoP {p : Po} {l : List Po} {u v t s : Int} (h : chn p = some l) (h0 : 0 < sz p) (h5 : sz p ≤ 5) (hu : -1000 ≤ u ∧ u ≤ 1000) (hv1 : 1 ≤ v ∧ v ≤ 1000) (ht : -1000 ≤ t ∧ t ≤ 1000) (hs : 1 ≤ s ∧ s ≤ 1000) (hlt : u * s < t * v) : tA l t s ≤ tA l u v := by
  have hLZ := chn_LZP (fr_okP h5) h h0 h5
  unfold chn at h
  cases hf : fre p with
  | none => rw [hf] at h; cases h
  | some f =>
    rw [hf] at h
    dsimp only at h
    have hfs := fre_szP (fr_okP h5) hf h0 h5
    split at h
    · rename_i hfit
      cases he : exN 10 f (cln (der f)) with
      | none => rw [he] at h; cases h
      | some r =>
        rw [he] at h
        have el : l = f :: r := by
          cases h
          rfl
        subst el
        have hsd : sz (cln (der f)) < 10 := by
          have := sz_le (cln (der f))
          omega
        obtain ⟨g, g0, k1, k2, c, hc, A, B, hA, hB, eB⟩ := exN_E he hsd hfs.1
        have g1 := fre_sq hf h0 h5 k1 (k2.as As_cln.sy) g0
        have gn : g 0 ≠ 0 := by
          have := sz_head g0
          rw [g1] at this
          exact this
        have hcp : Cpo f (cln (der f)) := ⟨c * g 0, A, B, Int.mul_ne_zero hc gn, hA, hB, fun x => by
          rw [← eB x, ev_c (by omega), Rat.intCast_mul]⟩
        obtain ⟨G, hG, hGe⟩ := ev_cln (p := der f)
        have hQ := (exN_Q he hsd hcp).and (evk_first (isP_ev f) (isP_ev (cln (der f))) (isD_ev f).tay hG hGe hcp)
        obtain ⟨K, k0, hK⟩ := hQ
        have hloc : ∀ x y, inR x → inR y → x ≤ y → (y - x) * (K : Rat) ≤ 1 → vR (f :: r) y ≤ vR (f :: r) x := fun x y hx hy hxy hk => by
          obtain ⟨q1, q2⟩ := hK x y hx hy hxy hk
          refine vR_step q1 (fun h2 => ?_)
          have h2 : 2 ≤ r.length + 1 := h2
          have e1 : (f :: r).getD 1 zP = cln (der f) := exN_hd he (by omega)
          rw [e1]
          exact q2
        have hPB : ∀ k, k < (f :: r).length → PB 1000000 ((f :: r).getD k zP) := fun k hk => by
          cases k with
          | zero => exact fre_PB hf
          | succ k => exact exN_PBs he (fit_PB hfit) k (by have hk : k + 1 < r.length + 1 := hk; omega)
        have htA : ∀ (a b : Int) (x : Rat), (-1000 ≤ a ∧ a ≤ 1000) → (1 ≤ b ∧ b ≤ 1000) → x * (b : Rat) = (a : Rat) → tA (f :: r) a b = vR (f :: r) x := fun a b x ha hb hx => by
          unfold tA vR
          rw [show chN (sAt (f :: r) a b) (f :: r).length = chN (fun i => sgR (ev ((f :: r).getD i zP) x)) (f :: r).length from chN_cg (fun k hk => sg_hv (hPB k hk) (hLZ k hk) ha hb hx)]
        have hmk : ∀ (a b : Int), (-1000 ≤ a ∧ a ≤ 1000) → (1 ≤ b ∧ b ≤ 1000) → ∃ x : Rat, x * (b : Rat) = (a : Rat) ∧ inR x := fun a b ha hb => by
          have b1 := rq_int1 (c := b) (by omega)
          have hne : (b : Rat) ≠ 0 := by grind
          have e1 : (a : Rat) / (b : Rat) * (b : Rat) = (a : Rat) := Rat.div_mul_cancel hne
          generalize (a : Rat) / (b : Rat) = x at *
          have a1 : ((-1000 : Int) : Rat) ≤ (a : Rat) := Rat.intCast_le_intCast.mpr ha.1
          have a2 : (a : Rat) ≤ ((1000 : Int) : Rat) := Rat.intCast_le_intCast.mpr ha.2
          have a1 : (-1000 : Rat) ≤ (a : Rat) := a1
          have a2 : (a : Rat) ≤ (1000 : Rat) := a2
          refine ⟨x, e1, ?_, ?_⟩
          · by_cases z : -1000 ≤ x
            · exact z
            · have := Rat.mul_nonneg (show 0 ≤ -1000 - x by grind) (show 0 ≤ (b : Rat) by grind)
              have := Rat.mul_nonneg (show (0 : Rat) ≤ 1000 by grind) (show 0 ≤ (b : Rat) - 1 by grind)
              by_cases z2 : x * (b : Rat) < -1000
              · grind
              · exfalso
                have z3 := Rat.mul_nonneg (show 0 ≤ -x by grind) (show 0 ≤ (b : Rat) - 1 by grind)
                grind
          · by_cases z : x ≤ 1000
            · exact z
            · have z3 := Rat.mul_nonneg (show 0 ≤ x by grind) (show 0 ≤ (b : Rat) - 1 by grind)
              grind
        obtain ⟨x, ex, hx⟩ := hmk u v hu hv1
        obtain ⟨y, ey, hy⟩ := hmk t s ht hs
        rw [htA u v x hu hv1 ex, htA t s y ht hs ey]
        have v1 := rq_int1 (c := v) (by omega)
        have s1 := rq_int1 (c := s) (by omega)
        have hlt2 : ((u * s : Int) : Rat) < ((t * v : Int) : Rat) := Rat.intCast_lt_intCast.mpr hlt
        rw [Rat.intCast_mul, Rat.intCast_mul, ← ex, ← ey] at hlt2
        have hxy : x ≤ y := by
          have hE : 0 ≤ (v : Rat) * (s : Rat) := Rat.mul_nonneg (by grind) (by grind)
          have := pos_of (E := (v : Rat) * (s : Rat)) (z := y - x) hE (by grind)
          grind
        obtain ⟨x1, x2⟩ := hx
        obtain ⟨y1, y2⟩ := hy
        have := Rat.mul_nonneg (show 0 ≤ 2000 - (y - x) by grind) (rq_nat K)
        exact vR_all k0 hloc (2000 * K) x y ⟨x1, x2⟩ ⟨y1, y2⟩ hxy (by
          rw [rq_mulc, show ((2000 : Nat) : Rat) = 2000 from rfl]
          grind)
    · cases h
