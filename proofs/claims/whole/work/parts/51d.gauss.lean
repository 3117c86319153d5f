/-! Gauss: what divides over the fractions divides -/
theorem natP (n : Nat) : 2 ≤ n → ∃ m : Nat, 2 ≤ m ∧ m ∣ n ∧ ∀ x y : Int, (m : Int) ∣ x * y → (m : Int) ∣ x ∨ (m : Int) ∣ y := by
  induction n using Nat.strongRecOn with
  | ind n ih =>
    intro h
    by_cases hd : ∃ d, 1 < d ∧ d < n ∧ d ∣ n
    · obtain ⟨d, h1, h2, h3⟩ := hd
      obtain ⟨m, a, b, c⟩ := ih d h2 h1
      exact ⟨m, a, Nat.dvd_trans b h3, c⟩
    · refine ⟨n, h, Nat.dvd_refl n, fun x y hxy => ?_⟩
      have g1 : Nat.gcd n x.natAbs ∣ n := Nat.gcd_dvd_left _ _
      have g2 : Nat.gcd n x.natAbs ∣ x.natAbs := Nat.gcd_dvd_right _ _
      have g0 : 0 < Nat.gcd n x.natAbs := Nat.gcd_pos_of_pos_left _ (by omega)
      have gl := Nat.le_of_dvd (by omega) g1
      by_cases e : Nat.gcd n x.natAbs = n
      · rw [e] at g2
        exact Or.inl (Int.ofNat_dvd_left.mpr g2)
      · have e1 : Nat.gcd n x.natAbs = 1 := by
          by_cases z : Nat.gcd n x.natAbs = 1
          · exact z
          · exact absurd ⟨Nat.gcd n x.natAbs, by omega, by omega, g1⟩ hd
        have hc : Nat.Coprime n x.natAbs := e1
        have h2 : n ∣ x.natAbs * y.natAbs := by
          rw [← Int.natAbs_mul]
          exact Int.ofNat_dvd_left.mp hxy
        exact Or.inr (Int.ofNat_dvd_left.mpr (hc.dvd_of_dvd_mul_left h2))
theorem cvN_dv {m : Int} {f q : Nat → Int} {k : Nat} : ∀ t, (∀ i, i < t → i ≤ k → m ∣ q (k - i)) → m ∣ cvN f q k t
  | 0, _ => Int.dvd_zero m
  | t + 1, h => by
    rw [cvN]
    refine Int.dvd_add (cvN_dv t (fun i a b => h i (by omega) b)) ?_
    split
    · exact Int.dvd_mul_of_dvd_right (h t (by omega) (by omega))
    · exact Int.dvd_zero m
theorem cvN_zz {f q : Nat → Int} {k : Nat} : ∀ t, (∀ i, i < t → i ≤ k → f i * q (k - i) = 0) → cvN f q k t = 0
  | 0, _ => rfl
  | t + 1, h => by
    rw [cvN, cvN_zz t (fun i a b => h i (by omega) b)]
    split
    · rw [h t (by omega) (by omega)]
      rfl
    · rfl
theorem cvN_one {f q : Nat → Int} {k j : Nat} (hj : j ≤ k) : ∀ t, j < t → (∀ i, i < t → i ≤ k → i ≠ j → f i * q (k - i) = 0) → cvN f q k t = f j * q (k - j)
  | 0, h, _ => absurd h (Nat.not_lt_zero j)
  | t + 1, h, hz => by
    rw [cvN]
    by_cases e : j = t
    · subst e
      rw [cvN_zz j (fun i a b => hz i (by omega) b (by omega)), if_pos hj, Int.zero_add]
    · rw [cvN_one hj t (by omega) (fun i a b => hz i (by omega) b)]
      split
      · rw [hz t (by omega) (by omega) (by omega), Int.add_zero]
      · rw [Int.add_zero]
theorem cvN_up {f q : Nat → Int} {k a : Nat} : ∀ m, (∀ i, a ≤ i → f i = 0) → cvN f q k (a + m) = cvN f q k a
  | 0, _ => rfl
  | m + 1, h => by
    rw [← Nat.add_assoc, cvN, cvN_up m h, h (a + m) (by omega), Int.zero_mul]
    split <;> exact Int.add_zero _
theorem cvN_sm {f g q : Nat → Int} {m : Int} {k : Nat} : ∀ t, (∀ i, i < t → f i = m * g i) → cvN f q k t = m * cvN g q k t
  | 0, _ => (Int.mul_zero m).symm
  | t + 1, h => by
    rw [cvN, cvN, cvN_sm t (fun i hi => h i (by omega)), h t (by omega)]
    split
    · grind
    · grind
theorem gaP {m : Int} (hm : ∀ x y : Int, m ∣ x * y → m ∣ x ∨ m ∣ y) {f q : Nat → Int} {n : Nat} (hq : ∀ k, n ≤ k → q k = 0) : ∀ t, (∀ k, m ∣ cvN f q k t) → (∀ i, i < t → m ∣ f i) ∨ ∀ k, m ∣ q k
  | 0, _ => Or.inl (fun i hi => absurd hi (Nat.not_lt_zero i))
  | t + 1, h => by
    by_cases e : m ∣ f t
    · have h2 : ∀ k, m ∣ cvN f q k t := fun k => by
        have hk := h k
        rw [cvN] at hk
        have hb : m ∣ (if t ≤ k then f t * q (k - t) else 0) := by
          split
          · exact Int.dvd_mul_of_dvd_left e
          · exact Int.dvd_zero m
        have := Int.dvd_sub hk hb
        rw [Int.add_sub_cancel] at this
        exact this
      rcases gaP hm hq t h2 with g | g
      · refine Or.inl (fun i hi => ?_)
        by_cases ei : i = t
        · rw [ei]
          exact e
        · exact g i (by omega)
      · exact Or.inr g
    · have key : ∀ d k, n ≤ k + d → m ∣ q k := by
        intro d
        induction d with
        | zero =>
          intro k hk
          rw [hq k (by omega)]
          exact Int.dvd_zero m
        | succ d ih =>
          intro k hk
          have h1 := h (k + t)
          rw [cvN, if_pos (by omega), Nat.add_sub_cancel] at h1
          have h2 : m ∣ cvN f q (k + t) t := cvN_dv t (fun i a b => ih (k + t - i) (by omega))
          have h3 := Int.dvd_sub h1 h2
          rw [Int.add_comm, Int.add_sub_cancel] at h3
          rcases hm _ _ h3 with g | g
          · exact absurd g e
          · exact g
      exact Or.inr (fun k => key n k (by omega))
theorem gau {q : Nat → Int} {n : Nat} (hq : ∀ k, n ≤ k → q k = 0) (hc : ∀ m : Nat, 2 ≤ m → ¬ ∀ k, (m : Int) ∣ q k) {p : Nat → Int} {t : Nat} (c : Nat) : ∀ f : Nat → Int, 0 < c → (∀ k, (c : Int) * p k = cvN f q k t) → ∃ s : Nat → Int, ∀ k, p k = cvN s q k t := by
  induction c using Nat.strongRecOn with
  | ind c ih =>
    intro f h0 h
    by_cases c1 : c = 1
    · subst c1
      exact ⟨f, fun k => by rw [← h k]; exact (Int.one_mul _).symm⟩
    · obtain ⟨m, m2, ⟨c', hc'⟩, hm⟩ := natP c (by omega)
      have hd : ∀ k, (m : Int) ∣ cvN f q k t := fun k => by
        rw [← h k, hc', Int.natCast_mul, Int.mul_assoc]
        exact Int.dvd_mul_right _ _
      rcases gaP hm hq t hd with g | g
      · have hm0 : (m : Int) ≠ 0 := by omega
        have hc0 : 0 < c' := by
          rcases Nat.eq_zero_or_pos c' with z | z
          · rw [z, Nat.mul_zero] at hc'
            omega
          · exact z
        have hlt : c' < c := by
          rw [hc']
          have := Nat.mul_le_mul_right c' m2
          omega
        refine ih c' hlt (fun i => f i / m) hc0 (fun k => ?_)
        have e := h k
        rw [cvN_sm (g := fun i => f i / m) (m := m) t (fun i hi => (Int.mul_ediv_cancel' (g i hi)).symm), hc', Int.natCast_mul, Int.mul_assoc] at e
        exact Int.eq_of_mul_eq_mul_left hm0 e
      · exact absurd g (hc m m2)
/-! divisors over the fractions -/
abbrev ev (p : Po) (x : Rat) : Rat := evN p 9 x
/-- r divides a over the fractions -/
def Dd (r a : Po) : Prop := ∃ c : Int, c ≠ 0 ∧ ∃ T : Rat → Rat, isP T ∧ ∀ x, (c : Rat) * ev a x = T x * ev r x
theorem Dd.rf {a : Po} : Dd a a := ⟨1, by decide, _, isP_c 1, fun _ => rfl⟩
theorem ev_z {p : Po} (h : sz p = 0) (x : Rat) : ev p x = 0 := evN_0 (fun k hk => sz_zero (by omega) hk)
theorem Dd.zr {a b : Po} (h : sz b = 0) : Dd a b := ⟨1, by decide, _, isP_c 0, fun x => by
  rw [ev_z h x, Rat.intCast_zero]
  grind⟩
/-- alike but for numbers -/
def As (a b : Po) : Prop := ∃ u v : Int, u ≠ 0 ∧ v ≠ 0 ∧ ∀ x, (u : Rat) * ev a x = (v : Rat) * ev b x
theorem As.sy {a b : Po} (h : As a b) : As b a := by
  obtain ⟨u, v, hu, hv, h⟩ := h
  exact ⟨v, u, hv, hu, fun x => (h x).symm⟩
theorem Dd.as {r a b : Po} (h : Dd r a) (hs : As a b) : Dd r b := by
  obtain ⟨c, hc, T, hT, h⟩ := h
  obtain ⟨u, v, hu, hv, hs⟩ := hs
  refine ⟨c * v, Int.mul_ne_zero hc hv, _, isP_sm u hT, fun x => ?_⟩
  have h1 := h x
  have h2 := hs x
  rw [Rat.intCast_mul]
  grind
theorem Dd.sa {r r' a : Po} (h : Dd r a) (hs : As r r') : Dd r' a := by
  obtain ⟨c, hc, T, hT, h⟩ := h
  obtain ⟨u, v, hu, hv, hs⟩ := hs
  refine ⟨c * u, Int.mul_ne_zero hc hu, _, isP_sm v hT, fun x => ?_⟩
  have h1 := h x
  have h2 := hs x
  rw [Rat.intCast_mul]
  grind
theorem rcn0 {c : Int} (h : c ≠ 0) : (c : Rat) ≠ 0 := fun z => h (Rat.intCast_inj.mp (z.trans Rat.intCast_zero.symm))
theorem cln_g {p : Po} : ∃ G : Int, 0 < G ∧ ∀ k, k < 9 → p k = G * cln p k := by
  rcases Nat.eq_zero_or_pos (gN p 9) with z | z
  · exact ⟨1, by decide, fun k hk => by rw [cln0 z k hk]; exact (Int.one_mul _).symm⟩
  · exact ⟨(gN p 9 : Nat), by omega, fun k hk => by rw [Int.mul_comm]; exact (cln_mul hk).symm⟩
theorem ev_cln {p : Po} : ∃ G : Int, 0 < G ∧ ∀ x, ev p x = (G : Rat) * ev (cln p) x := by
  obtain ⟨G, h0, h⟩ := cln_g (p := p)
  exact ⟨G, h0, fun x => by rw [← evN_sm]; exact evN_cg h⟩
theorem As_cln {p : Po} : As p (cln p) := by
  obtain ⟨G, h0, h⟩ := ev_cln (p := p)
  exact ⟨1, G, by decide, by omega, fun x => by rw [h x, Rat.intCast_one]; grind⟩
theorem ev_ng {p : Po} {x : Rat} : ev (ng p) x = -ev p x := by
  have : ev (ng p) x = evN (fun k => (-1) * p k) 9 x := evN_cg (fun k _ => by unfold ng; omega)
  rw [this, evN_sm, Rat.intCast_neg, Rat.intCast_one]
  grind
theorem As_up {p : Po} : As p (up p) := by
  rw [up_eq]
  split
  · exact ⟨1, -1, by decide, by decide, fun x => by rw [ev_ng, Rat.intCast_neg, Rat.intCast_one]; grind⟩
  · exact ⟨1, 1, by decide, by decide, fun _ => rfl⟩
theorem As.tr {a b c : Po} (h1 : As a b) (h2 : As b c) : As a c := by
  obtain ⟨u, v, hu, hv, h1⟩ := h1
  obtain ⟨w, z, hw, hz, h2⟩ := h2
  refine ⟨u * w, v * z, Int.mul_ne_zero hu hw, Int.mul_ne_zero hv hz, fun x => ?_⟩
  have e1 := h1 x
  have e2 := h2 x
  rw [Rat.intCast_mul, Rat.intCast_mul]
  grind
/-- one step of a remainder -/
theorem ev_stp {q p : Po} {l t : Nat} (hl : sz q = l + 1) (hlt : l + t < 9) (x : Rat) : ev (stp q l t p) x = (((q l).natAbs : Int) : Rat) * ev p x - ((if q l < 0 then -p (l + t) else p (l + t) : Int) : Rat) * x ^ t * ev q x := by
  generalize hh : (if q l < 0 then -p (l + t) else p (l + t) : Int) = w
  have e : ev (stp q l t p) x = evN (fun k => ((q l).natAbs : Int) * p k + (-1) * (if t ≤ k then w * trN q (l + 1) (k - t) else 0)) 9 x := evN_cg (fun k hk => by
    unfold stp
    rw [hh]
    by_cases g : t ≤ k ∧ k < t + (l + 1)
    · rw [if_pos g, if_pos g.1, trN_s (by omega)]
      grind
    · rw [if_neg g]
      by_cases g2 : t ≤ k
      · rw [if_pos g2, trN_z (by omega)]
        grind
      · rw [if_neg g2]
        grind)
  have e2 : ev q x = evN (trN q (l + 1)) (l + 1) x := by
    rw [evN_tr]
    exact evN_to (by omega) (fun k h1 h2 => sz_zero (by omega) h2)
  rw [e, evN_lin, evN_sh (n := l + 1) (N := 9) (by omega) (fun k h => trN_z h), e2, Rat.intCast_neg, Rat.intCast_one]
  grind
theorem rm_R {q : Po} {l : Nat} (hl : sz q = l + 1) : ∀ {t : Nat} {p r : Po}, rm q l t p = some r → l + t ≤ 9 → ∃ c d : Int, 0 < c ∧ 0 < d ∧ ∃ T, isP T ∧ ∀ x, (c : Rat) * ev p x = T x * ev q x + (d : Rat) * ev r x
  | 0, p, r, h, _ => by
    rw [rm] at h
    cases h
    exact ⟨1, 1, by decide, by decide, _, isP_c 0, fun x => by rw [Rat.intCast_zero]; grind⟩
  | t + 1, p, r, h, hlt => by
    rw [rm] at h
    split at h
    · exact rm_R hl h (by omega)
    · split at h
      · obtain ⟨c, d, hc, hd, T, hT, e⟩ := rm_R hl h (by omega)
        obtain ⟨G, g0, hG⟩ := ev_cln (p := stp q l t p)
        have hq0 : q l ≠ 0 := by
          have := sz_head (p := q) (by omega)
          rw [hl, Nat.add_sub_cancel] at this
          exact this
        refine ⟨c * ((q l).natAbs : Int), G * d, Int.mul_pos hc (by omega), Int.mul_pos g0 hd, _, isP_add (isP_sm G hT) (isP_sm c (isP_sm (if q l < 0 then -p (l + t) else p (l + t)) (isP_pw t))), fun x => ?_⟩
        have h1 := e x
        have h2 := hG x
        rw [ev_stp hl (by omega) x] at h2
        rw [Rat.intCast_mul, Rat.intCast_mul]
        grind
      · cases h
/-- a remainder: c a = T b + d r -/
theorem rem_R {a b r : Po} (h : rem a b = some r) (h0 : 0 < sz b) : ∃ c d : Int, 0 < c ∧ 0 < d ∧ ∃ T, isP T ∧ ∀ x, (c : Rat) * ev a x = T x * ev b x + (d : Rat) * ev r x := by
  unfold rem at h
  split at h
  · have h9 := sz_le b
    obtain ⟨c, d, hc, hd, T, hT, e⟩ := rm_R (l := sz b - 1) (by omega) h (by omega)
    obtain ⟨G, g0, hG⟩ := ev_cln (p := a)
    refine ⟨c, G * d, hc, Int.mul_pos g0 hd, _, isP_sm G hT, fun x => ?_⟩
    have h1 := e x
    have h2 := hG x
    rw [Rat.intCast_mul]
    grind
  · cases h
/-- c g = A a + B b -/
def Bz (g a b : Po) : Prop := ∃ c : Int, c ≠ 0 ∧ ∃ A B : Rat → Rat, isP A ∧ isP B ∧ ∀ x, (c : Rat) * ev g x = A x * ev a x + B x * ev b x
theorem cmN_E : ∀ {n : Nat} {a b r : Po}, cmN n a b = some r → sz b < n → Dd r a ∧ Dd r b ∧ Bz r a b
  | 0, _, _, _, _, h => absurd h (Nat.not_lt_zero _)
  | n + 1, a, b, r, h, hn => by
    rw [cmN] at h
    by_cases e : sz b = 0
    · rw [if_pos e] at h
      cases h
      exact ⟨Dd.rf, Dd.zr e, 1, by decide, _, _, isP_c 1, isP_c 0, fun x => by rw [Rat.intCast_zero]; grind⟩
    · rw [if_neg e] at h
      cases hr : rem a b with
      | none => rw [hr] at h; cases h
      | some r1 =>
        rw [hr] at h
        dsimp only at h
        have hs := rem_sz hr (by omega)
        obtain ⟨⟨c1, hc1, T1, hT1, e1⟩, ⟨c2, hc2, T2, hT2, e2⟩, c3, hc3, A, B, hA, hB, e3⟩ := cmN_E h (by omega)
        obtain ⟨c, d, hc, hd, T, hT, e4⟩ := rem_R hr (by omega)
        refine ⟨⟨c * c1 * c2, Int.mul_ne_zero (Int.mul_ne_zero (by omega) hc1) hc2, _, isP_add (isP_sm c2 (isP_mul hT hT1)) (isP_sm (d * c1) hT2), fun x => ?_⟩, ⟨c1, hc1, T1, hT1, e1⟩, d * c3, Int.mul_ne_zero (by omega) hc3, _, _, isP_sm c hB, isP_sub (isP_sm d hA) (isP_mul hT hB), fun x => ?_⟩
        · have f1 := e1 x
          have f2 := e2 x
          have f4 := e4 x
          rw [Rat.intCast_mul, Rat.intCast_mul, Rat.intCast_mul]
          grind
        · have f3 := e3 x
          have f4 := e4 x
          rw [Rat.intCast_mul]
          grind
/-- cleaned -/
def CL (p : Po) : Prop := ∀ k, k < 9 → cln p k = p k
theorem CL.g1 {p : Po} (h : CL p) (h0 : 0 < sz p) : gN p 9 = 1 := by
  have h9 := sz_le p
  have e := h (sz p - 1) (by omega)
  have e2 := cln_mul (p := p) (k := sz p - 1) (by omega)
  rw [e] at e2
  have hn := sz_head h0
  have : p (sz p - 1) * ((gN p 9 : Nat) : Int) = p (sz p - 1) * 1 := by rw [Int.mul_one]; exact e2
  have := Int.eq_of_mul_eq_mul_left hn this
  omega
theorem CL_cln {p : Po} : CL (cln p) := cln_cln
theorem rm_CL {q : Po} {l : Nat} : ∀ {t : Nat} {p r : Po}, rm q l t p = some r → CL p → CL r
  | 0, p, r, h, hp => by rw [rm] at h; cases h; exact hp
  | t + 1, p, r, h, hp => by
    rw [rm] at h
    split at h
    · exact rm_CL h hp
    · split at h
      · exact rm_CL h CL_cln
      · cases h
theorem rem_CL {a b r : Po} (h : rem a b = some r) : CL r := by
  unfold rem at h
  split at h
  · exact rm_CL h CL_cln
  · cases h
theorem cmN_CL : ∀ {n : Nat} {a b r : Po}, cmN n a b = some r → CL a → CL b → CL r
  | 0, a, b, r, h, ha, _ => by rw [cmN] at h; cases h; exact ha
  | n + 1, a, b, r, h, ha, hb => by
    rw [cmN] at h
    split at h
    · cases h; exact ha
    · cases hr : rem a b with
      | none => rw [hr] at h; cases h
      | some r1 =>
        rw [hr] at h
        exact cmN_CL h hb (rem_CL hr)
theorem gN_up {p : Po} {n : Nat} : gN (up p) n = gN p n := by
  rw [up_eq]
  split
  · exact ng_gN n
  · rfl
theorem Bz.as {g g' a a' b b' : Po} (h : Bz g a b) (h1 : As g g') (h2 : As a a') (h3 : As b b') : Bz g' a' b' := by
  obtain ⟨c, hc, A, B, hA, hB, e⟩ := h
  obtain ⟨u1, v1, hu1, hv1, e1⟩ := h1
  obtain ⟨u2, v2, hu2, hv2, e2⟩ := h2
  obtain ⟨u3, v3, hu3, hv3, e3⟩ := h3
  refine ⟨c * v1 * u2 * u3, Int.mul_ne_zero (Int.mul_ne_zero (Int.mul_ne_zero hc hv1) hu2) hu3, _, _, isP_sm (u1 * v2 * u3) hA, isP_sm (u1 * u2 * v3) hB, fun x => ?_⟩
  have f := e x
  have f1 := e1 x
  have f2 := e2 x
  have f3 := e3 x
  simp only [Rat.intCast_mul]
  generalize (c : Rat) = c at *
  generalize (u1 : Rat) = u1 at *
  generalize (v1 : Rat) = v1 at *
  generalize (u2 : Rat) = u2 at *
  generalize (v2 : Rat) = v2 at *
  generalize (u3 : Rat) = u3 at *
  generalize (v3 : Rat) = v3 at *
  generalize ev g x = X at *
  generalize ev g' x = X' at *
  generalize ev a x = Y at *
  generalize ev a' x = Y' at *
  generalize ev b x = Z at *
  generalize ev b' x = Z' at *
  generalize A x = A at *
  generalize B x = B at *
  have s1 : c * v1 * u2 * u3 * X' = u1 * u2 * u3 * (c * X) := by grind
  rw [s1, f]
  grind
/-- all that is to be known of what two have in common -/
theorem com_all {p q g : Po} (h : com p q = some g) (h0 : 0 < sz p) (h5 : sz p ≤ 5) (h5' : sz q ≤ 5) : gN g 9 = 1 ∧ Dd g p ∧ Dd g q ∧ Bz g p q := by
  have hz := com_szP h h0 h5 h5'
  unfold com at h
  split at h
  · cases hc : cmN 10 (cln p) (cln q) with
    | none => rw [hc] at h; cases h
    | some r =>
      rw [hc] at h
      cases h
      rw [up_szz] at hz
      obtain ⟨d1, d2, hb⟩ := cmN_E hc (by rw [cln_szz]; omega)
      refine ⟨?_, (d1.sa As_up).as As_cln.sy, (d2.sa As_up).as As_cln.sy, hb.as As_up As_cln.sy As_cln.sy⟩
      show gN (up r) 9 = 1
      rw [gN_up]
      exact (cmN_CL hc CL_cln CL_cln).g1 hz.1
  · cases h
