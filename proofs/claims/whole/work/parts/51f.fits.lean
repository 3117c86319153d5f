/-! the D's further on fit -/
theorem gN_abs {p q : Po} : ∀ n, (∀ k, k < n → (p k).natAbs = (q k).natAbs) → gN p n = gN q n
  | 0, _ => rfl
  | n + 1, h => by
    rw [gN, gN, gN_abs n (fun k hk => h k (by omega)), h n (by omega)]
theorem fit_as {p q : Po} {u v : Int} (hu : u ≠ 0) (h : ∀ k, k < 9 → u * p k = v * q k) (hq : PB 1000000 q) : fit p = true := by
  by_cases h0 : gN p 9 = 0
  · exact fit0 h0
  · have hk9 : ∀ i, i < 9 → p i = cln p i * ((gN p 9 : Nat) : Int) := fun i hi => (cln_mul hi).symm
    have h1 := gN_sc hk9
    have h2 : gN (cln p) 9 = 1 := by
      have : gN (cln p) 9 * gN p 9 = 1 * gN p 9 := by omega
      exact Nat.eq_of_mul_eq_mul_right (by omega) this
    refine fitN_iff.mpr (fun k hk => ?_)
    have hN : 0 < u.natAbs * gN p 9 := Nat.mul_pos (by omega) (by omega)
    have e : ∀ i, i < 9 → (cln p i).natAbs * (u.natAbs * gN p 9) = (q i).natAbs * v.natAbs := fun i hi => by
      have h3 := congrArg Int.natAbs (h i hi)
      rw [hk9 i hi, Int.natAbs_mul, Int.natAbs_mul, Int.natAbs_mul, Int.natAbs_natCast] at h3
      rw [Nat.mul_comm (q i).natAbs, ← h3, Nat.mul_left_comm]
    have a1 := gN_sc (p := fun i => cln p i * ((u.natAbs * gN p 9 : Nat) : Int)) (s := cln p) (g := u.natAbs * gN p 9) (n := 9) (fun _ _ => rfl)
    have a2 := gN_sc (p := fun i => q i * ((v.natAbs : Nat) : Int)) (s := q) (g := v.natAbs) (n := 9) (fun _ _ => rfl)
    have a3 := gN_abs (p := fun i => cln p i * ((u.natAbs * gN p 9 : Nat) : Int)) (q := fun i => q i * ((v.natAbs : Nat) : Int)) 9 (fun i hi => by
      rw [Int.natAbs_mul, Int.natAbs_mul, Int.natAbs_natCast, Int.natAbs_natCast]
      exact e i hi)
    rw [a1, a2, h2, Nat.one_mul] at a3
    have hv : v.natAbs ≤ u.natAbs * gN p 9 := by
      rcases Nat.eq_zero_or_pos (gN q 9) with z | z
      · rw [z, Nat.zero_mul] at a3
        omega
      · rw [a3]
        exact Nat.le_mul_of_pos_left _ z
    have e2 := e k hk
    have e3 : (cln p k).natAbs * (u.natAbs * gN p 9) ≤ (q k).natAbs * (u.natAbs * gN p 9) := by
      rw [e2]
      exact Nat.mul_le_mul_left _ hv
    have e4 := Nat.le_of_mul_le_mul_right e3 hN
    have := hq k hk
    omega
theorem fit_b {p : Po} (h : PB 1000000 p) : fit p = true := fitN_iff.mpr (fun k hk => cln_PB h k hk)
theorem stp_tp0 {q p : Po} {l t : Nat} : stp q l t p (l + t) = 0 := by
  unfold stp
  rw [if_pos ⟨by omega, by omega⟩, Nat.add_sub_cancel]
  by_cases n : q l < 0
  · rw [if_pos n, show (((q l).natAbs : Nat) : Int) = -q l from by omega, Int.mul_neg, Int.mul_neg, Int.mul_comm]; omega
  · rw [if_neg n, show (((q l).natAbs : Nat) : Int) = q l from by omega, Int.mul_comm]; omega
theorem rm_ex0 {q : Po} : ∀ (t : Nat) (p : Po), PB 1000000 p → ∃ r, rm q 0 t p = some r
  | 0, p, _ => ⟨p, rfl⟩
  | t + 1, p, h => by
    rw [rm]
    by_cases e : p (0 + t) = 0
    · rw [if_pos e]
      exact rm_ex0 t p h
    · rw [if_neg e]
      have hf : fit (stp q 0 t p) = true := fit_as (u := 1) (v := ((q 0).natAbs : Nat)) (q := fun k => if k = t then 0 else p k) (by decide) (fun k hk => by
        by_cases g : k = t
        · rw [if_pos g, Int.mul_zero, Int.one_mul]
          have := stp_tp0 (q := q) (p := p) (l := 0) (t := t)
          rw [Nat.zero_add] at this
          rw [g]
          exact this
        · rw [if_neg g, Int.one_mul]
          unfold stp
          rw [if_neg (by omega), Int.mul_comm]
          omega) (fun k hk => by
        show -1000000 ≤ (if k = t then 0 else p k) ∧ (if k = t then 0 else p k) ≤ 1000000
        split
        · exact ⟨by decide, by decide⟩
        · exact h k hk)
      rw [if_pos hf]
      exact rm_ex0 t _ (fit_PB hf)
theorem rm_skp0 {q p : Po} {l t : Nat} : ∀ m, (∀ k, l + t ≤ k → k < l + t + m → p k = 0) → rm q l (t + m) p = rm q l t p
  | 0, _ => rfl
  | m + 1, h => by
    rw [← Nat.add_assoc, rm, if_pos (h _ (by omega) (by omega))]
    exact rm_skp0 m (fun k a b => h k a (by omega))
theorem rm_ex1 {q p : Po} {G b : Int} (hG : G ≠ 0) (h0 : G * q 0 = 2 * b) (h1 : G * q 1 = 2 * p 2) (hb : p 1 = 2 * b) (hbb : b * b = p 2 * p 0) (hz : ∀ k, 3 ≤ k → k < 9 → p k = 0) (hp : PB 1000000 p) : ∃ r, rm q 1 8 p = some r := by
  have key : ∀ p' : Po, (∀ k, 2 ≤ k → k < 9 → p' k = 0) → ∃ r, rm q 1 (0 + 1) p' = some r := fun p' hz' => by
    rw [rm]
    split
    · exact ⟨_, rfl⟩
    · have hf : fit (stp q 1 0 p') = true := fit_as (u := 1) (v := stp q 1 0 p' 0) (q := fun k => if k = 0 then 1 else 0) (by decide) (fun k hk => by
        by_cases g : k = 0
        · rw [if_pos g, g, Int.mul_one, Int.one_mul]
        · rw [if_neg g, Int.mul_zero, Int.one_mul]
          by_cases g1 : k = 1
          · rw [g1]
            exact stp_tp0 (l := 1) (t := 0)
          · unfold stp
            rw [if_neg (by omega), hz' k (by omega) hk, Int.zero_mul]
            rfl) (fun k hk => by
        show -1000000 ≤ (if k = 0 then (1 : Int) else 0) ∧ (if k = 0 then (1 : Int) else 0) ≤ 1000000
        split <;> exact ⟨by decide, by decide⟩)
      rw [if_pos hf]
      exact ⟨_, rfl⟩
  rw [show 8 = (1 + 1) + 6 from rfl, rm_skp0 (l := 1) (t := 1 + 1) 6 (fun k a b => hz k (by omega) (by omega)), rm]
  split
  · rename_i e
    exact key p (fun k a b => by
      by_cases g : k = 2
      · rw [g]; exact e
      · exact hz k (by omega) b)
  · have hs3 : ∀ k, 2 ≤ k → k < 9 → stp q 1 1 p k = 0 := fun k a b => by
      by_cases g : k = 2
      · rw [g]
        exact stp_tp0 (l := 1) (t := 1)
      · unfold stp
        rw [if_neg (by omega), hz k (by omega) b, Int.zero_mul]
        rfl
    obtain ⟨s, hs, hs1, hs2⟩ : ∃ s : Int, s ≠ 0 ∧ s * (((q 1).natAbs : Nat) : Int) = q 1 ∧ s * (if q 1 < 0 then -p (1 + 1) else p (1 + 1)) = p (1 + 1) := by
      by_cases n : q 1 < 0
      · refine ⟨-1, by decide, by omega, ?_⟩
        rw [if_pos n]
        omega
      · refine ⟨1, by decide, by omega, ?_⟩
        rw [if_neg n]
        omega
    have hb6 : -1000000 ≤ b ∧ b ≤ 1000000 := by
      have := hp 1 (by decide)
      omega
    have hf : fit (stp q 1 1 p) = true := fit_as (u := G * s) (v := 2 * p 2) (q := fun k => if k = 0 then p 0 else if k = 1 then b else 0) (Int.mul_ne_zero hG hs) (fun k hk => by
      by_cases g : 2 ≤ k
      · rw [hs3 k g hk, if_neg (by omega), if_neg (by omega), Int.mul_zero, Int.mul_zero]
      · by_cases g0 : k = 0
        · rw [if_pos g0, g0]
          unfold stp
          rw [if_neg (by omega)]
          have e1 : G * s * (p 0 * (((q 1).natAbs : Nat) : Int) - 0) = G * (s * (((q 1).natAbs : Nat) : Int)) * p 0 := by grind
          rw [e1, hs1, h1]
        · have g1 : k = 1 := by omega
          rw [if_neg g0, if_pos g1, g1]
          unfold stp
          rw [if_pos (by omega), Nat.sub_self]
          generalize hw : (if q 1 < 0 then -p (1 + 1) else p (1 + 1)) = w at *
          have e1 : G * s * (p 1 * (((q 1).natAbs : Nat) : Int) - q 0 * w) = G * (s * (((q 1).natAbs : Nat) : Int)) * p 1 - G * q 0 * (s * w) := by grind
          rw [e1, hs1, hs2, h1, h0, hb, show p (1 + 1) = p 2 from rfl]
          grind) (fun k hk => by
      show -1000000 ≤ (if k = 0 then p 0 else if k = 1 then b else 0) ∧ (if k = 0 then p 0 else if k = 1 then b else 0) ≤ 1000000
      split
      · exact hp 0 (by decide)
      · split
        · exact hb6
        · exact ⟨by decide, by decide⟩)
    rw [if_pos hf]
    exact key _ (fun k a b => (cln_z b).mpr (hs3 k a b))
theorem cmN_1 {n : Nat} {a b : Po} (hb : sz b = 1) (ha : PB 1000000 a) : ∃ r, cmN (n + 2) a b = some r := by
  have h1 : ∃ r, rem a b = some r := by
    unfold rem
    rw [if_pos (fit_b ha), hb]
    exact rm_ex0 _ _ (cln_PB ha)
  obtain ⟨r, hr⟩ := h1
  have hs := rem_sz hr (by omega)
  refine ⟨b, ?_⟩
  rw [cmN, if_neg (by omega), hr]
  dsimp only
  rw [cmN, if_pos (by omega)]
theorem com_ex {p q : Po} (hp : fit p = true) (hq : fit q = true) (h : ∃ r, cmN 10 (cln p) (cln q) = some r) : ∃ g, com p q = some g := by
  obtain ⟨r, hr⟩ := h
  refine ⟨up r, ?_⟩
  unfold com
  rw [if_pos ⟨hp, hq⟩, hr]
  rfl
theorem der_k {d : Po} {k : Nat} (h : sz d ≤ k + 1) (hk : k < 9) : der d k = 0 := by
  unfold der
  by_cases e : k < 8
  · rw [if_pos e, sz_zero h (by omega), Int.zero_mul]
  · rw [if_neg e]
theorem com_ex2 {d : Po} (h2 : sz d = 2) (hB : PB 1000000 d) : ∃ g, com d (der d) = some g := by
  have hd := der_szz (p := d) (by omega)
  have hdB : PB 1000000 (der d) := fun k hk => by
    by_cases e : k = 0
    · rw [e]
      have := hB 1 (by decide)
      unfold der
      rw [if_pos (by decide)]
      show -1000000 ≤ d 1 * ((0 : Int) + 1) ∧ d 1 * ((0 : Int) + 1) ≤ 1000000
      omega
    · rw [der_k (by omega) hk]
      exact ⟨by decide, by decide⟩
  exact com_ex (fit_b hB) (fit_b hdB) (cmN_1 (n := 8) (by rw [cln_szz]; omega) (cln_PB hB))
theorem com_ex3 {d : Po} (h3 : sz d = 3) (h1 : gN d 9 = 1) (hB : PB 1000000 d) (hq : d 1 * d 1 = 4 * (d 2 * d 0)) : ∃ g, com d (der d) = some g := by
  have hd := der_szz (p := d) (by omega)
  obtain ⟨b, hb⟩ : ∃ b, d 1 = 2 * b := by
    rcases (by omega : d 1 % 2 = 0 ∨ d 1 % 2 = 1) with e | e
    · exact ⟨d 1 / 2, by omega⟩
    · exfalso
      obtain ⟨c, hc⟩ : ∃ c, d 1 = 2 * c + 1 := ⟨d 1 / 2, by omega⟩
      rw [hc] at hq
      have : (2 * c + 1) * (2 * c + 1) = 4 * (c * c + c) + 1 := by grind
      omega
  have hbb : b * b = d 2 * d 0 := by
    rw [hb] at hq
    have : 2 * b * (2 * b) = 4 * (b * b) := by grind
    omega
  have hb6 : -1000000 ≤ b ∧ b ≤ 1000000 := by
    have := hB 1 (by decide)
    omega
  have d0 : der d 0 = 2 * b := by
    unfold der
    rw [if_pos (by decide)]
    show d 1 * ((0 : Int) + 1) = _
    omega
  have d1 : der d 1 = 2 * d 2 := by
    unfold der
    rw [if_pos (by decide)]
    show d 2 * ((1 : Int) + 1) = _
    omega
  have hf : fit (der d) = true := fit_as (u := 1) (v := 2) (q := fun k => if k = 0 then b else if k = 1 then d 2 else 0) (by decide) (fun k hk => by
    rw [Int.one_mul]
    by_cases g : k = 0
    · rw [if_pos g, g, d0]
    · by_cases g1 : k = 1
      · rw [if_neg g, if_pos g1, g1, d1]
      · rw [if_neg g, if_neg g1, der_k (by omega) hk]
        rfl) (fun k hk => by
    show -1000000 ≤ (if k = 0 then b else if k = 1 then d 2 else 0) ∧ (if k = 0 then b else if k = 1 then d 2 else 0) ≤ 1000000
    split
    · exact hb6
    · split
      · exact hB 2 (by decide)
      · exact ⟨by decide, by decide⟩)
  refine com_ex (fit_b hB) hf ?_
  obtain ⟨G, hG, hGe⟩ := cln_g (p := der d)
  have hsq : sz (cln (der d)) = 2 := by rw [cln_szz]; omega
  have hq6 := fit_PB hf
  generalize cln (der d) = q at *
  have hcd : ∀ k, k < 9 → cln (cln d) k = d k := fun k hk => by
    rw [cln_cln k hk]
    show (d k).tdiv ((gN d 9 : Nat) : Int) = d k
    rw [h1]
    exact Int.tdiv_one _
  have hr : ∃ r, rem (cln d) q = some r := by
    unfold rem
    rw [if_pos (fit_b (cln_PB hB)), hsq]
    show ∃ r, rm q 1 8 (cln (cln d)) = some r
    refine rm_ex1 (G := G) (b := b) (by omega) (by rw [← hGe 0 (by decide), d0]) (by rw [← hGe 1 (by decide), d1, hcd 2 (by decide)]) (by rw [hcd 1 (by decide), hb]) (by rw [hcd 2 (by decide), hcd 0 (by decide), hbb]) (fun k a b => ?_) (cln_PB (cln_PB hB))
    rw [hcd k b]
    exact sz_zero (by omega) b
  obtain ⟨r, hr⟩ := hr
  have hs := rem_sz hr (by omega)
  by_cases z : sz r = 0
  · refine ⟨q, ?_⟩
    rw [cmN, if_neg (by omega), hr]
    dsimp only
    rw [cmN, if_pos z]
  · obtain ⟨r2, h2⟩ := cmN_1 (n := 7) (a := q) (b := r) (by omega) hq6
    refine ⟨r2, ?_⟩
    rw [cmN, if_neg (by omega), hr]
    exact h2
theorem Dd_deg {e d : Po} (h : Dd e d) (hd : 0 < sz d) (he : 0 < sz e) : ∃ (c : Int) (n : Nat), c ≠ 0 ∧ ∃ T, isP T ∧ hasD T n ∧ (∀ x, (c : Rat) * ev d x = T x * ev e x) ∧ n + (sz e - 1) = sz d - 1 := by
  obtain ⟨c, hc, T, hT, h⟩ := h
  have hcd : hasD (fun x => (c : Rat) * ev d x) (sz d - 1) := by
    obtain ⟨f, f0, hf⟩ := hasD_ev hd
    exact ⟨fun k => c * f k, Int.mul_ne_zero hc f0, fun x => by rw [evN_sm, ← hf]⟩
  rcases isP_deg hT with z | ⟨n, hn⟩
  · exact absurd (fun x => (h x).trans (by rw [z x]; grind)) (hasD_ne hcd)
  · have hm : hasD (fun x => (c : Rat) * ev d x) (n + (sz e - 1)) := by
      obtain ⟨f, f0, hf⟩ := hasD_mul hn (hasD_ev he)
      exact ⟨f, f0, fun x => (h x).trans (hf x)⟩
    have h1 := hasD_uniq hcd hm
    have h2 := hasD_uniq hm hcd
    exact ⟨c, n, hc, T, hT, hn, h, by omega⟩
theorem Dd_sz {e d : Po} (h : Dd e d) (hd : 0 < sz d) (he : 0 < sz e) : sz e ≤ sz d := by
  obtain ⟨c, n, -, T, -, -, -, h⟩ := Dd_deg h hd he
  omega
theorem Dd_As {e d : Po} (h : Dd e d) (hd : 0 < sz d) (he : 0 < sz e) (hs : sz d = sz e) : ∃ c u : Int, c ≠ 0 ∧ ∀ k, k < 9 → c * d k = u * e k := by
  obtain ⟨c, n, hc, T, -, ⟨f, f0, hf⟩, h, hn⟩ := Dd_deg h hd he
  have n0 : n = 0 := by omega
  subst n0
  refine ⟨c, f 0, hc, evN_eq (p := fun k => c * d k) (q := fun k => f 0 * e k) (fun x => ?_)⟩
  rw [evN_sm, evN_sm]
  have h1 := h x
  rw [hf x, evN_S] at h1
  have e1 : evN f 0 x + (f 0 : Rat) * x ^ 0 = (f 0 : Rat) := by
    show (0 : Rat) + (f 0 : Rat) * x ^ 0 = _
    rw [Rat.pow_zero]
    grind
  rw [e1] at h1
  exact h1
theorem spN_one : ∀ n, ∃ u, spN n oneP = some u
  | 0 => ⟨[], rfl⟩
  | n + 1 => by
    obtain ⟨u, hu⟩ := spN_one n
    refine ⟨oneP :: u, ?_⟩
    rw [spN, if_pos (by decide), hu]
    rfl
theorem spN_cons {n : Nat} {d g : Po} {u : List Po} (h0 : sz (der d) ≠ 0) (hg : com d (der d) = some g) (hu : spN n g = some u) : spN (n + 1) d = some (g :: u) := by
  rw [spN, if_neg h0, hg]
  dsimp only
  rw [hu]
  rfl
theorem spN_ex2 : ∀ (n : Nat) {d : Po}, 0 < sz d → sz d ≤ 2 → PB 1000000 d → ∃ u, spN n d = some u
  | 0, _, _, _, _ => ⟨[], rfl⟩
  | n + 1, d, h0, h2, hB => by
    have hd := der_szz h0
    by_cases z : sz (der d) = 0
    · obtain ⟨u, hu⟩ := spN_one n
      refine ⟨oneP :: u, ?_⟩
      rw [spN, if_pos z, hu]
      rfl
    · obtain ⟨g, hg⟩ := com_ex2 (by omega) hB
      have hs := com_szP hg h0 (by omega) (by omega)
      obtain ⟨-, -, a3, -⟩ := com_all hg h0 (by omega) (by omega)
      have := Dd_sz a3 (by omega) hs.1
      obtain ⟨u, hu⟩ := spN_ex2 n hs.1 (by omega) (com_PB hg)
      exact ⟨_, spN_cons z hg hu⟩
/-- four times as often as it can -/
theorem Gc_sq {d1 d2 : Po} (hG : Gc d2 d1) (h1 : sz d1 = 4) (h2 : sz d2 = 3) (hB1 : PB 1000000 d1) (hB2 : PB 1000000 d2) : d2 1 * d2 1 = 4 * (d2 2 * d2 0) := by
  obtain ⟨a1, a2, a3, a4, -⟩ := hG
  have hd := der_szz (p := d1) (by omega)
  obtain ⟨s, hs⟩ := dv_ex (by omega) hB1 a1 a2 (by omega) hB2 a3
  obtain ⟨c, u, hc, hcu⟩ := Dd_As a4 (by omega) a2 (by omega)
  have hss := dv_sz hs (show sz d2 = 2 + 1 by omega)
  have s0 : 0 < sz s := by
    rcases Nat.eq_zero_or_pos (sz s) with z | z
    · have := hss.1 z; omega
    · exact z
  have s2 : sz s = 2 := by
    have := hss.2 s0
    omega
  have ek : ∀ k, k < 9 → d1 k = cvN s (trN d2 9) k 2 := fun k hk => by
    rw [hs.1 k hk, h2, show 3 - 1 = 2 from rfl, dvN_cv (q := trN d2 9) (fun i hi => trN_s (by omega)) (fun i hi => trN_g (by omega)), show 9 - 2 = 2 + 5 from rfl]
    have hz : ∀ i, 2 ≤ i → i < 9 → s i = 0 := fun i a b => sz_zero (by omega) b
    rw [cvN, cvN, cvN, cvN, cvN, hz 2 (by decide) (by decide), hz 3 (by decide) (by decide), hz 4 (by decide) (by decide), hz 5 (by decide) (by decide), hz 6 (by decide) (by decide)]
    simp only [Int.zero_mul, ite_self, Int.add_zero]
  have t0 : trN d2 9 0 = d2 0 := rfl
  have t1 : trN d2 9 1 = d2 1 := rfl
  have t2 : trN d2 9 2 = d2 2 := rfl
  have t3 : trN d2 9 3 = 0 := trN_g (by omega)
  have e1 : d1 1 = s 0 * d2 1 + s 1 * d2 0 := by
    rw [ek 1 (by decide)]
    simp [cvN, t0, t1]
  have e2 : d1 2 = s 0 * d2 2 + s 1 * d2 1 := by
    rw [ek 2 (by decide)]
    simp [cvN, t1, t2]
  have e3 : d1 3 = s 1 * d2 2 := by
    rw [ek 3 (by decide)]
    simp [cvN, t2, t3]
  have g0 := hcu 0 (by decide)
  have g1 := hcu 1 (by decide)
  have g2 := hcu 2 (by decide)
  have f0 : der d1 0 = d1 1 := by
    unfold der
    rw [if_pos (by decide)]
    show d1 1 * ((0 : Int) + 1) = _
    omega
  have f1 : der d1 1 = 2 * d1 2 := by
    unfold der
    rw [if_pos (by decide)]
    show d1 2 * ((1 : Int) + 1) = _
    omega
  have f2 : der d1 2 = 3 * d1 3 := by
    unfold der
    rw [if_pos (by decide)]
    show d1 3 * ((2 : Int) + 1) = _
    omega
  rw [f0, e1] at g0
  rw [f1, e2] at g1
  rw [f2, e3] at g2
  have hA : d2 2 ≠ 0 := by
    have := sz_head a2
    rw [h2] at this
    exact this
  have hS : s 1 ≠ 0 := by
    have := sz_head s0
    rw [s2] at this
    exact this
  generalize d2 0 = C at *
  generalize d2 1 = B at *
  generalize d2 2 = A at *
  generalize s 0 = x at *
  generalize s 1 = y at *
  have k1 : u = 3 * c * y := Int.eq_of_mul_eq_mul_right hA (by rw [← g2]; grind)
  rw [k1] at g0 g1
  have k2 : 2 * (x * A) = y * B := by
    have : c * (2 * (x * A)) = c * (y * B) := by
      have e : c * (2 * (x * A + y * B)) = c * (2 * (x * A)) + 2 * (c * (y * B)) := by grind
      have e' : 3 * c * y * B = 3 * (c * (y * B)) := by grind
      rw [e, e'] at g1
      omega
    exact Int.eq_of_mul_eq_mul_left hc this
  have k3 : x * B = 2 * (y * C) := by
    have : c * (x * B) = c * (2 * (y * C)) := by
      have e : c * (x * B + y * C) = c * (x * B) + c * (y * C) := by grind
      have e' : 3 * c * y * C = 3 * (c * (y * C)) := by grind
      have e'' : c * (2 * (y * C)) = 2 * (c * (y * C)) := by grind
      rw [e, e'] at g0
      rw [e'']
      omega
    exact Int.eq_of_mul_eq_mul_left hc this
  have : y * (B * B) = y * (4 * (A * C)) := by
    have e : y * (B * B) = y * B * B := by grind
    rw [e, ← k2]
    have e' : 2 * (x * A) * B = 2 * A * (x * B) := by grind
    rw [e', k3]
    grind
  exact Int.eq_of_mul_eq_mul_left hS this
theorem spN_moreP {d : Po} {t : List Po} {m : Nat} (h : spN (m + 1) d = some t) (hm : 1 ≤ m) (h0 : 0 < sz d) (h5 : sz d ≤ 5) (hB : PB 1000000 d) : ∃ u, spN 5 d = some u := by
  by_cases hs : sz d ≤ 2
  · exact spN_ex2 5 h0 hs hB
  · have hd := der_szz h0
    have z : sz (der d) ≠ 0 := by omega
    obtain ⟨k, rfl⟩ : ∃ k, m = k + 1 := ⟨m - 1, by omega⟩
    obtain ⟨G1, B1, u, -, hu⟩ := Gc_step h h0 h5 rfl
    have z1 := spN_szz h h0 h5 0 (by omega)
    have hg : com d (der d) = some (t.getD 0 zP) := by
      rw [spN, if_neg z] at h
      cases hc : com d (der d) with
      | none => rw [hc] at h; cases h
      | some g =>
        rw [hc] at h
        dsimp only at h
        cases hv : spN (k + 1) g with
        | none => rw [hv] at h; cases h
        | some v => rw [hv] at h; cases h; rfl
    generalize t.getD 0 zP = e at *
    have l1 := Dd_sz G1.2.2.2.1 (by omega) z1.1
    by_cases hs1 : sz e ≤ 2
    · obtain ⟨v, hv⟩ := spN_ex2 4 z1.1 hs1 B1
      exact ⟨_, spN_cons z hg hv⟩
    · have hd1 := der_szz z1.1
      have zz : sz (der e) ≠ 0 := by omega
      obtain ⟨G2, B2, u2, -, -⟩ := Gc_step hu z1.1 z1.2 rfl
      have z2 := spN_szz hu z1.1 z1.2 0 (by omega)
      have hg2 : com e (der e) = some (u.getD 0 zP) := by
        rw [spN, if_neg zz] at hu
        cases hc : com e (der e) with
        | none => rw [hc] at hu; cases hu
        | some g =>
          rw [hc] at hu
          dsimp only at hu
          cases hv : spN k g with
          | none => rw [hv] at hu; cases hu
          | some v => rw [hv] at hu; cases hu; rfl
      generalize u.getD 0 zP = e2 at *
      have l2 := Dd_sz G2.2.2.2.1 (by omega) z2.1
      have key : ∃ v, spN 3 e2 = some v := by
        by_cases hs2 : sz e2 ≤ 2
        · exact spN_ex2 3 z2.1 hs2 B2
        · have hq := Gc_sq G2 (by omega) (by omega) B1 B2
          obtain ⟨g, hg3⟩ := com_ex3 (by omega) G2.1 B2 hq
          have hd2 := der_szz z2.1
          have hs3 := com_szP hg3 z2.1 z2.2 (by omega)
          obtain ⟨-, -, a3, -⟩ := com_all hg3 z2.1 z2.2 (by omega)
          have := Dd_sz a3 (by omega) hs3.1
          obtain ⟨v, hv⟩ := spN_ex2 2 hs3.1 (by omega) (com_PB hg3)
          exact ⟨_, spN_cons (by omega) hg3 hv⟩
      obtain ⟨v, hv⟩ := key
      exact ⟨_, spN_cons z hg (spN_cons zz hg2 hv)⟩
