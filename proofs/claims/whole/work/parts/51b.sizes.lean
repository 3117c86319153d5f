/-! sizes, quotients (printed by wip/whole/t51b.py) -/
theorem gN0 {p : Po} (h : gN p 9 = 0) : ∀ k, k < 9 → p k = 0 := fun k hk => by
  have := gN_dvd (p := p) hk
  rw [h, Nat.zero_dvd] at this
  omega
theorem cln0 {p : Po} (h : gN p 9 = 0) : ∀ k, k < 9 → cln p k = p k := fun k hk => by
  unfold cln
  rw [gN0 h k hk, Int.zero_tdiv]
theorem fit0 {p : Po} (h : gN p 9 = 0) : fit p = true := fitN_iff.mpr (fun k hk => by
  rw [cln0 h k hk, gN0 h k hk]
  exact ⟨by decide, by decide⟩)
theorem gN_sc {p s : Po} {g : Nat} : ∀ {n : Nat}, (∀ k, k < n → p k = s k * (g : Int)) → gN p n = gN s n * g
  | 0, _ => by
    show 0 = 0 * g
    rw [Nat.zero_mul]
  | n + 1, h => by
    rw [gN, gN, gN_sc (n := n) (fun k hk => h k (by omega)), h n (by omega), Int.natAbs_mul, Int.natAbs_natCast, Nat.gcd_mul_right]
theorem cln_cln {p : Po} : ∀ k, k < 9 → cln (cln p) k = cln p k := fun k hk => by
  by_cases h0 : gN p 9 = 0
  · have e : cln p k = 0 := by
      unfold cln
      rw [h0]
      exact Int.tdiv_zero _
    show (cln p k).tdiv ((gN (cln p) 9 : Nat) : Int) = cln p k
    rw [e]
    exact Int.zero_tdiv _
  · have hk9 : ∀ i, i < 9 → p i = cln p i * ((gN p 9 : Nat) : Int) := fun i hi => by
      unfold cln
      exact (Int.tdiv_mul_cancel (Int.ofNat_dvd_left.mpr (gN_dvd hi))).symm
    have h1 := gN_sc hk9
    have h2 : gN (cln p) 9 = 1 := by
      have : gN (cln p) 9 * gN p 9 = 1 * gN p 9 := by omega
      exact Nat.eq_of_mul_eq_mul_right (by omega) this
    show (cln p k).tdiv ((gN (cln p) 9 : Nat) : Int) = cln p k
    rw [h2]
    exact Int.tdiv_one _
theorem dvN_cut {d s : Po} {l k : Nat} : ∀ {t m : Nat}, (∀ j, t ≤ j → j < t + m → s j = 0) → dvN d s l k (t + m) = dvN d s l k t
  | _, 0, _ => rfl
  | t, m + 1, h => by
    show dvN d s l k (t + m + 1) = _
    rw [dvN, h (t + m) (by omega) (by omega), dvN_cut (fun j g1 g2 => h j g1 (by omega)), Int.zero_mul]
    split <;> omega
/-- s is 0 from t on, p is q times s: p's numbers -/
theorem dv_sz {p q s : Po} {l : Nat} (h : Dv p q s) (hl : sz q = l + 1) : (sz s = 0 → sz p = 0) ∧ (0 < sz s → sz p = l + sz s) := by
  have hq9 := sz_le q
  have hs9 := sz_le s
  have hq0 : ¬ q l = 0 := by
    have := sz_head (p := q) (by omega)
    rw [hl, Nat.add_sub_cancel] at this
    exact this
  obtain ⟨h1, h2, -, -⟩ := h
  rw [hl, Nat.add_sub_cancel] at h1 h2
  have hsz : sz s ≤ 9 - l := by
    rcases Nat.lt_or_ge (9 - l) (sz s) with g | g
    · exact absurd (h2 (sz s - 1) (by omega) (by omega)) (sz_head (by omega))
    · exact g
  have hc : ∀ k, k < 9 → p k = dvN q s l k (sz s) := fun k hk => by
    rw [h1 k hk, show 9 - l = sz s + (9 - l - sz s) by omega]
    exact dvN_cut (fun j g1 g2 => sz_zero g1 (by omega))
  constructor
  · intro h0
    refine sz_of (by omega) (fun k _ hk => ?_) (Or.inl rfl)
    rw [hc k hk, h0]
    rfl
  · intro h0
    obtain ⟨t, ht⟩ : ∃ t, sz s = t + 1 := ⟨sz s - 1, by omega⟩
    have hst : ¬ s t = 0 := by
      have := sz_head (p := s) h0
      rw [ht, Nat.add_sub_cancel] at this
      exact this
    rw [ht]
    refine sz_of (by omega) (fun k g1 g2 => ?_) (Or.inr ?_)
    · rw [hc k g2, ht, dvN_high (by omega)]
    · rw [show l + (t + 1) - 1 = l + t by omega, hc (l + t) (by omega), ht, dvN, dvN_high (Nat.le_refl _), if_pos ⟨by omega, by omega⟩, Nat.add_sub_cancel]
      intro z
      rw [Int.zero_add] at z
      rcases Int.mul_eq_zero.mp z with g | g
      · exact hst g
      · exact hq0 g
/-- what is left over as far as i of the t-th is taken off -/
def lfN (q s : Po) (l t i : Nat) : Po := fun k => dvN q s l k t + (if t + i ≤ k ∧ k ≤ t + l then s t * q (k - t) else 0)
theorem lfN_0 {q s : Po} {l t k : Nat} : lfN q s l t 0 k = dvN q s l k (t + 1) := by
  unfold lfN
  rw [dvN, Nat.add_zero]
theorem lfN_l {q s : Po} {l t k : Nat} : lfN q s l t (l + 1) k = dvN q s l k t := by
  unfold lfN
  rw [if_neg (by omega), Int.add_zero]
/-- as far as t is settled -/
def toN (s : Po) (t : Nat) : Po := fun k => if t ≤ k then s k else 0
theorem toN_0 {s : Po} {t k : Nat} (ht : sz s = t + 1) (hk : k < 9) : toN s (t + 1) k = 0 := by
  unfold toN
  split
  · exact sz_zero (by omega) hk
  · rfl
theorem ng_gN {p : Po} : ∀ n, gN (ng p) n = gN p n
  | 0 => rfl
  | n + 1 => by
    rw [gN, gN, ng_gN n]
    unfold ng
    rw [Int.natAbs_neg]
theorem cln_ng {p : Po} {k : Nat} : cln (ng p) k = ng (cln p) k := by
  unfold cln
  rw [ng_gN]
  unfold ng
  rw [Int.neg_tdiv]
theorem cln_mul {p : Po} {k : Nat} (hk : k < 9) : cln p k * (gN p 9 : Nat) = p k := by
  unfold cln
  exact Int.tdiv_mul_cancel (Int.ofNat_dvd_left.mpr (gN_dvd hk))
theorem cln_z {p : Po} {k : Nat} (hk : k < 9) : cln p k = 0 ↔ p k = 0 := by
  have h := cln_mul (p := p) hk
  constructor
  · intro z
    rw [z, Int.zero_mul] at h
    exact h.symm
  · intro z
    unfold cln
    rw [z, Int.zero_tdiv]
theorem cln_szz {p : Po} : sz (cln p) = sz p := by
  have h9 := sz_le p
  refine sz_of h9 (fun k g1 g2 => (cln_z g2).mpr (sz_zero g1 g2)) ?_
  rcases Nat.eq_zero_or_pos (sz p) with g | g
  · exact Or.inl g
  · exact Or.inr (fun z => sz_head g ((cln_z (by omega)).mp z))
theorem cln_hd {p : Po} : hd (cln p) < 0 ↔ hd p < 0 := by
  have h9 := sz_le p
  unfold hd
  rw [cln_szz]
  by_cases g : sz p = 0
  · rw [if_pos g, if_pos g]
  · rw [if_neg g, if_neg g]
    have h := cln_mul (p := p) (k := sz p - 1) (by omega)
    have hg : (0 : Int) ≤ (gN p 9 : Nat) := Int.natCast_nonneg _
    constructor
    · intro z
      rw [← h]
      have hne : (gN p 9 : Nat) ≠ 0 := fun e => by
        have := gN0 e (sz p - 1) (by omega)
        exact sz_head (by omega) this
      exact Int.mul_neg_of_neg_of_pos z (by omega)
    · intro z
      by_cases g2 : cln p (sz p - 1) < 0
      · exact g2
      · have := Int.mul_nonneg (show 0 ≤ cln p (sz p - 1) by omega) hg
        omega
theorem up_eq {p : Po} : up p = if hd p < 0 then ng p else p := by
  funext k
  unfold up ng
  split <;> rfl
theorem cln_up {p : Po} {k : Nat} : cln (up p) k = up (cln p) k := by
  rw [up_eq, up_eq]
  by_cases g : hd p < 0
  · rw [if_pos g, if_pos (cln_hd.mpr g)]
    exact cln_ng
  · rw [if_neg g, if_neg (fun z => g (cln_hd.mp z))]
theorem fit_up {p : Po} : fit (up p) = fit p := by
  have h : fit (up p) = true ↔ fit p = true := by
    unfold fit
    rw [fitN_iff, fitN_iff]
    constructor
    · intro q k hk
      have := q k hk
      rw [cln_up] at this
      unfold up at this
      split at this <;> omega
    · intro q k hk
      have := q k hk
      rw [cln_up]
      unfold up
      split <;> omega
  cases h1 : fit p
  · cases h2 : fit (up p)
    · rfl
    · exact absurd (h.mp h2) (by rw [h1]; decide)
  · exact h.mpr h1
theorem up_szz {p : Po} : sz (up p) = sz p := by
  have h9 := sz_le p
  refine sz_of h9 (fun k g1 g2 => ?_) ?_
  · unfold up
    rw [sz_zero (p := p) g1 g2]
    split <;> rfl
  · rcases Nat.eq_zero_or_pos (sz p) with g | g
    · exact Or.inl g
    · refine Or.inr (fun z => sz_head g ?_)
      unfold up at z
      split at z <;> omega
theorem der_szz {p : Po} (h : 0 < sz p) : sz (der p) = sz p - 1 := by
  have h9 := sz_le p
  refine sz_of (by omega) (fun k g1 g2 => ?_) ?_
  · unfold der
    split
    · rw [sz_zero (p := p) (by omega) (by omega), Int.zero_mul]
    · rfl
  · rcases Nat.lt_or_ge 1 (sz p) with g | g
    · refine Or.inr (fun z => ?_)
      unfold der at z
      rw [if_pos (by omega), show sz p - 1 - 1 + 1 = sz p - 1 by omega] at z
      rcases Int.mul_eq_zero.mp z with z | z
      · exact sz_head (p := p) (by omega) z
      · omega
    · exact Or.inl (by omega)
theorem cmN_szz : ∀ {n : Nat} {a b r : Po}, cmN n a b = some r → 0 < sz a → sz a ≤ 5 → sz b ≤ 5 → 0 < sz r ∧ sz r ≤ 5
  | 0, a, b, r, h, h0, h5, _ => by rw [cmN] at h; cases h; exact ⟨h0, h5⟩
  | n + 1, a, b, r, h, h0, h5, hb => by
    rw [cmN] at h
    by_cases e : sz b = 0
    · rw [if_pos e] at h; cases h; exact ⟨h0, h5⟩
    · rw [if_neg e] at h
      cases hr : rem a b with
      | none => rw [hr] at h; cases h
      | some r1 =>
        rw [hr] at h
        have := rem_sz hr (by omega)
        exact cmN_szz h (by omega) hb (by omega)
theorem com_szP {p q g : Po} (h : com p q = some g) (h0 : 0 < sz p) (h5 : sz p ≤ 5) (h5' : sz q ≤ 5) : 0 < sz g ∧ sz g ≤ 5 := by
  unfold com at h
  split at h
  · cases hc : cmN 10 (cln p) (cln q) with
    | none => rw [hc] at h; cases h
    | some r =>
      rw [hc] at h
      cases h
      rw [up_szz]
      exact cmN_szz hc (by rw [cln_szz]; exact h0) (by rw [cln_szz]; exact h5) (by rw [cln_szz]; exact h5')
  · cases h
theorem cu_szz {p r : Po} (h : cu p = some r) : sz r = sz p := by
  unfold cu at h
  split at h
  · cases h
    rw [cln_szz, up_szz]
  · cases h
theorem fre_szP {p f : Po} (hok : FrOk p) (h : fre p = some f) (h0 : 0 < sz p) (h5 : sz p ≤ 5) : 0 < sz f ∧ sz f ≤ 5 := by
  unfold fre at h
  by_cases hf : fit p = true
  · rw [if_pos hf] at h
    by_cases hz : sz (der (cln p)) = 0
    · rw [if_pos hz] at h
      have e := cu_szz h
      rw [cln_szz] at e
      omega
    · rw [if_neg hz] at h
      cases hc : com (cln p) (der (cln p)) with
      | none => rw [hc] at h; cases h
      | some g =>
        rw [hc] at h
        have e := cu_szz h
        obtain ⟨hg0, hgs⟩ := hok g hf hz hc
        have hd := dv_sz (quo_dv hgs) (l := sz g - 1) (by omega)
        rw [cln_szz] at hd
        rcases Nat.eq_zero_or_pos (sz (quo (cln p) g)) with z | z
        · have := hd.1 z
          omega
        · have := hd.2 z
          omega
  · rw [if_neg hf] at h
    cases h
theorem exN_szz : ∀ {n : Nat} {a b : Po} {t : List Po}, exN n a b = some t → ∀ k, k < t.length → sz (t.getD k zP) ≤ sz b
  | 0, a, b, t, h, k, hk => by rw [exN] at h; cases h; exact absurd hk (Nat.not_lt_zero _)
  | n + 1, a, b, t, h, k, hk => by
    rw [exN] at h
    by_cases e : sz b = 0
    · rw [if_pos e] at h; cases h; exact absurd hk (Nat.not_lt_zero _)
    · rw [if_neg e] at h
      cases hr : rem a b with
      | none => rw [hr] at h; cases h
      | some r =>
        rw [hr] at h
        dsimp only at h
        cases ht : exN n b (ng r) with
        | none => rw [ht] at h; cases h
        | some u =>
          rw [ht] at h
          cases h
          cases k with
          | zero => exact Nat.le_refl _
          | succ k =>
            have h1 := exN_szz ht k (Nat.lt_of_succ_lt_succ hk)
            rw [sz_ng] at h1
            have h2 := rem_sz hr (by omega)
            show sz (u.getD k zP) ≤ sz b
            omega
theorem LZ_cons {f b : Po} {n : Nat} {l : List Po} (h : (exN n f b).map ([f] ++ ·) = some l) (hf : sz f ≤ 5) (hb : sz b ≤ 5) : LZ l := by
  cases ht : exN n f b with
  | none => rw [ht] at h; cases h
  | some t =>
    rw [ht] at h
    cases h
    intro k hk
    cases k with
    | zero => exact hf
    | succ k =>
      have hk2 : k < t.length := by
        have : k + 1 < ([f] ++ t).length := hk
        rw [List.length_append, List.length_singleton] at this
        omega
      have := exN_szz ht k hk2
      show sz (t.getD k zP) ≤ 5
      omega
theorem chn_LZP {p : Po} {l : List Po} (hok : FrOk p) (h : chn p = some l) (h0 : 0 < sz p) (h5 : sz p ≤ 5) : LZ l := by
  unfold chn at h
  cases hf : fre p with
  | none => rw [hf] at h; cases h
  | some f =>
    rw [hf] at h
    dsimp only at h
    have hs := fre_szP hok hf h0 h5
    split at h
    · refine LZ_cons h hs.2 ?_
      rw [cln_szz, der_szz hs.1]
      omega
    · cases h
theorem chs_LZP {p q : Po} {l : List Po} (hok : FrOk p) (h : chs p q = some l) (h0 : 0 < sz p) (h5 : sz p ≤ 5) : LZ l := by
  unfold chs at h
  cases hf : fre p with
  | none => rw [hf] at h; cases h
  | some f =>
    rw [hf] at h
    dsimp only at h
    have hs := fre_szP hok hf h0 h5
    cases hr : rem (cv (der f) q) f with
    | none => rw [hr] at h; cases h
    | some r =>
      rw [hr] at h
      dsimp only at h
      have := rem_sz hr hs.1
      exact LZ_cons h hs.2 (by omega)
theorem spN_szz : ∀ {n : Nat} {d : Po} {t : List Po}, spN n d = some t → 0 < sz d → sz d ≤ 5 → ∀ k, k < n → 0 < sz (t.getD k zP) ∧ sz (t.getD k zP) ≤ 5
  | 0, _, _, _, _, _, k, hk => absurd hk (Nat.not_lt_zero _)
  | n + 1, d, t, h, h0, h5, k, hk => by
    have h1 : sz oneP = 1 := sz_of (by decide) (fun k g1 g2 => by unfold oneP; rw [if_neg (by omega)]) (Or.inr (by decide))
    rw [spN] at h
    by_cases e : sz (der d) = 0
    · rw [if_pos e] at h
      cases hu : spN n oneP with
      | none => rw [hu] at h; cases h
      | some u =>
        rw [hu] at h
        cases h
        cases k with
        | zero =>
          show 0 < sz oneP ∧ sz oneP ≤ 5
          omega
        | succ k => exact spN_szz hu (by omega) (by omega) k (Nat.lt_of_succ_lt_succ hk)
    · rw [if_neg e] at h
      cases hg : com d (der d) with
      | none => rw [hg] at h; cases h
      | some g =>
        rw [hg] at h
        dsimp only at h
        have hd := der_szz h0
        have hs := com_szP hg h0 h5 (by omega)
        cases hu : spN n g with
        | none => rw [hu] at h; cases h
        | some u =>
          rw [hu] at h
          cases h
          cases k with
          | zero => exact hs
          | succ k => exact spN_szz hu hs.1 hs.2 k (Nat.lt_of_succ_lt_succ hk)
theorem spl_szP {p : Po} {l : List Po} (h : spl p = some l) (h0 : 0 < sz p) (h5 : sz p ≤ 5) : ∀ k, k < 6 → 0 < sz (l.getD k zP) ∧ sz (l.getD k zP) ≤ 5 := by
  intro k hk
  have e : sz (up (cln p)) = sz p := by rw [up_szz, cln_szz]
  unfold spl at h
  split at h
  · cases hu : spN 5 (up (cln p)) with
    | none => rw [hu] at h; cases h
    | some u =>
      rw [hu] at h
      cases h
      cases k with
      | zero =>
        show 0 < sz (up (cln p)) ∧ sz (up (cln p)) ≤ 5
        omega
      | succ k => exact spN_szz hu (by omega) (by omega) k (by omega)
  · cases h

