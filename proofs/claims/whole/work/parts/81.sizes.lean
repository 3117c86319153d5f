/-! sizes: what part 52 owed (printed by wip/whole/t81.py) -/
theorem up_szz {p : Po} : sz (up p) = sz p := by
  have h9 := sz_le p
  refine sz_of h9 (fun k g1 g2 => ?_) ?_
  · unfold up
    rw [sz_zero (p := p) g1 g2]
    split <;> rfl
  · rcases Nat.eq_zero_or_pos (sz p) with g | g
    · exact Or.inl g
    · refine Or.inr (fun z => sz_head g ?_)
      unfold up at z
      split at z <;> omega
theorem der_szz {p : Po} (h : 0 < sz p) : sz (der p) = sz p - 1 := by
  have h9 := sz_le p
  refine sz_of (by omega) (fun k g1 g2 => ?_) ?_
  · unfold der
    split
    · rw [sz_zero (p := p) (by omega) (by omega), Int.zero_mul]
    · rfl
  · rcases Nat.lt_or_ge 1 (sz p) with g | g
    · refine Or.inr (fun z => ?_)
      unfold der at z
      rw [if_pos (by omega), show sz p - 1 - 1 + 1 = sz p - 1 by omega] at z
      rcases Int.mul_eq_zero.mp z with z | z
      · exact sz_head (p := p) (by omega) z
      · omega
    · exact Or.inl (by omega)
theorem cmN_szz : ∀ {n : Nat} {a b r : Po}, cmN n a b = some r → 0 < sz a → sz a ≤ 5 → sz b ≤ 5 → 0 < sz r ∧ sz r ≤ 5
  | 0, a, b, r, h, h0, h5, _ => by rw [cmN] at h; cases h; exact ⟨h0, h5⟩
  | n + 1, a, b, r, h, h0, h5, hb => by
    rw [cmN] at h
    by_cases e : sz b = 0
    · rw [if_pos e] at h; cases h; exact ⟨h0, h5⟩
    · rw [if_neg e] at h
      cases hr : rem a b with
      | none => rw [hr] at h; cases h
      | some r1 =>
        rw [hr] at h
        have := rem_sz hr (by omega)
        exact cmN_szz h (by omega) hb (by omega)
theorem com_szP {p q g : Po} (h : com p q = some g) (h0 : 0 < sz p) (h5 : sz p ≤ 5) (h5' : sz q ≤ 5) : 0 < sz g ∧ sz g ≤ 5 := by
  unfold com at h
  split at h
  · cases hc : cmN 10 (cln p) (cln q) with
    | none => rw [hc] at h; cases h
    | some r =>
      rw [hc] at h
      cases h
      rw [up_szz]
      exact cmN_szz hc (by rw [cln_szz]; exact h0) (by rw [cln_szz]; exact h5) (by rw [cln_szz]; exact h5')
  · cases h
theorem cu_szz {p r : Po} (h : cu p = some r) : sz r = sz p := by
  unfold cu at h
  split at h
  · cases h
    rw [cln_szz, up_szz]
  · cases h
theorem fre_szP {p f : Po} (hok : FrOk p) (h : fre p = some f) (h0 : 0 < sz p) (h5 : sz p ≤ 5) : 0 < sz f ∧ sz f ≤ 5 := by
  unfold fre at h
  by_cases hf : fit p = true
  · rw [if_pos hf] at h
    by_cases hz : sz (der (cln p)) = 0
    · rw [if_pos hz] at h
      have e := cu_szz h
      rw [cln_szz] at e
      omega
    · rw [if_neg hz] at h
      cases hc : com (cln p) (der (cln p)) with
      | none => rw [hc] at h; cases h
      | some g =>
        rw [hc] at h
        have e := cu_szz h
        obtain ⟨hg0, hgs⟩ := hok g hf hz hc
        have hd := dv_sz (quo_dv hgs) (l := sz g - 1) (by omega)
        rw [cln_szz] at hd
        rcases Nat.eq_zero_or_pos (sz (quo (cln p) g)) with z | z
        · have := hd.1 z
          omega
        · have := hd.2 z
          omega
  · rw [if_neg hf] at h
    cases h
theorem exN_szz : ∀ {n : Nat} {a b : Po} {t : List Po}, exN n a b = some t → ∀ k, k < t.length → sz (t.getD k zP) ≤ sz b
  | 0, a, b, t, h, k, hk => by rw [exN] at h; cases h; exact absurd hk (Nat.not_lt_zero _)
  | n + 1, a, b, t, h, k, hk => by
    rw [exN] at h
    by_cases e : sz b = 0
    · rw [if_pos e] at h; cases h; exact absurd hk (Nat.not_lt_zero _)
    · rw [if_neg e] at h
      cases hr : rem a b with
      | none => rw [hr] at h; cases h
      | some r =>
        rw [hr] at h
        dsimp only at h
        cases ht : exN n b (ng r) with
        | none => rw [ht] at h; cases h
        | some u =>
          rw [ht] at h
          cases h
          cases k with
          | zero => exact Nat.le_refl _
          | succ k =>
            have h1 := exN_szz ht k (Nat.lt_of_succ_lt_succ hk)
            rw [sz_ng] at h1
            have h2 := rem_sz hr (by omega)
            show sz (u.getD k zP) ≤ sz b
            omega
theorem LZ_cons {f b : Po} {n : Nat} {l : List Po} (h : (exN n f b).map ([f] ++ ·) = some l) (hf : sz f ≤ 5) (hb : sz b ≤ 5) : LZ l := by
  cases ht : exN n f b with
  | none => rw [ht] at h; cases h
  | some t =>
    rw [ht] at h
    cases h
    intro k hk
    cases k with
    | zero => exact hf
    | succ k =>
      have hk2 : k < t.length := by
        have : k + 1 < ([f] ++ t).length := hk
        rw [List.length_append, List.length_singleton] at this
        omega
      have := exN_szz ht k hk2
      show sz (t.getD k zP) ≤ 5
      omega
theorem chn_LZP {p : Po} {l : List Po} (hok : FrOk p) (h : chn p = some l) (h0 : 0 < sz p) (h5 : sz p ≤ 5) : LZ l := by
  unfold chn at h
  cases hf : fre p with
  | none => rw [hf] at h; cases h
  | some f =>
    rw [hf] at h
    dsimp only at h
    have hs := fre_szP hok hf h0 h5
    split at h
    · refine LZ_cons h hs.2 ?_
      rw [cln_szz, der_szz hs.1]
      omega
    · cases h
theorem chs_LZP {p q : Po} {l : List Po} (hok : FrOk p) (h : chs p q = some l) (h0 : 0 < sz p) (h5 : sz p ≤ 5) : LZ l := by
  unfold chs at h
  cases hf : fre p with
  | none => rw [hf] at h; cases h
  | some f =>
    rw [hf] at h
    dsimp only at h
    have hs := fre_szP hok hf h0 h5
    cases hr : rem (cv (der f) q) f with
    | none => rw [hr] at h; cases h
    | some r =>
      rw [hr] at h
      dsimp only at h
      have := rem_sz hr hs.1
      exact LZ_cons h hs.2 (by omega)
theorem spN_szz : ∀ {n : Nat} {d : Po} {t : List Po}, spN n d = some t → 0 < sz d → sz d ≤ 5 → ∀ k, k < n → 0 < sz (t.getD k zP) ∧ sz (t.getD k zP) ≤ 5
  | 0, _, _, _, _, _, k, hk => absurd hk (Nat.not_lt_zero _)
  | n + 1, d, t, h, h0, h5, k, hk => by
    have h1 : sz oneP = 1 := sz_of (by decide) (fun k g1 g2 => by unfold oneP; rw [if_neg (by omega)]) (Or.inr (by decide))
    rw [spN] at h
    by_cases e : sz (der d) = 0
    · rw [if_pos e] at h
      cases hu : spN n oneP with
      | none => rw [hu] at h; cases h
      | some u =>
        rw [hu] at h
        cases h
        cases k with
        | zero =>
          show 0 < sz oneP ∧ sz oneP ≤ 5
          omega
        | succ k => exact spN_szz hu (by omega) (by omega) k (Nat.lt_of_succ_lt_succ hk)
    · rw [if_neg e] at h
      cases hg : com d (der d) with
      | none => rw [hg] at h; cases h
      | some g =>
        rw [hg] at h
        dsimp only at h
        have hd := der_szz h0
        have hs := com_szP hg h0 h5 (by omega)
        cases hu : spN n g with
        | none => rw [hu] at h; cases h
        | some u =>
          rw [hu] at h
          cases h
          cases k with
          | zero => exact hs
          | succ k => exact spN_szz hu hs.1 hs.2 k (Nat.lt_of_succ_lt_succ hk)
theorem spl_szP {p : Po} {l : List Po} (h : spl p = some l) (h0 : 0 < sz p) (h5 : sz p ≤ 5) : ∀ k, k < 6 → 0 < sz (l.getD k zP) ∧ sz (l.getD k zP) ≤ 5 := by
  intro k hk
  have e : sz (up (cln p)) = sz p := by rw [up_szz, cln_szz]
  unfold spl at h
  split at h
  · cases hu : spN 5 (up (cln p)) with
    | none => rw [hu] at h; cases h
    | some u =>
      rw [hu] at h
      cases h
      cases k with
      | zero =>
        show 0 < sz (up (cln p)) ∧ sz (up (cln p)) ≤ 5
        omega
      | succ k => exact spN_szz hu (by omega) (by omega) k (by omega)
  · cases h
