/-! times: the D of both are the same (printed by wip/whole/t89.py) -/
theorem cln_ngf {p : Po} : cln (ng p) = ng (cln p) := funext fun _ => cln_ng
theorem fit_ng {p : Po} : fit (ng p) = fit p := by
  have h : fit (ng p) = true ↔ fit p = true := by
    unfold fit
    rw [fitN_iff, fitN_iff, cln_ngf]
    constructor
    · intro q k hk
      have := q k hk
      unfold ng at this
      omega
    · intro q k hk
      have := q k hk
      unfold ng
      omega
  cases h1 : fit p
  · cases h2 : fit (ng p)
    · rfl
    · exact absurd (h.mp h2) (by rw [h1]; decide)
  · exact h.mpr h1
theorem stp_ngp {q p : Po} {l t : Nat} : stp q l t (ng p) = ng (stp q l t p) := by
  funext k
  unfold stp ng
  dsimp only
  by_cases g : t ≤ k ∧ k < t + (l + 1)
  · rw [if_pos g, if_pos g]
    by_cases e : q l < 0
    · rw [if_pos e, if_pos e]; grind
    · rw [if_neg e, if_neg e]; grind
  · rw [if_neg g, if_neg g]; grind
theorem stp_ngq {q p : Po} {l t : Nat} (h : ¬ q l = 0) : stp (ng q) l t p = stp q l t p := by
  funext k
  unfold stp
  rw [show ng q l = -q l from rfl, Int.natAbs_neg]
  by_cases g : t ≤ k ∧ k < t + (l + 1)
  · rw [if_pos g, if_pos g, show ng q (k - t) = -q (k - t) from rfl]
    by_cases e : q l < 0
    · rw [if_pos e, if_neg (by omega)]; grind
    · rw [if_neg e, if_pos (by omega)]; grind
  · rw [if_neg g, if_neg g]
theorem rm_ngp {q : Po} {l : Nat} : ∀ {t : Nat} {p : Po}, rm q l t (ng p) = (rm q l t p).map ng
  | 0, p => rfl
  | t + 1, p => by
    rw [rm, rm]
    have e : ng p (l + t) = 0 ↔ p (l + t) = 0 := by unfold ng; omega
    by_cases g : p (l + t) = 0
    · rw [if_pos g, if_pos (e.mpr g), rm_ngp]
    · rw [if_neg g, if_neg (fun z => g (e.mp z)), stp_ngp, fit_ng, cln_ngf]
      by_cases f : fit (stp q l t p) = true
      · rw [if_pos f, if_pos f, rm_ngp]
      · rw [if_neg f, if_neg f]; rfl
theorem rm_ngq {q : Po} {l : Nat} (h : ¬ q l = 0) : ∀ {t : Nat} {p : Po}, rm (ng q) l t p = rm q l t p
  | 0, p => rfl
  | t + 1, p => by
    rw [rm, rm, stp_ngq h, rm_ngq h, rm_ngq h]
theorem rem_ngp {p q : Po} : rem (ng p) q = (rem p q).map ng := by
  unfold rem
  rw [fit_ng, cln_ngf, rm_ngp]
  by_cases f : fit p = true
  · rw [if_pos f, if_pos f]
  · rw [if_neg f, if_neg f]; rfl
theorem rem_ngq {p q : Po} (h : 0 < sz q) : rem p (ng q) = rem p q := by
  unfold rem
  rw [sz_ng, rm_ngq (sz_head h)]
theorem cmN_ng : ∀ {n : Nat} {a b : Po}, cmN n (ng a) (ng b) = (cmN n a b).map ng
  | 0, a, b => rfl
  | n + 1, a, b => by
    rw [cmN, cmN, sz_ng]
    by_cases e : sz b = 0
    · rw [if_pos e, if_pos e]; rfl
    · rw [if_neg e, if_neg e, rem_ngq (by omega), rem_ngp]
      cases rem a b with
      | none => rfl
      | some r => exact cmN_ng
theorem hd_ng {p : Po} : hd (ng p) = -hd p := by
  unfold hd
  rw [sz_ng]
  split <;> rfl
theorem hd_nz {p : Po} (h : 0 < sz p) : ¬ hd p = 0 := by
  unfold hd
  rw [if_neg (by omega)]
  exact sz_head h
theorem ng_ng {p : Po} : ng (ng p) = p := by
  funext k
  unfold ng
  omega
theorem up_ng {p : Po} (h : 0 < sz p) : up (ng p) = up p := by
  have h0 := hd_nz h
  rw [up_eq, up_eq, hd_ng, ng_ng]
  by_cases g : hd p < 0
  · rw [if_pos g, if_neg (by omega)]
  · rw [if_neg g, if_pos (by omega)]
theorem cmN_le : ∀ {n : Nat} {a b r : Po}, cmN n a b = some r → sz b < n → 0 < sz b → 0 < sz r ∧ sz r ≤ sz b
  | 0, _, _, _, _, h, _ => absurd h (Nat.not_lt_zero _)
  | n + 1, a, b, r, h, hn, h0 => by
    rw [cmN, if_neg (by omega)] at h
    cases hr : rem a b with
    | none => rw [hr] at h; cases h
    | some r1 =>
      rw [hr] at h
      dsimp only at h
      have hs := rem_sz hr h0
      rcases Nat.eq_zero_or_pos (sz r1) with z | z
      · cases n with
        | zero => omega
        | succ n =>
          rw [cmN, if_pos z] at h
          cases h
          omega
      · have := cmN_le h (by omega) z
        omega
theorem com_le {p q g : Po} (h : com p q = some g) (h0 : 0 < sz q) : 0 < sz g ∧ sz g ≤ sz q := by
  have h9 := sz_le q
  unfold com at h
  split at h
  · cases hc : cmN 10 (cln p) (cln q) with
    | none => rw [hc] at h; cases h
    | some r =>
      rw [hc] at h
      cases h
      rw [up_szz]
      have := cmN_le hc (by rw [cln_szz]; omega) (by rw [cln_szz]; exact h0)
      rw [cln_szz] at this
      exact this
  · cases h
theorem com_ng {p q : Po} (h0 : 0 < sz q) : com (ng p) (ng q) = com p q := by
  have h9 := sz_le q
  unfold com
  rw [fit_ng, fit_ng, cln_ngf, cln_ngf, cmN_ng]
  by_cases f : fit p = true ∧ fit q = true
  · rw [if_pos f, if_pos f]
    cases hc : cmN 10 (cln p) (cln q) with
    | none => rfl
    | some r =>
      have := cmN_le hc (by rw [cln_szz]; omega) (by rw [cln_szz]; exact h0)
      show some (up (ng r)) = some (up r)
      rw [up_ng this.1]
  · rw [if_neg f, if_neg f]
theorem cln_sc {p q : Po} {g : Nat} (hg : 0 < g) (h : ∀ k, p k = q k * (g : Int)) : cln p = cln q := by
  funext k
  unfold cln
  rw [gN_sc (p := p) (s := q) (g := g) (fun k _ => h k), h k, Int.natCast_mul]
  exact Int.mul_tdiv_mul_of_pos_left _ _ (by omega)
theorem der_cln {p : Po} : cln (der (cln p)) = cln (der p) := by
  by_cases h0 : gN p 9 = 0
  · have hz : ∀ k, der p k = 0 := fun k => by
      unfold der
      split
      · rw [gN0 h0 (k + 1) (by omega), Int.zero_mul]
      · rfl
    have hz2 : ∀ k, der (cln p) k = 0 := fun k => by
      unfold der
      split
      · rw [cln0 h0 (k + 1) (by omega), gN0 h0 (k + 1) (by omega), Int.zero_mul]
      · rfl
    rw [show der (cln p) = der p from funext fun k => (hz2 k).trans (hz k).symm]
  · refine (cln_sc (g := gN p 9) (by omega) (fun k => ?_)).symm
    unfold der
    split
    · rw [← cln_mul (p := p) (k := k + 1) (by omega), Int.mul_right_comm]
    · rw [Int.zero_mul]
theorem fit_cln {p : Po} : fit (cln p) = fit p := by unfold fit; rw [cln_idem]
theorem com_cl {p q : Po} : com (cln p) (cln q) = com p q := by
  unfold com
  rw [fit_cln, fit_cln, cln_idem, cln_idem]
theorem der_ng {p : Po} : der (ng p) = ng (der p) := by
  funext k
  unfold der ng
  dsimp only
  split
  · rw [Int.neg_mul]
  · rfl
/-- the first D: of p as it is, or cleaned and with its head up -/
theorem com_der {p : Po} (h0 : 1 < sz p) : com (up (cln p)) (der (up (cln p))) = com p (der p) := by
  have h1 : com (cln p) (der (cln p)) = com p (der p) := by
    rw [← com_cl (p := cln p), cln_idem, der_cln, com_cl]
  rw [up_eq]
  by_cases g : hd (cln p) < 0
  · rw [if_pos g, der_ng, com_ng (by rw [der_szz (by rw [cln_szz]; omega), cln_szz]; omega)]
    exact h1
  · rw [if_neg g]
    exact h1
/-- times: on the D from d on, as the reference goes -/
noncomputable def tmR (s : Fs) : Nat → Po → Nat → Int32
  | 0, _, c => nI c
  | n + 1, d, c => if sz d ≤ 1 then nI c else match chn d with
    | none => -3
    | some l => match com d (der d) with
      | none => -3
      | some g => tmR s n g (if 0 < fHo l s then c + 1 else c)
/-- times: over a list of D -/
noncomputable def tmL (s : Fs) : List Po → Nat → Int32
  | [], c => nI c
  | d :: t, c => match chn d with
    | none => -3
    | some l => tmL s t (if 0 < fHo l s then c + 1 else c)
theorem tmN_L {s : Fs} : ∀ {f m c : Nat} {D : List Po}, D.length = m + f → tmN D s f m c = tmL s (D.drop m) c
  | 0, m, c, D, h => by
    rw [List.drop_eq_nil_of_le (by omega)]
    rfl
  | f + 1, m, c, D, h => by
    have e : D.drop m = D.getD m zP :: D.drop (m + 1) := by
      rw [List.drop_eq_getElem_cons (by omega), List.getD_eq_getElem?_getD, List.getElem?_eq_getElem (by omega)]
      rfl
    rw [tmN, e, tmL]
    cases chn (D.getD m zP) with
    | none => rfl
    | some l =>
      dsimp only
      exact tmN_L (by omega)
theorem tA_1 {f : Po} {u v : Int} : tA [f] u v = 0 := by
  unfold tA
  show (if sAt [f] u v 0 * 0 < 0 then 0 + 1 else 0) = 0
  rw [if_neg (by rw [Int32.mul_zero]; decide)]
theorem fHo_1 {f : Po} {s : Fs} : ¬ 0 < fHo [f] s := by
  unfold fHo
  rw [tA_1, tA_1]
  decide
theorem chn_c {g : Po} (h : sz g = 1) (hB : PB 1000000 g) : ∃ f, chn g = some [f] := by
  have hd0 : sz (der (cln g)) = 0 := by rw [der_szz (by rw [cln_szz]; omega), cln_szz, h]
  have hft : fit g = true := fitN_iff.mpr (fun k hk => cln_PB hB k hk)
  have hcf : fit (up (cln g)) = true := by rw [fit_up, fit_cln]; exact hft
  have hf : fre g = some (cln (up (cln g))) := by
    unfold fre
    rw [if_pos hft, if_pos hd0]
    unfold cu
    rw [if_pos hcf]
  exact ⟨_, chn_1 hf (by rw [cln_szz, up_szz, cln_szz, h])⟩
theorem one_sz : sz oneP = 1 := sz_of (by decide) (fun k g1 g2 => by unfold oneP; rw [if_neg (by omega)]) (Or.inr (by decide))
theorem spN_c : ∀ {n : Nat} {d : Po}, sz d = 1 → ∃ t, spN n d = some t ∧ ∀ s c, tmL s t c = nI c
  | 0, _, _ => ⟨[], rfl, fun _ _ => rfl⟩
  | n + 1, d, h => by
    obtain ⟨t, ht, hm⟩ := spN_c (n := n) one_sz
    obtain ⟨f, hf⟩ := chn_c one_sz one_PB
    refine ⟨oneP :: t, by rw [spN, if_pos (by rw [der_szz (by omega), h]), ht]; rfl, fun s c => ?_⟩
    rw [tmL, hf]
    dsimp only
    rw [if_neg fHo_1]
    exact hm s c
theorem tm_same {s : Fs} : ∀ {n : Nat} {d : Po} {c m : Nat}, 1 < sz d → sz d ≤ n + 2 → sz d ≤ m + 1 → (match spN (n + 1) d with
    | none => (-3 : Int32)
    | some t => tmL s t c) = match com d (der d) with
    | none => -3
    | some g => tmR s m g c
  | n, d, c, m, h1, h2, h3 => by
    have hz := der_szz (p := d) (by omega)
    rw [spN, if_neg (by omega)]
    cases hg : com d (der d) with
    | none => rfl
    | some g =>
      dsimp only
      have hgl := com_le hg (by omega)
      have hgB := com_PB hg
      cases m with
      | zero => omega
      | succ m =>
        rw [tmR]
        by_cases e : sz g ≤ 1
        · rw [if_pos e]
          obtain ⟨t, ht, hm⟩ := spN_c (n := n) (d := g) (by omega)
          obtain ⟨f, hf⟩ := chn_c (g := g) (by omega) hgB
          rw [ht]
          show tmL s (g :: t) c = nI c
          rw [tmL, hf]
          dsimp only
          rw [if_neg fHo_1]
          exact hm s c
        · rw [if_neg e]
          cases n with
          | zero => omega
          | succ n =>
            cases hc : chn g with
            | none =>
              cases hu : spN (n + 1) g with
              | none => rfl
              | some t =>
                show tmL s (g :: t) c = -3
                rw [tmL, hc]
            | some l =>
              have ih := tm_same (s := s) (n := n) (d := g) (c := if 0 < fHo l s then c + 1 else c) (m := m) (by omega) (by omega) (by omega)
              dsimp only
              rw [← ih]
              cases hu : spN (n + 1) g with
              | none => rfl
              | some t =>
                show tmL s (g :: t) c = _
                rw [tmL, hc]
theorem spN_len : ∀ {n : Nat} {d : Po} {t : List Po}, spN n d = some t → t.length = n
  | 0, _, _, h => by rw [spN] at h; cases h; rfl
  | n + 1, d, t, h => by
    rw [spN] at h
    by_cases e : sz (der d) = 0
    · rw [if_pos e] at h
      cases hu : spN n oneP with
      | none => rw [hu] at h; cases h
      | some u =>
        rw [hu] at h
        cases h
        show u.length + 1 = n + 1
        rw [spN_len hu]
    · rw [if_neg e] at h
      cases hg : com d (der d) with
      | none => rw [hg] at h; cases h
      | some g =>
        rw [hg] at h
        dsimp only at h
        cases hu : spN n g with
        | none => rw [hu] at h; cases h
        | some u =>
          rw [hu] at h
          cases h
          show u.length + 1 = n + 1
          rw [spN_len hu]
/-- times, as the class goes, is times as the reference goes -/
theorem tm_eq {p : Po} {s : Fs} (hB : PB 1000000 p) (h1 : 1 < sz p) (h5 : sz p ≤ 5) : (match spl p with
    | none => (-3 : Int32)
    | some D => tmN D s 5 1 1) = match com p (der p) with
    | none => -3
    | some g => tmR s 5 g 1 := by
  have hft : fit p = true := fitN_iff.mpr (fun k hk => cln_PB hB k hk)
  have e : sz (up (cln p)) = sz p := by rw [up_szz, cln_szz]
  rw [← com_der h1, ← tm_same (n := 4) (by omega) (by omega) (by omega)]
  unfold spl
  rw [if_pos hft]
  cases hu : spN 5 (up (cln p)) with
  | none => rfl
  | some t =>
    show tmN ([up (cln p)] ++ t) s 5 1 1 = tmL s t 1
    rw [tmN_L (by rw [List.length_append, spN_len hu]; rfl)]
    rfl
/-- where there is a root, there is a degree -/
theorem hasR_sz {p : Po} {l : List Po} {k : Int32} (h : chn p = some l) (hB : PB 1000000 p) (h0 : 0 < sz p) (hk : hasR l k) : 1 < sz p := by
  rcases Nat.lt_or_ge 1 (sz p) with g | g
  · exact g
  · obtain ⟨f, hf⟩ := chn_c (g := p) (by omega) hB
    rw [h] at hf
    cases hf
    obtain ⟨g1, g2⟩ := hk
    have e : nI (tB [f]) - nI (tU [f]) = 0 := by
      show nI 0 - nI 0 = 0
      decide
    rw [e] at g2
    rw [i32le] at g1
    rw [i32lt] at g2
    omega
