/-! fences: narrowing goes on where it stopped (printed by wip/whole/t80.py) -/
/-- how often a fence was halved, at most 19 times -/
def eW (s : Fs) (e : Nat) : Prop := s.2.2.1 * 1024 = (s.2.1 - s.1) * ((2 ^ e : Nat) : Int)
theorem eW.le {s : Fs} {e : Nat} (h : eW s e) (hF : FI s) : e < 20 := by
  have hb := hF.b
  rcases Nat.lt_or_ge e 20 with g | g
  · exact g
  · exfalso
    have h20 : 2 ^ 20 ≤ 2 ^ e := Nat.pow_le_pow_right (by decide) g
    have h21 : (1 : Int) * ((2 ^ e : Nat) : Int) ≤ (s.2.1 - s.1) * ((2 ^ e : Nat) : Int) := Int.mul_le_mul_of_nonneg_right (by omega) (by omega)
    have h22 : (2 : Nat) ^ 20 = 1048576 := by decide
    unfold eW at h
    omega
theorem eW.st {l : List Po} {k : Int32} {s s' : Fs} {e : Nat} (h : eW s e) (hF : FI s) (hl : l.length ≤ 9) (hs : fhv l k s = some s') : eW s' (e + 1) := by
  have hb := hF.b
  obtain ⟨lo, hi, d, c2, M, hfv, hMe, hM2, f1, f2, f3, hc3, -⟩ := fhv_sc (l := l) (k := k) hF (c := 1) (by decide)
  rw [hfv] at hs
  obtain ⟨-, e1, -, -, e4⟩ := fh2_FI hs hl hF.2.2.1 hF.2.2.2
  rw [hMe] at e4
  obtain ⟨-, w1, w2⟩ := fe_st (c := 1) (by decide) hc3 f1 f2 f3 hM2 h (by omega)
  unfold eW
  rcases e4 with ⟨e5, e6⟩ | ⟨e5, e6⟩
  · rw [e1, e5, e6]; exact w1
  · rw [e1, e5, e6]; exact w2
theorem fnN_fuel {l : List Po} {k : Int32} {t : Nat} (hl : l.length ≤ 9) : ∀ {f g e : Nat} {s : Fs}, FI s → eW s e → 20 ≤ f + e → 20 ≤ g + e → fnN l k t f s = fnN l k t g s
  | 0, _, e, s, hF, he, hf, _ => absurd (he.le hF) (by omega)
  | _ + 1, 0, e, s, hF, he, _, hg => absurd (he.le hF) (by omega)
  | f + 1, g + 1, e, s, hF, he, hf, hg => by
    rw [fnN, fnN]
    by_cases z : fOk t s
    · rw [if_pos z, if_pos z]
    · rw [if_neg z, if_neg z]
      cases hs : fhv l k s with
      | none => rfl
      | some s' =>
        dsimp only
        exact fnN_fuel hl (fhv_FI hs hl hF) (he.st hF hl hs) (by omega) (by omega)
theorem fOk_mono {s : Fs} {t u : Nat} (hF : FI s) (htu : t ≤ u) (h : fOk u s) : fOk t s := by
  have hb := hF.b
  refine ⟨h.1, ?_⟩
  have h2 := h.2
  have hp : ((2 ^ t : Nat) : Int) ≤ ((2 ^ u : Nat) : Int) := Int.ofNat_le.mpr (Nat.pow_le_pow_right (by decide) htu)
  have := Int.mul_le_mul_of_nonneg_left (a := ((2 ^ t : Nat) : Int)) (b := ((2 ^ u : Nat) : Int)) (c := s.2.1 - s.1) hp (by omega)
  exact Int.le_trans this h2
theorem fnN_none {l : List Po} {k : Int32} {t u : Nat} (hl : l.length ≤ 9) (htu : t ≤ u) : ∀ {f : Nat} {s : Fs}, FI s → fnN l k t f s = none → fnN l k u f s = none
  | 0, _, _, _ => rfl
  | f + 1, s, hF, h => by
    rw [fnN] at h ⊢
    by_cases z : fOk t s
    · rw [if_pos z] at h
      cases h
    · rw [if_neg z] at h
      rw [if_neg (fun y => z (fOk_mono hF htu y))]
      cases hs : fhv l k s with
      | none => rfl
      | some s' =>
        rw [hs] at h
        dsimp only at h ⊢
        exact fnN_none hl htu (fhv_FI hs hl hF) h
theorem fnN_on {l : List Po} {k : Int32} {t u : Nat} (hl : l.length ≤ 9) (htu : t ≤ u) : ∀ {f e : Nat} {s s' : Fs}, FI s → eW s e → 20 ≤ f + e → fnN l k t f s = some s' → fnN l k u 100 s' = fnN l k u f s
  | 0, e, s, s', hF, he, hf, h => absurd (he.le hF) (by omega)
  | f + 1, e, s, s', hF, he, hf, h => by
    rw [fnN] at h
    by_cases z : fOk t s
    · rw [if_pos z] at h
      cases h
      exact fnN_fuel hl hF he (by omega) hf
    · rw [if_neg z] at h
      have hu : ∀ s1, fhv l k s = some s1 → fnN l k u (f + 1) s = fnN l k u f s1 := fun s1 y => by
        rw [fnN, if_neg (fun y => z (fOk_mono hF htu y)), y]
      cases hs : fhv l k s with
      | none => rw [hs] at h; cases h
      | some s1 =>
        rw [hs] at h
        dsimp only at h
        rw [hu s1 hs]
        exact fnN_on hl htu (fhv_FI hs hl hF) (he.st hF hl hs) (by omega) h
theorem fs0_eW {l : List Po} (h : ¬ rch l = 0) : ∃ e, eW (fs0 l) e := by
  rcases rch_pow l with z | ⟨e, he, hr⟩
  · exact absurd z h
  · have hpw : ∀ e, e ≤ 9 → (1 : Int) * 1024 = (((2 ^ e : Nat) : Int) - -((2 ^ e : Nat) : Int)) * ((2 ^ (9 - e) : Nat) : Int) := by decide
    refine ⟨9 - e, ?_⟩
    show (1 : Int) * 1024 = ((rch l : Int) - -(rch l : Int)) * ((2 ^ (9 - e) : Nat) : Int)
    rw [hr]
    exact hpw e he
/-- from the fence for t on to the one for u -/
theorem fnc_on {l : List Po} {k : Int32} {t u : Nat} {s : Fs} (hl : l.length ≤ 9) (htu : t ≤ u) (h : fnc l k t = some s) : fnN l k u 100 s = fnc l k u := by
  unfold fnc at h ⊢
  by_cases z : rch l = 0
  · rw [if_pos z] at h; cases h
  · rw [if_neg z] at h ⊢
    obtain ⟨e, he⟩ := fs0_eW z
    exact fnN_on hl htu (fs0_FI hl z) he (by omega) h
theorem fnc_none {l : List Po} {k : Int32} {t u : Nat} (hl : l.length ≤ 9) (htu : t ≤ u) (h : fnc l k t = none) : fnc l k u = none := by
  unfold fnc at h ⊢
  by_cases z : rch l = 0
  · rw [if_pos z]
  · rw [if_neg z] at h ⊢
    exact fnN_none hl htu (fs0_FI hl z) h
