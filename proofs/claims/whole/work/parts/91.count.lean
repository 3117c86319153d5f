/-! fences' ends are points; no count is below 0 (printed by wip/whole/t91.py) -/
/-- Sturm -/
theorem tA_mono {p : Po} {l : List Po} {u v t s : Int} (h : chn p = some l) (h0 : 0 < sz p) (h5 : sz p ≤ 5) (hu : -1000 ≤ u ∧ u ≤ 1000) (hv : 1 ≤ v ∧ v ≤ 1000) (ht : -1000 ≤ t ∧ t ≤ 1000) (hs : 1 ≤ s ∧ s ≤ 1000) (hlt : u * s < t * v) : tA l t s ≤ tA l u v := tA_monoP h h0 h5 hu hv ht hs hlt
def FP (s : Fs) : Prop := (-1000 ≤ fbU s ∧ fbU s ≤ 1000) ∧ -1000 ≤ feU s ∧ feU s ≤ 1000
theorem fh2_FP {l : List Po} {k : Int32} {lo hi d : Int} {tl th : Nat} {s' : Fs} (h : fh2 l k lo hi d tl th = some s') (hl : l.length ≤ 9) (htl : tl ≤ 10) (hth : th ≤ 10) (h1 : -1000 ≤ ptU lo d ∧ ptU lo d ≤ 1000) (h2 : -1000 ≤ ptU hi d ∧ ptU hi d ≤ 1000) (h3 : -600000 ≤ (lo + hi).tdiv 2 ∧ (lo + hi).tdiv 2 ≤ 600000) : FP s' := by
  obtain ⟨⟨g1, g2⟩, e1, -, -, e4⟩ := fh2_FI h hl htl hth
  have h4 := ptU_le (a := (lo + hi).tdiv 2) (d := d)
  rw [iI_t (by omega)] at g1
  unfold FP
  show (-1000 ≤ ptU s'.1 s'.2.2.1 ∧ ptU s'.1 s'.2.2.1 ≤ 1000) ∧ -1000 ≤ ptU s'.2.1 s'.2.2.1 ∧ ptU s'.2.1 s'.2.2.1 ≤ 1000
  rw [e1]
  rcases e4 with ⟨a, b⟩ | ⟨a, b⟩
  · rw [a, b]
    exact ⟨h1, g1⟩
  · rw [a, b]
    exact ⟨g1, h2⟩
theorem fhv_FP {l : List Po} {k : Int32} {s s' : Fs} (h : fhv l k s = some s') (hl : l.length ≤ 9) (hI : FI s) (hP : FP s) : FP s' := by
  have hb := hI.b
  have hM : ∀ x : Int, -1200000 ≤ x → x ≤ 1200000 → -600000 ≤ x.tdiv 2 ∧ x.tdiv 2 ≤ 600000 := fun x a b => by
    have h5 : (x.tdiv 2).natAbs = x.natAbs / 2 := Int.natAbs_tdiv _ _
    omega
  obtain ⟨p1, p2⟩ := hP
  have p1 : -1000 ≤ ptU s.1 s.2.2.1 ∧ ptU s.1 s.2.2.1 ≤ 1000 := p1
  have p2 : -1000 ≤ ptU s.2.1 s.2.2.1 ∧ ptU s.2.1 s.2.2.1 ≤ 1000 := p2
  unfold fhv at h
  split at h
  · exact fh2_FP h hl hI.2.2.1 hI.2.2.2 p1 p2 (hM _ (by omega) (by omega))
  · refine fh2_FP h hl hI.2.2.1 hI.2.2.2 ?_ ?_ (hM _ (by omega) (by omega))
    · rw [Int.mul_comm s.1, Int.mul_comm s.2.2.1, show ptU (2 * s.1) (2 * s.2.2.1) = ptU s.1 s.2.2.1 from ptU_sc (by decide)]
      exact p1
    · rw [Int.mul_comm s.2.1, Int.mul_comm s.2.2.1, show ptU (2 * s.2.1) (2 * s.2.2.1) = ptU s.2.1 s.2.2.1 from ptU_sc (by decide)]
      exact p2
theorem fnN_FP {l : List Po} {k : Int32} {t : Nat} : ∀ {f : Nat} {s s' : Fs}, fnN l k t f s = some s' → l.length ≤ 9 → FI s → FP s → FP s'
  | 0, _, _, h, _, _, _ => by cases h
  | f + 1, s, s', h, hl, hI, hP => by
    rw [fnN] at h
    split at h
    · cases h; exact hP
    · split at h
      · cases h
      · rename_i e
        exact fnN_FP h hl (fhv_FI e hl hI) (fhv_FP e hl hI hP)
theorem gd_1 {a : Int} : gd a 1 = 1 := by
  unfold gd
  show ((Nat.gcd a.natAbs 1 : Nat) : Int) = 1
  rw [Nat.gcd_one_right]
  rfl
theorem fnc_FP {l : List Po} {k : Int32} {t : Nat} {s : Fs} (h : fnc l k t = some s) (hl : l.length ≤ 9) : FP s := by
  unfold fnc at h
  split at h
  · cases h
  · rename_i g
    refine fnN_FP h hl (fs0_FI hl g) ?_
    rcases rch_pow l with z | ⟨e, he, hr⟩
    · exact absurd z g
    · have h3 := p2_9 e he
      show (-1000 ≤ (-(rch l : Int)).tdiv (gd (-(rch l : Int)) 1) ∧ (-(rch l : Int)).tdiv (gd (-(rch l : Int)) 1) ≤ 1000) ∧ -1000 ≤ (rch l : Int).tdiv (gd (rch l : Int) 1) ∧ (rch l : Int).tdiv (gd (rch l : Int) 1) ≤ 1000
      rw [gd_1, gd_1, Int.tdiv_one, Int.tdiv_one, hr]
      generalize 2 ^ e = A at *
      omega
theorem pt_gd {a d : Int} : ptU a d * gd a d = a ∧ ptV a d * gd a d = d := by
  unfold ptU ptV
  exact ⟨Int.tdiv_mul_cancel (by unfold gd; exact Int.ofNat_dvd_left.mpr (Nat.gcd_dvd_left _ _)), Int.tdiv_mul_cancel (by unfold gd; exact Int.ofNat_dvd_left.mpr (Nat.gcd_dvd_right _ _))⟩
theorem pt_lt {s : Fs} (hI : FI s) : fbU s * feV s < feU s * fbV s := by
  have hb := hI.b
  obtain ⟨a1, a2⟩ := pt_gd (a := s.1) (d := s.2.2.1)
  obtain ⟨b1, b2⟩ := pt_gd (a := s.2.1) (d := s.2.2.1)
  have g1 := gd_pos (a := s.1) (d := s.2.2.1) (by omega)
  have g2 := gd_pos (a := s.2.1) (d := s.2.2.1) (by omega)
  show ptU s.1 s.2.2.1 * ptV s.2.1 s.2.2.1 < ptU s.2.1 s.2.2.1 * ptV s.1 s.2.2.1
  generalize ptU s.1 s.2.2.1 = U1 at *
  generalize ptV s.1 s.2.2.1 = V1 at *
  generalize ptU s.2.1 s.2.2.1 = U2 at *
  generalize ptV s.2.1 s.2.2.1 = V2 at *
  generalize gd s.1 s.2.2.1 = G1 at *
  generalize gd s.2.1 s.2.2.1 = G2 at *
  have hd : s.1 * s.2.2.1 < s.2.1 * s.2.2.1 := Int.mul_lt_mul_of_pos_right (by omega) (by omega)
  have e1 : s.1 * s.2.2.1 = U1 * V2 * (G1 * G2) := by
    rw [← a1, ← b2]
    grind
  have e2 : s.2.1 * s.2.2.1 = U2 * V1 * (G1 * G2) := by
    rw [← b1, ← a2]
    grind
  rw [e1, e2] at hd
  exact Int.lt_of_mul_lt_mul_right hd (Int.le_of_lt (Int.mul_pos g1 g2))
theorem fHo_nn {p : Po} {l : List Po} {s : Fs} (h : chn p = some l) (h0 : 0 < sz p) (h5 : sz p ≤ 5) (hl : l.length ≤ 9) (hI : FI s) (hP : FP s) : 0 ≤ fHo l s := by
  obtain ⟨⟨-, b1⟩, -, b2⟩ := pt_b hI
  have hm := tA_mono (l := l) h h0 h5 hP.1 (by omega) hP.2 (by omega) (pt_lt hI)
  have l1 := tA_le l (fbU s) (fbV s)
  have l2 := tA_le l (feU s) (feV s)
  rw [i32le]
  unfold fHo
  rw [nI_sub_t _ (by omega) _ (by omega), show (0 : Int32).toInt = 0 from rfl]
  omega
/-- from one fence on to a narrower one -/
theorem fnc_from {l : List Po} {k : Int32} {t t0 : Nat} {s : Fs} (hl : l.length ≤ 9) (ht : t0 ≤ t) (h : fnc l k t0 = some s) : fnN l k t 100 s = fnc l k t := fnc_on hl ht h
