/-! fences: how they are found (printed by wip/whole/t45.py) -/
/-- what a fence always is: a power of 2 wide, or 1 of parts that are a power of 2 -/
def FI (s : Fs) : Prop := (∃ j i : Nat, ((j ≤ 10 ∧ i = 0) ∨ (j = 0 ∧ i ≤ 9)) ∧ s.2.1 - s.1 = ((2 ^ j : Nat) : Int) ∧ s.2.2.1 = ((2 ^ i : Nat) : Int)) ∧ (-512 * s.2.2.1 ≤ s.1 ∧ s.2.1 ≤ 512 * s.2.2.1) ∧ s.2.2.2.1 ≤ 10 ∧ s.2.2.2.2 ≤ 10
theorem p2_10 : ∀ j, j ≤ 10 → 1 ≤ 2 ^ j ∧ 2 ^ j ≤ 1024 := by decide
theorem p2_9 : ∀ j, j ≤ 9 → 1 ≤ 2 ^ j ∧ 2 ^ j ≤ 512 := by decide
theorem FI.b {s : Fs} (h : FI s) : (1 ≤ s.2.2.1 ∧ s.2.2.1 ≤ 512) ∧ (1 ≤ s.2.1 - s.1 ∧ s.2.1 - s.1 ≤ 1024) ∧ (-300000 ≤ s.1 ∧ s.1 ≤ 300000) ∧ -300000 ≤ s.2.1 ∧ s.2.1 ≤ 300000 := by
  obtain ⟨⟨j, i, hj, hw, hd⟩, h2, h3⟩ := h
  have h1 : 1 ≤ 2 ^ i ∧ 2 ^ i ≤ 512 := p2_9 i (by omega)
  have h4 : 1 ≤ 2 ^ j ∧ 2 ^ j ≤ 1024 := p2_10 j (by omega)
  generalize 2 ^ i = A at *
  generalize 2 ^ j = B at *
  omega
theorem FI.fb {s : Fs} (h : FI s) : FsB s := by
  have := h.b
  exact ⟨by omega, by omega, by omega, by omega⟩
theorem gd_odd {a : Int} {i : Nat} (h : a.natAbs % 2 = 1) : gd a ((2 ^ i : Nat) : Int) = 1 := by
  unfold gd
  rw [Int.natAbs_natCast]
  have h1 : Nat.Coprime a.natAbs 2 := by
    rw [Nat.coprime_comm]
    show Nat.gcd 2 a.natAbs = 1
    rw [Nat.gcd_rec, h]
    rfl
  have h2 : Nat.gcd a.natAbs (2 ^ i) = 1 := Nat.Coprime.pow_right i h1
  rw [h2]; rfl
theorem ptV_odd {a : Int} {i : Nat} (h : a.natAbs % 2 = 1) : ptV a ((2 ^ i : Nat) : Int) = ((2 ^ i : Nat) : Int) := by
  unfold ptV
  rw [gd_odd h, Int.tdiv_one]
theorem tdiv_two {a : Int} : (2 * a).tdiv 2 = a := by
  rw [Int.mul_comm]
  exact Int.mul_tdiv_cancel a (by decide)
theorem fh2_FI {l : List Po} {k : Int32} {lo hi d : Int} {tl th : Nat} {s' : Fs} (h : fh2 l k lo hi d tl th = some s') (hl : l.length ≤ 9) (htl : tl ≤ 10) (hth : th ≤ 10) : isPt (iI (ptU ((lo + hi).tdiv 2) d)) (iI (ptV ((lo + hi).tdiv 2) d)) ∧ s'.2.2.1 = d ∧ s'.2.2.2.1 ≤ 10 ∧ s'.2.2.2.2 ≤ 10 ∧ ((s'.1 = lo ∧ s'.2.1 = (lo + hi).tdiv 2) ∨ (s'.1 = (lo + hi).tdiv 2 ∧ s'.2.1 = hi)) := by
  have ht := fun u v => tA_le l u v
  unfold fh2 at h
  split at h
  · rename_i g
    split at h
    · cases h
      exact ⟨g, rfl, htl, Nat.le_trans (ht _ _) (by omega), Or.inl ⟨rfl, rfl⟩⟩
    · cases h
      exact ⟨g, rfl, Nat.le_trans (ht _ _) (by omega), hth, Or.inr ⟨rfl, rfl⟩⟩
  · cases h
theorem fhv_FI {l : List Po} {k : Int32} {s s' : Fs} (h : fhv l k s = some s') (hl : l.length ≤ 9) (hI : FI s) : FI s' := by
  obtain ⟨lo, hi, d, tl, th⟩ := s
  obtain ⟨⟨j, i, hj, hw, hd⟩, ⟨h2, h2'⟩, h3, h4⟩ := hI
  dsimp only at hw hd h2 h2' h3 h4
  unfold fhv at h
  dsimp only at h
  split at h
  · rename_i g
    have hm := fh2_FI h hl h3 h4
    obtain ⟨-, e1, e2, e3, e4⟩ := hm
    cases j with
    | zero =>
      rw [hw] at g
      exact absurd g (by decide)
    | succ j =>
      have ei : i = 0 := by omega
      subst ei
      have em : (lo + hi).tdiv 2 = lo + ((2 ^ j : Nat) : Int) := by
        have e : lo + hi = 2 * (lo + ((2 ^ j : Nat) : Int)) := by
          rw [Nat.pow_succ] at hw
          generalize 2 ^ j = B at *
          omega
        rw [e, tdiv_two]
      have hp := p2_10 j (by omega)
      rw [Nat.pow_succ] at hw
      rw [em] at e4
      refine ⟨⟨j, 0, Or.inl ⟨by omega, rfl⟩, ?_, ?_⟩, ?_, e2, e3⟩
      · generalize 2 ^ j = B at *
        omega
      · rw [e1, hd]
      · rw [e1]
        generalize 2 ^ j = B at *
        have hd1 : d = 1 := hd
        omega
  · rename_i g
    have hm := fh2_FI h hl h3 h4
    obtain ⟨e0, e1, e2, e3, e4⟩ := hm
    cases j with
    | succ j =>
      refine absurd ?_ g
      rw [hw, Nat.pow_succ, Nat.mul_comm, Int.natCast_mul]
      exact Int.mul_tmod_right _ _
    | zero =>
      have hw1 : hi - lo = 1 := hw
      have em : (lo * 2 + hi * 2).tdiv 2 = 2 * lo + 1 := by
        have e : lo * 2 + hi * 2 = 2 * (2 * lo + 1) := by omega
        rw [e, tdiv_two]
      rw [em] at e0 e4
      have hi9 : i ≤ 9 := by omega
      have hdd : d * 2 = ((2 ^ (i + 1) : Nat) : Int) := by
        rw [Nat.pow_succ]
        generalize 2 ^ i = A at *
        omega
      rw [hdd, ptV_odd (by omega)] at e0
      have hi8 : i + 1 ≤ 9 := by
        rcases Nat.lt_or_ge i 9 with q | q
        · omega
        · have : i = 9 := by omega
          subst this
          exact absurd e0.2.2 (by decide)
      refine ⟨⟨0, i + 1, Or.inr ⟨rfl, hi8⟩, ?_, ?_⟩, ?_, e2, e3⟩
      · show s'.2.1 - s'.1 = 1
        omega
      · rw [e1, hdd]
      · rw [e1]
        omega
theorem fnN_FI {l : List Po} {k : Int32} {t : Nat} : ∀ {f : Nat} {s s' : Fs}, fnN l k t f s = some s' → l.length ≤ 9 → FI s → FI s'
  | 0, _, _, h, _, _ => by cases h
  | f + 1, s, s', h, hl, hI => by
    rw [fnN] at h
    split at h
    · cases h; exact hI
    · split at h
      · cases h
      · rename_i e
        exact fnN_FI h hl (fhv_FI e hl hI)
theorem rcF_pow (l : List Po) : ∀ {n m e : Nat}, m = 2 ^ e → e + n = 10 → rcF l n m = 0 ∨ ∃ e, e ≤ 9 ∧ rcF l n m = 2 ^ e
  | 0, _, _, _, _ => Or.inl rfl
  | n + 1, m, e, hm, he => by
    rw [rcF]
    split
    · exact Or.inr ⟨e, by omega, hm⟩
    · exact rcF_pow l (n := n) (m := m * 2) (e := e + 1) (by rw [hm, Nat.pow_succ]) (by omega)
theorem rch_pow (l : List Po) : rch l = 0 ∨ ∃ e, e ≤ 9 ∧ rch l = 2 ^ e := rcF_pow l (e := 0) rfl rfl
/-- where a fence begins -/
def fs0 (l : List Po) : Fs := (-(rch l : Int), (rch l : Int), 1, tB l, tU l)
/-- FENCE of the k-th root by t -/
def fnc (l : List Po) (k : Int32) (t : Nat) : Option Fs := if rch l = 0 then none else fnN l k t 100 (fs0 l)
theorem fs0_FI {l : List Po} (hl : l.length ≤ 9) (h : ¬ rch l = 0) : FI (fs0 l) := by
  rcases rch_pow l with g | ⟨e, he, g⟩
  · exact absurd g h
  · have h1 := tB_le l
    have h2 := tU_le l
    have h3 := p2_9 e he
    unfold fs0
    rw [g]
    refine ⟨⟨e + 1, 0, Or.inl ⟨by omega, rfl⟩, ?_, rfl⟩, ⟨?_, ?_⟩, by show tB l ≤ 10; omega, by show tU l ≤ 10; omega⟩
    · show ((2 ^ e : Nat) : Int) - -((2 ^ e : Nat) : Int) = _
      rw [Nat.pow_succ]
      generalize 2 ^ e = A at *
      omega
    · show -512 * (1 : Int) ≤ -((2 ^ e : Nat) : Int)
      generalize 2 ^ e = A at *
      omega
    · show ((2 ^ e : Nat) : Int) ≤ 512 * (1 : Int)
      generalize 2 ^ e = A at *
      omega
theorem fnc_FI {l : List Po} {k : Int32} {t : Nat} {s : Fs} (h : fnc l k t = some s) (hl : l.length ≤ 9) : FI s := by
  unfold fnc at h
  split at h
  · cases h
  · rename_i g
    exact fnN_FI h hl (fs0_FI hl g)
/-- where it begins and ends, in lowest terms -/
abbrev fbU (s : Fs) : Int := ptU s.1 s.2.2.1
abbrev fbV (s : Fs) : Int := ptV s.1 s.2.2.1
abbrev feU (s : Fs) : Int := ptU s.2.1 s.2.2.1
abbrev feV (s : Fs) : Int := ptV s.2.1 s.2.2.1
theorem ptV_b {a d : Int} (h1 : 1 ≤ d) (h2 : d ≤ 512) : 1 ≤ ptV a d ∧ ptV a d ≤ 512 := by
  have g1 := gd_pos (a := a) (d := d) (by omega)
  have g2 : gd a d ∣ d := by
    unfold gd
    have := Nat.gcd_dvd_right a.natAbs d.natAbs
    exact Int.ofNat_dvd_left.mpr this
  unfold ptV
  have e := Int.tdiv_mul_cancel g2
  have h3 : 0 < d.tdiv (gd a d) * gd a d := by omega
  have h4 : 0 < d.tdiv (gd a d) := Int.pos_of_mul_pos_left h3 g1
  have h5 : (d.tdiv (gd a d)).natAbs = d.natAbs / (gd a d).natAbs := Int.natAbs_tdiv _ _
  have h6 := Nat.div_le_self d.natAbs (gd a d).natAbs
  omega
theorem n64 : ∀ r, r < 1000 → (-nI r).toInt64 = oI (-(r : Int)) := neg64
section NARROW
variable {L : Nat} {I : amI} {J : amJ} {R : amR} {Q : amQ} {x y k h t f rd : Nat} {a d lo hi : Int} {tl tn : Nat} {l m : List Po} {s : Fs}
theorem f_nar0 {k : Int32} (hr : rd ≤ 100) (hQ : Q (some (.int 0)) I J R) : Ex 62 6 [some (.ref x), some (.ref h), some (.int k), some (.int (nI t)), some (.int 0), some (.int (nI rd))] [] (amSH L) I J R Q := by
  refine LI5 e62_6 ?_
  refine Ki e62_8 kbipush_100 ?_
  refine CN_ge (a := rd) (b := 100) e62_10 t62_10 rfl (by decide) (by omega) (by omega) (fun h10 => ?_) (fun h10 => ?_)
  · refine Ki e62_66 kiconst_0 ?_
    exact Rz e62_67 rt62 (by decide) (hQ)
  · refine LI4 e62_13 ?_
    refine B_eq e62_15 t62_15 (fun _ => ?_) (fun q => absurd (rfl) q)
    refine Ki e62_66 kiconst_0 ?_
    exact Rz e62_67 rt62 (by decide) (hQ)
set_option maxHeartbeats 2000000 in
theorem f_nar {k : Int32} (hx : FX x) (hh : CH h) (hR : amRok R) (hZ : LZ l) (ht : t ≤ 9) : ∀ (f rd : Nat) (s : Fs) (I : amI) (J : amJ), rd + f = 100 → CI I J h l → FI s → FSm I J x s → Ex 62 6 [some (.ref x), some (.ref h), some (.int k), some (.int (nI t)), some (.int 1), some (.int (nI rd))] [] (amSH L) I J R (fun v I' J' R' => HvP I J R x (fnN l k t f s) v I' J' R') := by
  intro f
  induction f with
  | zero =>
    intro rd s I J hr hI hF hM
    refine LI5 e62_6 ?_
    refine Ki e62_8 kbipush_100 ?_
    refine CN_ge (a := rd) (b := 100) e62_10 t62_10 rfl (by decide) (by omega) (by omega) (fun _ => ?_) (fun q => by omega)
    refine Ki e62_66 kiconst_0 ?_
    exact Rz e62_67 rt62 (by decide) (⟨rfl, FrI.rf, Fr.rf, Or.inr ⟨rfl, rfl⟩⟩)
  | succ f ih =>
    intro rd s I J hr hI hF hM
    have hb := hF.b
    have hp := p2_9 t ht
    have hpr : iB ((s.2.1 - s.1) * ((2 ^ t : Nat) : Int)) := by
      have := mul_b (x := s.2.1 - s.1) (y := ((2 ^ t : Nat) : Int)) (B := 1024) (C := 512) (by omega) (by omega)
      exact ⟨by omega, by omega⟩
    obtain ⟨m0, m1, m2, m3, m4⟩ := id hM
    rw [fnN]
    refine LI5 e62_6 ?_
    refine Ki e62_8 kbipush_100 ?_
    refine CN_ge (a := rd) (b := 100) e62_10 t62_10 rfl (by decide) (by omega) (by omega) (fun q => absurd q (by omega)) (fun _ => ?_)
    refine LI4 e62_13 ?_
    refine B_eq e62_15 t62_15 (fun q => absurd q (by decide)) (fun _ => ?_)
    refine LA0 e62_18 ?_
    refine Gi e62_19 hx.o (amGi_of f131 (by decide)) ?_
    rw [m3]
    refine LA0 e62_22 ?_
    refine Gi e62_23 hx.o (amGi_of f132 (by decide)) ?_
    rw [m4]
    refine Isub e62_26 ?_
    refine Ki e62_27 kiconst_1 ?_
    refine C_gt e62_28 t62_28 (fun h28 => ?_) (fun h28 => ?_)
    · refine LA0 e62_52 ?_
      refine LA1 e62_53 ?_
      refine LI2 e62_54 ?_
      refine Cv2p e62_55 c62_63 hx.o (Nat.le_of_ble_eq_true rfl) (Nat.le_of_ble_eq_true rfl) (f_halve hx hh hR hI hZ hF.fb hM) ?_
      rintro v I1 J1 R1 ⟨hR1, hF1, hF2, hD⟩
      subst hR1
      rcases hD with ⟨s', hE, rfl, hM1⟩ | ⟨hE, rfl⟩
      · rw [if_neg (fun z => z.1 h28), hE]
        refine SI4 e62_58 rfl ?_
        refine IncN5 (m := rd) e62_60 rfl ?_
        refine Go e62_63 t62_63 ?_
        exact (ih (rd + 1) s' _ _ (by omega) (hI.fx hh hx hF1 hF2) (fhv_FI hE hI.2.2.2.1 hF) hM1).mono (fun v I' J' R' q => q.tr hF1 hF2)
      · rw [if_neg (fun z => z.1 h28), hE]
        refine SI4 e62_58 rfl ?_
        refine IncN5 (m := rd) e62_60 rfl ?_
        refine Go e62_63 t62_63 ?_
        exact f_nar0 (by omega) ⟨rfl, hF1, hF2, Or.inr ⟨rfl, rfl⟩⟩
    · refine LA0 e62_31 ?_
      refine Gj e62_32 hx.o f129 ?_
      refine LA0 e62_35 ?_
      refine Gj e62_36 hx.o f128 ?_
      refine Lsub e62_39 ?_
      rw [m0, m1, oI_sub]
      refine LI3 e62_40 ?_
      refine Lshl e62_41 ?_
      rw [shl_mul (by omega), oI_mul]
      refine LA0 e62_42 ?_
      refine Gj e62_43 hx.o f130 ?_
      rw [m2]
      refine D_gt e62_46 e62_47 t62_47 (fun h46 => ?_) (fun h46 => ?_)
      · refine LA0 e62_52 ?_
        refine LA1 e62_53 ?_
        refine LI2 e62_54 ?_
        refine Cv2p e62_55 c62_63 hx.o (Nat.le_of_ble_eq_true rfl) (Nat.le_of_ble_eq_true rfl) (f_halve hx hh hR hI hZ hF.fb hM) ?_
        rintro v I1 J1 R1 ⟨hR1, hF1, hF2, hD⟩
        subst hR1
        rcases hD with ⟨s', hE, rfl, hM1⟩ | ⟨hE, rfl⟩
        · rw [if_neg (fun z => by rw [oI_lt ⟨by omega, by omega⟩ hpr] at h46; have := z.2; omega), hE]
          refine SI4 e62_58 rfl ?_
          refine IncN5 (m := rd) e62_60 rfl ?_
          refine Go e62_63 t62_63 ?_
          exact (ih (rd + 1) s' _ _ (by omega) (hI.fx hh hx hF1 hF2) (fhv_FI hE hI.2.2.2.1 hF) hM1).mono (fun v I' J' R' q => q.tr hF1 hF2)
        · rw [if_neg (fun z => by rw [oI_lt ⟨by omega, by omega⟩ hpr] at h46; have := z.2; omega), hE]
          refine SI4 e62_58 rfl ?_
          refine IncN5 (m := rd) e62_60 rfl ?_
          refine Go e62_63 t62_63 ?_
          exact f_nar0 (by omega) ⟨rfl, hF1, hF2, Or.inr ⟨rfl, rfl⟩⟩
      · refine Ki e62_50 kiconst_1 ?_
        exact Rz e62_51 rt62 (by decide) (by
        have ok : fOk t s := ⟨h28, by rw [oI_lt ⟨by omega, by omega⟩ hpr] at h46; omega⟩
        rw [if_pos ok]
        exact ⟨rfl, FrI.rf, Fr.rf, Or.inl ⟨_, rfl, rfl, hM⟩⟩)
set_option maxHeartbeats 2000000 in
theorem f_narrow {k : Int32} (hx : FX x) (hh : CH h) (hR : amRok R) (hI : CI I J h l) (hZ : LZ l) (ht : t ≤ 9) (hF : FI s) (hM : FSm I J x s) : Cl 62 [.ref x, .ref h, .int k, .int (nI t)] (amSH L) I J R (fun v I' J' R' => HvP I J R x (fnN l k t 100 s) v I' J' R') := by
  show Ex 62 0 [some (.ref x), some (.ref h), some (.int k), some (.int (nI t)), none, none] [] (amSH L) I J R _
  refine Ki e62_0 kiconst_1 ?_
  refine SI4 e62_1 rfl ?_
  refine Ki e62_3 kiconst_0 ?_
  refine SI5 e62_4 rfl ?_
  exact f_nar hx hh hR hZ ht 100 0 s _ _ rfl hI hF hM
set_option maxHeartbeats 2000000 in
theorem f_find {k : Int32} (hx : FX x) (hh : CH h) (hR : amRok R) (hI : CI I J h l) (hZ : LZ l) (ht : t ≤ 9) : Cl 61 [.ref x, .ref h, .int k, .int (nI t)] (amSH L) I J R (fun v I' J' R' => HvP I J R x (fnc l k t) v I' J' R') := by
  have hr := rcF_le l (n := 10) (m := 1) rfl
  have hr2 : rch l ≤ 512 := hr
  unfold fnc
  show Ex 61 0 [some (.ref x), some (.ref h), some (.int k), some (.int (nI t)), none] [] (amSH L) I J R _
  refine LA1 e61_0 ?_
  refine Cv0 e61_1 c61_42 hh.o (Nat.le_of_ble_eq_true rfl) (Nat.le_of_ble_eq_true rfl) ((h_reach hh hR hI hZ)) ?_
  refine SI4 e61_4 rfl ?_
  refine LA0 e61_6 ?_
  refine LI4 e61_7 ?_
  refine Ineg e61_9 ?_
  refine I2l e61_10 ?_
  refine Pj e61_11 hx.o f128 ?_
  refine LA0 e61_14 ?_
  refine LI4 e61_15 ?_
  refine I2l e61_17 ?_
  refine Pj e61_18 hx.o f129 ?_
  refine LA0 e61_21 ?_
  refine K1 e61_22 ?_
  refine Pj e61_23 hx.o f130 ?_
  refine LA0 e61_26 ?_
  refine LA1 e61_27 ?_
  refine Cv0 e61_28 c61_37 hh.o (Nat.le_of_ble_eq_true rfl) (Nat.le_of_ble_eq_true rfl) ((h_bel hh (hI.fx hh hx FrI.rf (Fr.up (Fr.up (Fr.up Fr.rf)))))) ?_
  refine Pi e61_31 hx.o f131 ?_
  refine LA0 e61_34 ?_
  refine LA1 e61_35 ?_
  refine Cv0 e61_36 c61_38 hh.o (Nat.le_of_ble_eq_true rfl) (Nat.le_of_ble_eq_true rfl) ((h_abo hh (hI.fx hh hx (FrI.up FrI.rf) (Fr.up (Fr.up (Fr.up Fr.rf)))))) ?_
  refine Pi e61_39 hx.o f132 ?_
  refine LI4 e61_42 ?_
  obtain ⟨I5, eI5⟩ : ∃ z, z = amU (amU I x 3 (nI (tB l))) x 4 (nI (tU l)) := ⟨_, rfl⟩
  obtain ⟨J5, eJ5⟩ : ∃ z, z = amU (amU (amU J x 0 ((-(nI (rch l))).toInt64)) x 1 ((nI (rch l)).toInt64)) x 2 1 := ⟨_, rfl⟩
  have hf5 : FrI x I I5 := by rw [eI5]; exact (FrI.up (FrI.up FrI.rf))
  have hj5 : Fr J J5 x := by rw [eJ5]; exact (Fr.up (Fr.up (Fr.up Fr.rf)))
  have hM5 : FSm I5 J5 x (fs0 l) := by
    rw [eI5, eJ5]
    exact ⟨by rw [amU_ni (by decide), amU_ni (by decide), amU_same, n64 _ (by omega)]; rfl, by rw [amU_ni (by decide), amU_same, nI_oI (by omega)]; rfl, by rw [amU_same]; rfl, by rw [amU_ni (by decide), amU_same]; rfl, by rw [amU_same]; rfl⟩
  rw [← eI5, ← eJ5]
  have hI5 := hI.fx hh hx hf5 hj5
  refine B_le e61_44 t61_44 (fun h44 => ?_) (fun h44 => ?_)
  · have g0 : rch l = 0 := by rw [i32le, nI_toInt (by omega), show (0 : Int32).toInt = 0 from rfl] at h44; omega
    rw [if_pos g0]
    refine Ki e61_61 kiconst_0 ?_
    exact Rz e61_62 rt61 (by decide) (⟨rfl, hf5, hj5, Or.inr ⟨rfl, rfl⟩⟩)
  · have g0 : ¬ rch l = 0 := fun z => by rw [z] at h44; exact h44 (by decide)
    rw [if_neg g0]
    refine LA0 e61_47 ?_
    refine LA1 e61_48 ?_
    refine LI2 e61_49 ?_
    refine LI3 e61_50 ?_
    refine Cv3p e61_51 c61_62 hx.o (Nat.le_of_ble_eq_true rfl) (Nat.le_of_ble_eq_true rfl) (f_narrow hx hh hR hI5 hZ ht (fs0_FI hI.2.2.2.1 g0) hM5) ?_
    rintro v I1 J1 R1 ⟨hR1, hF1, hF2, hD⟩
    subst hR1
    rcases hD with ⟨s', hE, rfl, hM1⟩ | ⟨hE, rfl⟩
    · rw [hE]
      refine B_eq e61_54 t61_54 (fun q => absurd q (by decide)) (fun _ => ?_)
      refine Ki e61_57 kiconst_1 ?_
      refine Go e61_58 t61_58 ?_
      exact Rz e61_62 rt61 (by decide) (⟨rfl, hf5.tr hF1, hj5.tr hF2, Or.inl ⟨_, rfl, rfl, hM1⟩⟩)
    · rw [hE]
      refine B_eq e61_54 t61_54 (fun _ => ?_) (fun q => absurd (rfl) q)
      refine Ki e61_61 kiconst_0 ?_
      exact Rz e61_62 rt61 (by decide) (⟨rfl, hf5.tr hF1, hj5.tr hF2, Or.inr ⟨rfl, rfl⟩⟩)
end NARROW
