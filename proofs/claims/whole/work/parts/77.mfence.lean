/-! the reference: fences (printed by wip/whole/t77.py) -/
theorem gd_sc {c a d : Int} (hc : 1 ≤ c) : gd (c * a) (c * d) = c * gd a d := by
  unfold gd
  rw [Int.natAbs_mul, Int.natAbs_mul, Nat.gcd_mul_left, Int.natCast_mul]
  have e : (c.natAbs : Int) = c := by omega
  rw [e]
theorem ptU_sc {c a d : Int} (hc : 1 ≤ c) : (c * a).tdiv (gd (c * a) (c * d)) = ptU a d := by
  rw [gd_sc hc]
  unfold ptU
  exact Int.mul_tdiv_mul_of_pos a (gd a d) (by omega)
theorem ptV_sc {c a d : Int} (hc : 1 ≤ c) : (c * d).tdiv (gd (c * a) (c * d)) = ptV a d := by
  rw [gd_sc hc]
  unfold ptV
  exact Int.mul_tdiv_mul_of_pos d (gd a d) (by omega)
/-- how a halving goes, with the reference's scale -/
theorem fhv_sc {l : List Po} {k : Int32} {s : Fs} {c : Int} (hF : FI s) (hc : 1 ≤ c) : ∃ lo hi d c2 M : Int, fhv l k s = fh2 l k lo hi d s.2.2.2.1 s.2.2.2.2 ∧ (lo + hi).tdiv 2 = M ∧ 2 * M = lo + hi ∧ 2 * (c * s.1) = c2 * lo ∧ 2 * (c * s.2.1) = c2 * hi ∧ 2 * (c * s.2.2.1) = c2 * d ∧ 1 ≤ c2 ∧ (-600000 ≤ lo ∧ lo ≤ 600000) ∧ (-600000 ≤ hi ∧ hi ≤ 600000) ∧ (1 ≤ d ∧ d ≤ 1024) := by
  have hb := hF.b
  unfold fhv
  by_cases g : (s.2.1 - s.1).tmod 2 = 0
  · rw [if_pos g]
    have h2 : (s.1 + s.2.1) % 2 = 0 := by
      have e1 : (s.2.1 - s.1) % 2 = 0 := by
        rw [Int.tmod_eq_emod_of_nonneg (by omega)] at g
        exact g
      omega
    have e3 := Int.tdiv_mul_cancel (Int.dvd_of_emod_eq_zero h2)
    exact ⟨s.1, s.2.1, s.2.2.1, 2 * c, _, rfl, rfl, by omega, by rw [Int.mul_assoc], by rw [Int.mul_assoc], by rw [Int.mul_assoc], by omega, by omega, by omega, by omega⟩
  · rw [if_neg g]
    have e3 : (s.1 * 2 + s.2.1 * 2).tdiv 2 = s.1 + s.2.1 := by
      rw [← Int.add_mul]
      exact Int.mul_tdiv_cancel _ (by decide)
    exact ⟨s.1 * 2, s.2.1 * 2, s.2.2.1 * 2, c, _, rfl, e3, by omega, by grind, by grind, by grind, hc, by omega, by omega, by omega⟩
/-- what fences() leaves -/
def MfP (I : amI) (J : amJ) (o : Option Fs) (I' : amI) (J' : amJ) : Prop := (∀ y, y ≠ 152 → J' y = J y) ∧ (∀ i, (i < 18 ∨ 22 ≤ i) → J' 152 i = J 152 i) ∧ ((∃ s, o = some s ∧ FI s ∧ I' = I ∧ J' 152 18 = oI (fbU s) ∧ J' 152 19 = oI (fbV s) ∧ J' 152 20 = oI (feU s) ∧ J' 152 21 = oI (feV s)) ∨ (o = none ∧ I' = amU I 152 9 1))
theorem ptV_b2 {a d : Int} (h1 : 1 ≤ d) (h2 : d ≤ 1024) : 1 ≤ ptV a d ∧ ptV a d ≤ 1024 := by
  have g1 := gd_pos (a := a) (d := d) (by omega)
  have g2 : gd a d ∣ d := by
    unfold gd
    have := Nat.gcd_dvd_right a.natAbs d.natAbs
    exact Int.ofNat_dvd_left.mpr this
  unfold ptV
  have e := Int.tdiv_mul_cancel g2
  have h3 : 0 < d.tdiv (gd a d) * gd a d := by omega
  have h4 : 0 < d.tdiv (gd a d) := Int.pos_of_mul_pos_left h3 g1
  have h5 : d.tdiv (gd a d) * 1 ≤ d.tdiv (gd a d) * gd a d := Int.mul_le_mul_of_nonneg_left (by omega) (by omega)
  omega
theorem fe_st {c c2 s1 s2 s3 lo hi d M : Int} {e : Nat} (hc : 1 ≤ c) (hc3 : 1 ≤ c2) (f1 : 2 * (c * s1) = c2 * lo) (f2 : 2 * (c * s2) = c2 * hi) (f3 : 2 * (c * s3) = c2 * d) (hM2 : 2 * M = lo + hi) (hse : s3 * 1024 = (s2 - s1) * ((2 ^ e : Nat) : Int)) (hcw : c * (s2 - s1) ≤ 1024) : (c2 * (M - lo) ≤ 1024 ∧ c2 * (hi - M) ≤ 1024) ∧ d * 1024 = (M - lo) * ((2 ^ (e + 1) : Nat) : Int) ∧ d * 1024 = (hi - M) * ((2 ^ (e + 1) : Nat) : Int) := by
  have e1 : 2 * (c2 * (M - lo)) = c2 * hi - c2 * lo := by grind
  have e2 : 2 * (c2 * (hi - M)) = c2 * hi - c2 * lo := by grind
  have e3 : c2 * hi - c2 * lo = 2 * (c * (s2 - s1)) := by grind
  have hp : ((2 ^ (e + 1) : Nat) : Int) = 2 * ((2 ^ e : Nat) : Int) := by rw [Nat.pow_succ]; omega
  have hne : c2 ≠ 0 := by omega
  refine ⟨⟨by omega, by omega⟩, ?_, ?_⟩
  · refine Int.eq_of_mul_eq_mul_left hne ?_
    rw [hp]
    generalize ((2 ^ e : Nat) : Int) = P at *
    grind
  · refine Int.eq_of_mul_eq_mul_left hne ?_
    rw [hp]
    generalize ((2 ^ e : Nat) : Int) = P at *
    grind
section REF14
variable {L : Nat} {I : amI} {J : amJ} {R : amR} {Q : amQ} {a B t : Nat} {q : Po} {ps l : List Po} {σ : PS}
theorem m_gd {a d : Int} (hu : gB a) (ht : gB d) : Rv 155 [.long (oI a), .long (oI d)] (amSH L) I J R (.long (oI (gd a d))) := m_gcd hu ht
set_option maxHeartbeats 2000000 in
theorem m_fe_end {k : Int32} {c : Int} {s : Fs} {I0 : amI} {l13 l14 l15 l16 l17 : Option Value} (hR : amRok R) (hF : FI s) (hc : 1 ≤ c) (hc2 : c ≤ 1024) : Ex 196 192 [some (.ref 152), some (.int (nI B)), some (.int k), some (.int (nI t)), some (.long (oI (c * s.1))), none, some (.long (oI (c * s.2.1))), none, some (.long (oI (c * s.2.2.1))), none, some (.int (nI (tB l))), some (.int (nI s.2.2.2.1)), some (.int (nI s.2.2.2.2)), l13, l14, l15, l16, l17] [] (amSH L) I J R (fun v I' J' R' => v = none ∧ R' = R ∧ MfP I J (some s) I' J') := by
  have hb := hF.b
  have b1 := mul_b (x := c) (y := s.1) (B := 1024) (C := 300000) (by omega) (by omega)
  have b2 := mul_b (x := c) (y := s.2.1) (B := 1024) (C := 300000) (by omega) (by omega)
  have b3 := mul_b (x := c) (y := s.2.2.1) (B := 1024) (C := 512) (by omega) (by omega)
  have p3 : 0 < c * s.2.2.1 := Int.mul_pos (by omega) (by omega)
  have q1 := gd_iB (a := c * s.1) p3 ⟨by omega, by omega⟩
  have q2 := gd_iB (a := c * s.2.1) p3 ⟨by omega, by omega⟩
  have i1 : iB (c * s.1) := ⟨by omega, by omega⟩
  have i2 : iB (c * s.2.1) := ⟨by omega, by omega⟩
  have i3 : iB (c * s.2.2.1) := ⟨by omega, by omega⟩
  have n1 : ¬ oI (gd (c * s.1) (c * s.2.2.1)) = 0 := fun z => by
    have := gd_pos (a := c * s.1) p3
    rw [oI_0, oI_eq q1 ⟨by decide, by decide⟩] at z
    omega
  have n2 : ¬ oI (gd (c * s.2.1) (c * s.2.2.1)) = 0 := fun z => by
    have := gd_pos (a := c * s.2.1) p3
    rw [oI_0, oI_eq q2 ⟨by decide, by decide⟩] at z
    omega
  refine LJ4 e196_192 ?_
  refine LJ8 e196_194 ?_
  refine Cs2 e196_196 c196_155 (Nat.le_of_ble_eq_true rfl) (Nat.le_of_ble_eq_true rfl) ((m_gd (a := c * s.1) (d := c * s.2.2.1) ⟨by omega, by omega⟩ ⟨by omega, by omega⟩)) ?_
  refine SJ13 e196_199 rfl ?_
  refine LA0 e196_201 ?_
  refine LJ4 e196_202 ?_
  refine LJ13 e196_204 ?_
  refine Ldiv e196_206 n1 ?_
  rw [oI_div i1 q1, ptU_sc hc]
  refine Pj e196_207 (o152 L) f786 ?_
  refine LA0 e196_210 ?_
  refine LJ8 e196_211 ?_
  refine LJ13 e196_213 ?_
  refine Ldiv e196_215 n1 ?_
  rw [oI_div i3 q1, ptV_sc hc]
  refine Pj e196_216 (o152 L) f787 ?_
  refine LJ6 e196_219 ?_
  refine LJ8 e196_221 ?_
  refine Cs2 e196_223 c196_155 (Nat.le_of_ble_eq_true rfl) (Nat.le_of_ble_eq_true rfl) ((m_gd (a := c * s.2.1) (d := c * s.2.2.1) ⟨by omega, by omega⟩ ⟨by omega, by omega⟩)) ?_
  refine SJ13 e196_226 rfl ?_
  refine LA0 e196_228 ?_
  refine LJ6 e196_229 ?_
  refine LJ13 e196_231 ?_
  refine Ldiv e196_233 n2 ?_
  rw [oI_div i2 q2, ptU_sc hc]
  refine Pj e196_234 (o152 L) f788 ?_
  refine LA0 e196_237 ?_
  refine LJ8 e196_238 ?_
  refine LJ13 e196_240 ?_
  refine Ldiv e196_242 n2 ?_
  rw [oI_div i3 q2, ptV_sc hc]
  refine Pj e196_243 (o152 L) f789 ?_
  exact Rvd e196_246 rt196 (by
  refine ⟨rfl, rfl, fun y hy => by funext i; rw [amU_ne hy, amU_ne hy, amU_ne hy, amU_ne hy], fun i hi => by rw [amU_ni (by omega), amU_ni (by omega), amU_ni (by omega), amU_ni (by omega)], Or.inl ⟨s, rfl, hF, rfl, ?_, ?_, ?_, amU_same⟩⟩
  · rw [amU_ni (by decide), amU_ni (by decide), amU_ni (by decide), amU_same]
  · rw [amU_ni (by decide), amU_ni (by decide), amU_same]
  · rw [amU_ni (by decide), amU_same])
set_option maxHeartbeats 2000000 in
theorem m_fe_lp {k : Int32} {I0 : amI} (hR : amRok R) (hB3 : B < 3) (hM : MI I J B l) (ht : t ≤ 9) : ∀ (f e : Nat) (s : Fs) (c : Int) (l13 l14 l15 l16 l17 : Option Value), 20 ≤ f + e → FI s → 1 ≤ c → c * (s.2.1 - s.1) ≤ 1024 → s.2.2.1 * 1024 = (s.2.1 - s.1) * ((2 ^ e : Nat) : Int) → Ex 196 45 [some (.ref 152), some (.int (nI B)), some (.int k), some (.int (nI t)), some (.long (oI (c * s.1))), none, some (.long (oI (c * s.2.1))), none, some (.long (oI (c * s.2.2.1))), none, some (.int (nI (tB l))), some (.int (nI s.2.2.2.1)), some (.int (nI s.2.2.2.2)), l13, l14, l15, l16, l17] [] (amSH L) I J R (fun v I' J' R' => v = none ∧ R' = R ∧ MfP I J (fnN l k t f s) I' J') := by
  have hl5 := hM.2.2.1
  intro f
  induction f with
  | zero =>
    intro e s c l13 l14 l15 l16 l17 he hF hc hcw hse
    exfalso
    have hb := hF.b
    have h20 : 2 ^ 20 ≤ 2 ^ e := Nat.pow_le_pow_right (by decide) (by omega)
    have h21 : (1 : Int) * ((2 ^ e : Nat) : Int) ≤ (s.2.1 - s.1) * ((2 ^ e : Nat) : Int) := Int.mul_le_mul_of_nonneg_right (by omega) (by omega)
    have h22 : (2 : Nat) ^ 20 = 1048576 := by decide
    omega
  | succ f ih =>
    intro e s c l13 l14 l15 l16 l17 he hF hc hcw hse
    have hb := hF.b
    have hc2 : c ≤ 1024 := by
      have := Int.mul_le_mul_of_nonneg_left (a := 1) (b := s.2.1 - s.1) (c := c) (by omega) (by omega)
      omega
    obtain ⟨lo, hi, d, c2, M, hfv, hMe, hM2, f1, f2, f3, hc3, blo, bhi, bd⟩ := fhv_sc (l := l) (k := k) hF hc
    have b1 := mul_b (x := c) (y := s.1) (B := 1024) (C := 300000) (by omega) (by omega)
    have b2 := mul_b (x := c) (y := s.2.1) (B := 1024) (C := 300000) (by omega) (by omega)
    have b3 := mul_b (x := c) (y := s.2.2.1) (B := 1024) (C := 512) (by omega) (by omega)
    have p3 : 0 < c * s.2.2.1 := Int.mul_pos (by omega) (by omega)
    have f4 : 2 * (c2 * M) = c2 * lo + c2 * hi := by
      rw [← Int.mul_add, ← hM2, Int.mul_left_comm]
    have q1 := gd_iB (a := c2 * M) (d := c2 * d) (by omega) ⟨by omega, by omega⟩
    have q1p := gd_pos (a := c2 * M) (d := c2 * d) (by omega)
    have i1 : iB (c2 * M) := ⟨by omega, by omega⟩
    have i3 : iB (c2 * d) := ⟨by omega, by omega⟩
    have n1 : ¬ oI (gd (c2 * M) (c2 * d)) = 0 := fun z => by
      rw [oI_0, oI_eq q1 ⟨by decide, by decide⟩] at z
      omega
    have g1 : oI (c * s.1) * 2 = oI (c2 * lo) := by
      rw [show (2 : Int64) = oI 2 from rfl, oI_mul, ← f1, Int.mul_comm]
    have g2 : oI (c * s.2.1) * 2 = oI (c2 * hi) := by
      rw [show (2 : Int64) = oI 2 from rfl, oI_mul, ← f2, Int.mul_comm]
    have g3 : oI (c * s.2.2.1) * 2 = oI (c2 * d) := by
      rw [show (2 : Int64) = oI 2 from rfl, oI_mul, ← f3, Int.mul_comm]
    have g4 : (oI (c2 * lo) + oI (c2 * hi)) / 2 = oI (c2 * M) := by
      rw [oI_add, show (2 : Int64) = oI 2 from rfl, oI_div ⟨by omega, by omega⟩ ⟨by decide, by decide⟩, ← f4, Int.mul_comm 2, Int.mul_tdiv_cancel _ (by decide)]
    have g5 : oI (c2 * M) / oI (gd (c2 * M) (c2 * d)) = oI (ptU M d) := by rw [oI_div i1 q1, ptU_sc hc3]
    have g6 : oI (c2 * d) / oI (gd (c2 * M) (c2 * d)) = oI (ptV M d) := by rw [oI_div i3 q1, ptV_sc hc3]
    have pu := ptU_le (a := M) (d := d)
    have pv : 1 ≤ ptV M d ∧ ptV M d ≤ 1024 := ptV_b2 bd.1 bd.2
    have u1 : (iI (ptU M d)).toInt = ptU M d := iI_t ⟨by omega, by omega⟩
    have u2 : (iI (ptV M d)).toInt = ptV M d := iI_t ⟨by omega, by omega⟩
    have hp := p2_9 t ht
    have hw9 : iB (c * (s.2.1 - s.1) * ((2 ^ t : Nat) : Int)) := by
      have h0 : 0 ≤ c * (s.2.1 - s.1) := Int.mul_nonneg (by omega) (by omega)
      have := mul_b (x := c * (s.2.1 - s.1)) (y := ((2 ^ t : Nat) : Int)) (B := 1024) (C := 512) (by omega) (by omega)
      exact ⟨by omega, by omega⟩
    have g0 : (oI (c * s.2.1) - oI (c * s.1)) <<< ((nI t).toInt64 &&& 63) = oI (c * (s.2.1 - s.1) * ((2 ^ t : Nat) : Int)) := by
      rw [shl_mul (by omega), oI_sub, oI_mul, Int.mul_sub]
    have gle : oI (c * (s.2.1 - s.1) * ((2 ^ t : Nat) : Int)) ≤ oI (c * s.2.2.1) ↔ (s.2.1 - s.1) * ((2 ^ t : Nat) : Int) ≤ s.2.2.1 := by
      rw [oI_le hw9 ⟨by omega, by omega⟩, Int.mul_assoc]
      exact ⟨fun z => Int.le_of_mul_le_mul_left z (by omega), fun z => Int.mul_le_mul_of_nonneg_left z (by omega)⟩
    have hnx : ¬ fOk t s → ∀ s', fh2 l k lo hi d s.2.2.2.1 s.2.2.2.2 = some s' → fnN l k t (f + 1) s = fnN l k t f s' := fun z s' y => by
      rw [fnN, if_neg z, hfv, y]
    have hnn : ¬ fOk t s → fh2 l k lo hi d s.2.2.2.1 s.2.2.2.2 = none → fnN l k t (f + 1) s = none := fun z y => by
      rw [fnN, if_neg z, hfv, y]
    have hyes : fOk t s → fnN l k t (f + 1) s = some s := fun z => by rw [fnN, if_pos z]
    refine LI11 e196_45 ?_
    refine LI12 e196_47 ?_
    refine Isub e196_49 ?_
    refine Ki e196_50 kiconst_1 ?_
    refine C_gt e196_51 t196_51 (fun h51 => ?_) (fun h51 => ?_)
    · have hno : ¬ fOk t s := fun z => by
        first
          | exact z.1 h51
          | exact absurd (gle.mpr z.2) (by first | exact h63 | exact Int64.not_le.mpr h63)
      refine LJ4 e196_67 ?_
      refine Kd e196_69 kj3 ?_
      refine Lmul e196_72 ?_
      rw [g1]
      refine SJ4 e196_73 rfl ?_
      refine LJ6 e196_75 ?_
      refine Kd e196_77 kj3 ?_
      refine Lmul e196_80 ?_
      rw [g2]
      refine SJ6 e196_81 rfl ?_
      refine LJ8 e196_83 ?_
      refine Kd e196_85 kj3 ?_
      refine Lmul e196_88 ?_
      rw [g3]
      refine SJ8 e196_89 rfl ?_
      refine LJ4 e196_91 ?_
      refine LJ6 e196_93 ?_
      refine Ladd e196_95 ?_
      refine Kd e196_96 kj3 ?_
      refine Ldiv e196_99 (by decide) ?_
      rw [g4]
      refine SJ13 e196_100 rfl ?_
      refine LJ13 e196_102 ?_
      refine LJ8 e196_104 ?_
      refine Cs2 e196_106 c196_155 (Nat.le_of_ble_eq_true rfl) (Nat.le_of_ble_eq_true rfl) ((m_gd (a := c2 * M) (d := c2 * d) ⟨by omega, by omega⟩ ⟨by omega, by omega⟩)) ?_
      refine SJ15 e196_109 rfl ?_
      refine LJ13 e196_111 ?_
      refine LJ15 e196_113 ?_
      refine Ldiv e196_115 n1 ?_
      rw [g5]
      refine Cs1 e196_116 c196_153 (Nat.le_of_ble_eq_true rfl) (Nat.le_of_ble_eq_true rfl) ((m_size (x := ptU M d) ⟨by omega, by omega⟩)) ?_
      refine Kd e196_119 kj8 ?_
      refine D_gt e196_122 e196_123 t196_123 (fun h122 => ?_) (fun h122 => ?_)
      · refine LA0 e196_138 ?_
        refine Ki e196_139 kiconst_1 ?_
        refine Pz e196_140 (o152 L) f777 (by decide) ?_
        exact Rvd e196_143 rt196 (by
        have hs : fh2 l k lo hi d s.2.2.2.1 s.2.2.2.2 = none := by
          unfold fh2
          rw [hMe]
          refine if_neg (fun z => ?_)
          obtain ⟨⟨z1, z2⟩, z3, z4⟩ := z
          rw [u1] at z1 z2
          rw [u2] at z3 z4
          first
            | (rw [show (1000 : Int64) = oI 1000 from rfl, oI_lt ⟨by decide, by decide⟩ ⟨by omega, by omega⟩] at h122; omega)
            | (rw [show (1000 : Int64) = oI 1000 from rfl, oI_le ⟨by omega, by omega⟩ ⟨by decide, by decide⟩] at h134; omega)
        rw [hnn hno hs]
        exact ⟨rfl, rfl, fun _ _ => rfl, fun _ _ => rfl, Or.inr ⟨rfl, rfl⟩⟩)
      · refine LJ8 e196_126 ?_
        refine LJ15 e196_128 ?_
        refine Ldiv e196_130 n1 ?_
        rw [g6]
        refine Kd e196_131 kj8 ?_
        refine D_le e196_134 e196_135 t196_135 (fun h134 => ?_) (fun h134 => ?_)
        · have hpt : isPt (iI (ptU M d)) (iI (ptV M d)) := by
            rw [show (1000 : Int64) = oI 1000 from rfl, oI_lt ⟨by decide, by decide⟩ ⟨by omega, by omega⟩] at h122
            rw [show (1000 : Int64) = oI 1000 from rfl, oI_le ⟨by omega, by omega⟩ ⟨by decide, by decide⟩] at h134
            show (-1000 ≤ (iI (ptU M d)).toInt ∧ (iI (ptU M d)).toInt ≤ 1000) ∧ 1 ≤ (iI (ptV M d)).toInt ∧ (iI (ptV M d)).toInt ≤ 1000
            rw [u1, u2]
            omega
          refine LA0 e196_144 ?_
          refine LI1 e196_145 ?_
          refine LJ13 e196_146 ?_
          refine LJ15 e196_148 ?_
          refine Ldiv e196_150 n1 ?_
          rw [g5]
          refine LJ8 e196_151 ?_
          refine LJ15 e196_153 ?_
          refine Ldiv e196_155 n1 ?_
          rw [g6]
          refine Cv3 e196_156 c196_186 (o152 L) (Nat.le_of_ble_eq_true rfl) (Nat.le_of_ble_eq_true rfl) ((m_chgAt (u := ptU M d) (v := ptV M d) hR hB3 hM)) ?_
          refine SI17 e196_159 rfl ?_
          refine LI10 e196_161 ?_
          refine LI17 e196_163 ?_
          refine Isub e196_165 ?_
          refine LI2 e196_166 ?_
          refine C_le e196_167 t196_167 (fun h167 => ?_) (fun h167 => ?_)
          · refine LJ13 e196_181 ?_
            refine SJ4 e196_183 rfl ?_
            refine LI17 e196_185 ?_
            refine SI11 e196_187 rfl ?_
            refine Go e196_189 t196_189 ?_
            have hs : fh2 l k lo hi d s.2.2.2.1 s.2.2.2.2 = some (M, hi, d, tA l (ptU M d) (ptV M d), s.2.2.2.2) := by
              unfold fh2
              rw [hMe, if_pos hpt, u1, u2, if_neg (fun z => by rw [i32le] at h167; rw [i32lt] at z; omega)]
            rw [hnx hno _ hs]
            have hF2 := fhv_FI (hfv.trans hs) (by omega) hF
            obtain ⟨w1, w2⟩ := fe_st hc hc3 f1 f2 f3 hM2 hse hcw
            exact ih (e + 1) (M, hi, d, tA l (ptU M d) (ptV M d), s.2.2.2.2) c2 _ _ _ _ _ (by omega) hF2 hc3 (by exact w1.2) (by exact w2.2)
          · refine LJ13 e196_170 ?_
            refine SJ6 e196_172 rfl ?_
            refine LI17 e196_174 ?_
            refine SI12 e196_176 rfl ?_
            refine Go e196_178 t196_178 ?_
            refine Go e196_189 t196_189 ?_
            have hs : fh2 l k lo hi d s.2.2.2.1 s.2.2.2.2 = some (lo, M, d, s.2.2.2.1, tA l (ptU M d) (ptV M d)) := by
              unfold fh2
              rw [hMe, if_pos hpt, u1, u2, if_pos (by rw [i32le] at h167; rw [i32lt]; omega)]
            rw [hnx hno _ hs]
            have hF2 := fhv_FI (hfv.trans hs) (by omega) hF
            obtain ⟨w1, w2⟩ := fe_st hc hc3 f1 f2 f3 hM2 hse hcw
            exact ih (e + 1) (lo, M, d, s.2.2.2.1, tA l (ptU M d) (ptV M d)) c2 _ _ _ _ _ (by omega) hF2 hc3 (by exact w1.1) (by exact w2.1)
        · refine LA0 e196_138 ?_
          refine Ki e196_139 kiconst_1 ?_
          refine Pz e196_140 (o152 L) f777 (by decide) ?_
          exact Rvd e196_143 rt196 (by
          have hs : fh2 l k lo hi d s.2.2.2.1 s.2.2.2.2 = none := by
            unfold fh2
            rw [hMe]
            refine if_neg (fun z => ?_)
            obtain ⟨⟨z1, z2⟩, z3, z4⟩ := z
            rw [u1] at z1 z2
            rw [u2] at z3 z4
            first
              | (rw [show (1000 : Int64) = oI 1000 from rfl, oI_lt ⟨by decide, by decide⟩ ⟨by omega, by omega⟩] at h122; omega)
              | (rw [show (1000 : Int64) = oI 1000 from rfl, oI_le ⟨by omega, by omega⟩ ⟨by decide, by decide⟩] at h134; omega)
          rw [hnn hno hs]
          exact ⟨rfl, rfl, fun _ _ => rfl, fun _ _ => rfl, Or.inr ⟨rfl, rfl⟩⟩)
    · refine LJ6 e196_54 ?_
      refine LJ4 e196_56 ?_
      refine Lsub e196_58 ?_
      refine LI3 e196_59 ?_
      refine Lshl e196_60 ?_
      rw [g0]
      refine LJ8 e196_61 ?_
      refine D_le e196_63 e196_64 t196_64 (fun h63 => ?_) (fun h63 => ?_)
      · have hy : fOk t s := ⟨h51, gle.mp h63⟩
        rw [hyes hy]
        exact m_fe_end (k := k) (I0 := I) hR hF hc hc2
      · have hno : ¬ fOk t s := fun z => by
          first
            | exact z.1 h51
            | exact absurd (gle.mpr z.2) (by first | exact h63 | exact Int64.not_le.mpr h63)
        refine LJ4 e196_67 ?_
        refine Kd e196_69 kj3 ?_
        refine Lmul e196_72 ?_
        rw [g1]
        refine SJ4 e196_73 rfl ?_
        refine LJ6 e196_75 ?_
        refine Kd e196_77 kj3 ?_
        refine Lmul e196_80 ?_
        rw [g2]
        refine SJ6 e196_81 rfl ?_
        refine LJ8 e196_83 ?_
        refine Kd e196_85 kj3 ?_
        refine Lmul e196_88 ?_
        rw [g3]
        refine SJ8 e196_89 rfl ?_
        refine LJ4 e196_91 ?_
        refine LJ6 e196_93 ?_
        refine Ladd e196_95 ?_
        refine Kd e196_96 kj3 ?_
        refine Ldiv e196_99 (by decide) ?_
        rw [g4]
        refine SJ13 e196_100 rfl ?_
        refine LJ13 e196_102 ?_
        refine LJ8 e196_104 ?_
        refine Cs2 e196_106 c196_155 (Nat.le_of_ble_eq_true rfl) (Nat.le_of_ble_eq_true rfl) ((m_gd (a := c2 * M) (d := c2 * d) ⟨by omega, by omega⟩ ⟨by omega, by omega⟩)) ?_
        refine SJ15 e196_109 rfl ?_
        refine LJ13 e196_111 ?_
        refine LJ15 e196_113 ?_
        refine Ldiv e196_115 n1 ?_
        rw [g5]
        refine Cs1 e196_116 c196_153 (Nat.le_of_ble_eq_true rfl) (Nat.le_of_ble_eq_true rfl) ((m_size (x := ptU M d) ⟨by omega, by omega⟩)) ?_
        refine Kd e196_119 kj8 ?_
        refine D_gt e196_122 e196_123 t196_123 (fun h122 => ?_) (fun h122 => ?_)
        · refine LA0 e196_138 ?_
          refine Ki e196_139 kiconst_1 ?_
          refine Pz e196_140 (o152 L) f777 (by decide) ?_
          exact Rvd e196_143 rt196 (by
          have hs : fh2 l k lo hi d s.2.2.2.1 s.2.2.2.2 = none := by
            unfold fh2
            rw [hMe]
            refine if_neg (fun z => ?_)
            obtain ⟨⟨z1, z2⟩, z3, z4⟩ := z
            rw [u1] at z1 z2
            rw [u2] at z3 z4
            first
              | (rw [show (1000 : Int64) = oI 1000 from rfl, oI_lt ⟨by decide, by decide⟩ ⟨by omega, by omega⟩] at h122; omega)
              | (rw [show (1000 : Int64) = oI 1000 from rfl, oI_le ⟨by omega, by omega⟩ ⟨by decide, by decide⟩] at h134; omega)
          rw [hnn hno hs]
          exact ⟨rfl, rfl, fun _ _ => rfl, fun _ _ => rfl, Or.inr ⟨rfl, rfl⟩⟩)
        · refine LJ8 e196_126 ?_
          refine LJ15 e196_128 ?_
          refine Ldiv e196_130 n1 ?_
          rw [g6]
          refine Kd e196_131 kj8 ?_
          refine D_le e196_134 e196_135 t196_135 (fun h134 => ?_) (fun h134 => ?_)
          · have hpt : isPt (iI (ptU M d)) (iI (ptV M d)) := by
              rw [show (1000 : Int64) = oI 1000 from rfl, oI_lt ⟨by decide, by decide⟩ ⟨by omega, by omega⟩] at h122
              rw [show (1000 : Int64) = oI 1000 from rfl, oI_le ⟨by omega, by omega⟩ ⟨by decide, by decide⟩] at h134
              show (-1000 ≤ (iI (ptU M d)).toInt ∧ (iI (ptU M d)).toInt ≤ 1000) ∧ 1 ≤ (iI (ptV M d)).toInt ∧ (iI (ptV M d)).toInt ≤ 1000
              rw [u1, u2]
              omega
            refine LA0 e196_144 ?_
            refine LI1 e196_145 ?_
            refine LJ13 e196_146 ?_
            refine LJ15 e196_148 ?_
            refine Ldiv e196_150 n1 ?_
            rw [g5]
            refine LJ8 e196_151 ?_
            refine LJ15 e196_153 ?_
            refine Ldiv e196_155 n1 ?_
            rw [g6]
            refine Cv3 e196_156 c196_186 (o152 L) (Nat.le_of_ble_eq_true rfl) (Nat.le_of_ble_eq_true rfl) ((m_chgAt (u := ptU M d) (v := ptV M d) hR hB3 hM)) ?_
            refine SI17 e196_159 rfl ?_
            refine LI10 e196_161 ?_
            refine LI17 e196_163 ?_
            refine Isub e196_165 ?_
            refine LI2 e196_166 ?_
            refine C_le e196_167 t196_167 (fun h167 => ?_) (fun h167 => ?_)
            · refine LJ13 e196_181 ?_
              refine SJ4 e196_183 rfl ?_
              refine LI17 e196_185 ?_
              refine SI11 e196_187 rfl ?_
              refine Go e196_189 t196_189 ?_
              have hs : fh2 l k lo hi d s.2.2.2.1 s.2.2.2.2 = some (M, hi, d, tA l (ptU M d) (ptV M d), s.2.2.2.2) := by
                unfold fh2
                rw [hMe, if_pos hpt, u1, u2, if_neg (fun z => by rw [i32le] at h167; rw [i32lt] at z; omega)]
              rw [hnx hno _ hs]
              have hF2 := fhv_FI (hfv.trans hs) (by omega) hF
              obtain ⟨w1, w2⟩ := fe_st hc hc3 f1 f2 f3 hM2 hse hcw
              exact ih (e + 1) (M, hi, d, tA l (ptU M d) (ptV M d), s.2.2.2.2) c2 _ _ _ _ _ (by omega) hF2 hc3 (by exact w1.2) (by exact w2.2)
            · refine LJ13 e196_170 ?_
              refine SJ6 e196_172 rfl ?_
              refine LI17 e196_174 ?_
              refine SI12 e196_176 rfl ?_
              refine Go e196_178 t196_178 ?_
              refine Go e196_189 t196_189 ?_
              have hs : fh2 l k lo hi d s.2.2.2.1 s.2.2.2.2 = some (lo, M, d, s.2.2.2.1, tA l (ptU M d) (ptV M d)) := by
                unfold fh2
                rw [hMe, if_pos hpt, u1, u2, if_pos (by rw [i32le] at h167; rw [i32lt]; omega)]
              rw [hnx hno _ hs]
              have hF2 := fhv_FI (hfv.trans hs) (by omega) hF
              obtain ⟨w1, w2⟩ := fe_st hc hc3 f1 f2 f3 hM2 hse hcw
              exact ih (e + 1) (lo, M, d, s.2.2.2.1, tA l (ptU M d) (ptV M d)) c2 _ _ _ _ _ (by omega) hF2 hc3 (by exact w1.1) (by exact w2.1)
          · refine LA0 e196_138 ?_
            refine Ki e196_139 kiconst_1 ?_
            refine Pz e196_140 (o152 L) f777 (by decide) ?_
            exact Rvd e196_143 rt196 (by
            have hs : fh2 l k lo hi d s.2.2.2.1 s.2.2.2.2 = none := by
              unfold fh2
              rw [hMe]
              refine if_neg (fun z => ?_)
              obtain ⟨⟨z1, z2⟩, z3, z4⟩ := z
              rw [u1] at z1 z2
              rw [u2] at z3 z4
              first
                | (rw [show (1000 : Int64) = oI 1000 from rfl, oI_lt ⟨by decide, by decide⟩ ⟨by omega, by omega⟩] at h122; omega)
                | (rw [show (1000 : Int64) = oI 1000 from rfl, oI_le ⟨by omega, by omega⟩ ⟨by decide, by decide⟩] at h134; omega)
            rw [hnn hno hs]
            exact ⟨rfl, rfl, fun _ _ => rfl, fun _ _ => rfl, Or.inr ⟨rfl, rfl⟩⟩)
set_option maxHeartbeats 2000000 in
theorem m_fences {k : Int32} (hR : amRok R) (hB3 : B < 3) (hM : MI I J B l) (ht : t ≤ 9) (hf : I 152 9 = 0) : Cl 196 [.ref 152, .int (nI B), .int k, .int (nI t)] (amSH L) I J R (fun v I' J' R' => v = none ∧ R' = R ∧ MfP I J (fnc l k t) I' J') := by
  have hl5 := hM.2.2.1
  unfold fnc
  show Ex 196 0 [some (.ref 152), some (.int (nI B)), some (.int k), some (.int (nI t)), none, none, none, none, none, none, none, none, none, none, none, none, none, none] [] (amSH L) I J R _
  refine LA0 e196_0 ?_
  refine LI1 e196_1 ?_
  refine Cv1p e196_2 c196_194 (o152 L) (Nat.le_of_ble_eq_true rfl) (Nat.le_of_ble_eq_true rfl) (m_bound hR hB3 hM) ?_
  rintro v3 I3 J3 R3 ⟨hJ3, hR3, ⟨hz, rfl, rfl⟩ | ⟨hz, rfl, rfl⟩⟩
  · subst hJ3
    subst hR3
    rw [if_neg hz]
    have hr2 : rch l ≤ 512 := rcF_le l (n := 10) (m := 1) rfl
    refine Ineg e196_5 ?_
    refine I2l e196_6 ?_
    rw [n64b (rch l) hr2]
    refine SJ4 e196_7 rfl ?_
    refine LA0 e196_9 ?_
    refine Gi e196_10 (o152 L) (amGi_of f777 (by decide)) ?_
    rw [hf]
    refine B_eq e196_13 t196_13 (fun _ => ?_) (fun q => absurd (rfl) q)
    refine LJ4 e196_17 ?_
    refine Lneg e196_19 ?_
    rw [oI_neg, Int.neg_neg]
    refine SJ6 e196_20 rfl ?_
    refine K1 e196_22 ?_
    refine SJ8 e196_23 rfl ?_
    refine LA0 e196_25 ?_
    refine LI1 e196_26 ?_
    refine Ki e196_27 kiconst_m1 ?_
    refine Cv2 e196_28 c196_187 (o152 L) (Nat.le_of_ble_eq_true rfl) (Nat.le_of_ble_eq_true rfl) ((m_by_lo hR hB3 hM)) ?_
    refine SI10 e196_31 rfl ?_
    refine LI10 e196_33 ?_
    refine SI11 e196_35 rfl ?_
    refine LA0 e196_37 ?_
    refine LI1 e196_38 ?_
    refine Ki e196_39 kiconst_1 ?_
    refine Cv2 e196_40 c196_187 (o152 L) (Nat.le_of_ble_eq_true rfl) (Nat.le_of_ble_eq_true rfl) ((m_by_hi hR hB3 hM)) ?_
    refine SI12 e196_43 rfl ?_
    have c1 : oI (-(rch l : Int)) = oI (1 * (fs0 l).1) := by rw [Int.one_mul]; rfl
    have c2 : oI (rch l : Int) = oI (1 * (fs0 l).2.1) := by rw [Int.one_mul]; rfl
    have c3 : (1 : Int64) = oI (1 * (fs0 l).2.2.1) := rfl
    rw [c1, c2, c3]
    rcases rch_pow l with z | ⟨e, he, hr⟩
    · exact absurd z hz
    have hpw : ∀ e, e ≤ 9 → (1 : Int) * 1024 = (((2 ^ e : Nat) : Int) - -((2 ^ e : Nat) : Int)) * ((2 ^ (9 - e) : Nat) : Int) := by decide
    refine m_fe_lp (I0 := I3) hR hB3 hM ht 100 (9 - e) (fs0 l) 1 _ _ _ _ _ (by omega) (fs0_FI (by omega) hz) (by decide) ?_ ?_
    · show 1 * ((rch l : Int) - -(rch l : Int)) ≤ 1024
      omega
    · show (1 : Int) * 1024 = ((rch l : Int) - -(rch l : Int)) * ((2 ^ (9 - e) : Nat) : Int)
      rw [hr]
      exact hpw e he
  · subst hJ3
    subst hR3
    rw [if_pos hz]
    refine Ineg e196_5 ?_
    refine I2l e196_6 ?_
    refine SJ4 e196_7 rfl ?_
    refine LA0 e196_9 ?_
    refine Gi e196_10 (o152 L) (amGi_of f777 (by decide)) ?_
    rw [amU_same]
    refine B_eq e196_13 t196_13 (fun q => absurd q (by decide)) (fun _ => ?_)
    exact Rvd e196_16 rt196 (⟨rfl, rfl, fun _ _ => rfl, fun _ _ => rfl, Or.inr ⟨rfl, rfl⟩⟩)
end REF14
