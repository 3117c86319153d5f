/-! fences: points, halves (printed by wip/whole/t44.py) -/
theorem shl_key : ∀ h, h < 10 → BitVec.twoPow 64 ((((nI h).toInt64 &&& 63).toBitVec.smod 64).toNat) = (oI ((2 ^ h : Nat) : Int)).toBitVec := by decide +kernel
theorem shl_mul {x : Int64} {h : Nat} (hh : h < 10) : x <<< ((nI h).toInt64 &&& 63) = x * oI ((2 ^ h : Nat) : Int) := by
  apply Int64.toBitVec_inj.mp
  rw [Int64.toBitVec_shiftLeft, Int64.toBitVec_mul, BitVec.shiftLeft_eq', BitVec.shiftLeft_eq_mul_twoPow, shl_key h hh]
theorem bI_z {p : Prop} [Decidable p] (h : bI (decide p) = 0) : ¬ p := fun g => by
  rw [decide_eq_true g] at h
  exact absurd h (by decide)
def iI (a : Int) : Int32 := Int32.ofInt a
theorem oI_i32 {a : Int} : (oI a).toInt32 = iI a := Int64.toInt32_ofInt
theorem iI_t {a : Int} (h : -2000000000 ≤ a ∧ a ≤ 2000000000) : (iI a).toInt = a := Int32.toInt_ofInt_of_le (by omega) (by omega)
/-- the greatest that divides both -/
def gd (a d : Int) : Int := (Nat.gcd a.natAbs d.natAbs : Nat)
/-- a point in lowest terms -/
def ptU (a d : Int) : Int := a.tdiv (gd a d)
def ptV (a d : Int) : Int := d.tdiv (gd a d)
theorem gd_pos {a d : Int} (h : 0 < d) : 0 < gd a d := by
  unfold gd
  have := Nat.gcd_pos_of_pos_right a.natAbs (n := d.natAbs) (by omega)
  omega
theorem gd_le {a d : Int} (h : 0 < d) : gd a d ≤ d := by
  unfold gd
  have := Nat.le_of_dvd (by omega) (Nat.gcd_dvd_right a.natAbs d.natAbs)
  omega
theorem gd_iB {a d : Int} (h : 0 < d) (hd : gB d) : iB (gd a d) := by
  have h1 := gd_pos (a := a) h
  have h2 := gd_le (a := a) h
  unfold gB at hd
  exact ⟨by omega, by omega⟩
/-- low, high, parts, turns there -/
abbrev Fs : Type := Int × Int × Int × Nat × Nat
/-- the cells of a fence hold s -/
def FSm (I : amI) (J : amJ) (x : Nat) (s : Fs) : Prop := J x 0 = oI s.1 ∧ J x 1 = oI s.2.1 ∧ J x 2 = oI s.2.2.1 ∧ I x 3 = nI s.2.2.2.1 ∧ I x 4 = nI s.2.2.2.2
/-- within bounds -/
def FsB (s : Fs) : Prop := (-1000000 ≤ s.1 ∧ s.1 ≤ 1000000) ∧ (-1000000 ≤ s.2.1 ∧ s.2.1 ≤ 1000000) ∧ 1 ≤ s.2.2.1 ∧ s.2.2.1 ≤ 1000
/-- the half that has the root; none: FULL -/
def fh2 (l : List Po) (k : Int32) (lo hi d : Int) (tl th : Nat) : Option Fs :=
  if isPt (iI (ptU ((lo + hi).tdiv 2) d)) (iI (ptV ((lo + hi).tdiv 2) d)) then
    (if k < nI (tB l) - nI (tA l (iI (ptU ((lo + hi).tdiv 2) d)).toInt (iI (ptV ((lo + hi).tdiv 2) d)).toInt) then some (lo, (lo + hi).tdiv 2, d, tl, tA l (iI (ptU ((lo + hi).tdiv 2) d)).toInt (iI (ptV ((lo + hi).tdiv 2) d)).toInt)
    else some ((lo + hi).tdiv 2, hi, d, tA l (iI (ptU ((lo + hi).tdiv 2) d)).toInt (iI (ptV ((lo + hi).tdiv 2) d)).toInt, th))
  else none
def fhv (l : List Po) (k : Int32) (s : Fs) : Option Fs := if (s.2.1 - s.1).tmod 2 = 0 then fh2 l k s.1 s.2.1 s.2.2.1 s.2.2.2.1 s.2.2.2.2 else fh2 l k (s.1 * 2) (s.2.1 * 2) (s.2.2.1 * 2) s.2.2.2.1 s.2.2.2.2
/-- narrow enough, by h, with one root -/
abbrev fOk (h : Nat) (s : Fs) : Prop := ¬ 1 < nI s.2.2.2.1 - nI s.2.2.2.2 ∧ (s.2.1 - s.1) * ((2 ^ h : Nat) : Int) ≤ s.2.2.1
def fnN (l : List Po) (k : Int32) (h : Nat) : Nat → Fs → Option Fs
  | 0, _ => none
  | f + 1, s => if fOk h s then some s else match fhv l k s with
    | none => none
    | some s' => fnN l k h f s'
def FX (x : Nat) : Prop := x = 136 ∨ x = 137
theorem CI.fx {I I' : amI} {J J' : amJ} {h x : Nat} {l : List Po} (hI : CI I J h l) (hh : CH h) (hx : FX x) (h1 : FrI x I I') (h2 : Fr J J' x) : CI I' J' h l := by
  obtain ⟨g1, g2, g3, g4, g5, g6, g7⟩ := hI
  have hx1 : h ≤ 112 := by rcases hh with e | e | e <;> omega
  have hx2 : 136 ≤ x := by rcases hx with e | e <;> omega
  have e : I' h = I h := h1 h (by omega)
  exact ⟨fun k hk => (g1 k hk).fr h2 (by omega), g2, g3, g4, by rw [e]; exact g5, by rw [e]; exact g6, by rw [e]; exact g7⟩
/-- what halve() answers and leaves -/
def HvP (I : amI) (J : amJ) (R : amR) (x : Nat) (o : Option Fs) (v : Option Value) (I' : amI) (J' : amJ) (R' : amR) : Prop := R' = R ∧ FrI x I I' ∧ Fr J J' x ∧ ((∃ s, o = some s ∧ v = some (.int 1) ∧ FSm I' J' x s) ∨ (o = none ∧ v = some (.int 0)))
theorem HvP.tr {I I1 I' : amI} {J J1 J' : amJ} {R R' : amR} {x : Nat} {o : Option Fs} {v : Option Value} (h : HvP I1 J1 R x o v I' J' R') (h1 : FrI x I I1) (h2 : Fr J J1 x) : HvP I J R x o v I' J' R' := ⟨h.1, h1.tr h.2.1, h2.tr h.2.2.1, h.2.2.2⟩
section FENCE
variable {L : Nat} {I : amI} {J : amJ} {R : amR} {Q : amQ} {x y k h : Nat} {a d lo hi : Int} {tl tn : Nat} {l : List Po} {s : Fs}
theorem FX.o (hx : FX x) : amO (amSH L) x 2 := by
  rcases hx with e | e
  · subst e; exact o136 L
  · subst e; exact o137 L
theorem g_gd (hu : gB a) (ht : gB d) : Rv 151 [.long (oI a), .long (oI d)] (amSH L) I J R (.long (oI (gd a d))) := g_gcd hu ht
set_option maxHeartbeats 2000000 in
theorem f_over (hx : FX x) (hd : J x 2 = oI d) (ha : gB a) (hdB : gB d) (h0 : 0 < d) : Rv 70 [.ref x, .long (oI a)] (amSH L) I J R (.int (iI (ptU a d))) := by
  intro Q hQ
  have g1 := gd_pos (a := a) h0
  have g2 := gd_iB (a := a) h0 hdB
  show Ex 70 0 [some (.ref x), some (.long (oI a)), none, none, none] [] (amSH L) I J R _
  refine LJ1 e70_0 ?_
  refine LA0 e70_1 ?_
  refine Gj e70_2 hx.o f130 ?_
  rw [hd]
  refine Cs2 e70_5 c70_151 (Nat.le_of_ble_eq_true rfl) (Nat.le_of_ble_eq_true rfl) ((g_gd ha hdB)) ?_
  refine SJ3 e70_8 rfl ?_
  refine LJ3 e70_9 ?_
  refine K0 e70_10 ?_
  refine D_le e70_11 e70_12 t70_12 (fun q => absurd q (fun z => by rw [oI_0, oI_le g2 ⟨by decide, by decide⟩] at z; omega)) (fun _ => ?_)
  refine LJ1 e70_15 ?_
  refine LJ3 e70_16 ?_
  refine Ldiv e70_17 (fun z => by rw [oI_0, oI_eq g2 ⟨by decide, by decide⟩] at z; omega) ?_
  refine L2i e70_18 ?_
  refine Go e70_19 t70_19 ?_
  exact Ri e70_23 rt70 (by
  have e : (oI a / oI (gd a d)).toInt32 = iI (ptU a d) := by
    rw [oI_div (by unfold gB at ha; exact ⟨by omega, by omega⟩) g2, oI_i32]; rfl
  rw [e]
  exact hQ)
set_option maxHeartbeats 2000000 in
theorem f_under (hx : FX x) (hd : J x 2 = oI d) (ha : gB a) (hdB : gB d) (h0 : 0 < d) : Rv 71 [.ref x, .long (oI a)] (amSH L) I J R (.int (iI (ptV a d))) := by
  intro Q hQ
  have g1 := gd_pos (a := a) h0
  have g2 := gd_iB (a := a) h0 hdB
  show Ex 71 0 [some (.ref x), some (.long (oI a)), none, none, none] [] (amSH L) I J R _
  refine LJ1 e71_0 ?_
  refine LA0 e71_1 ?_
  refine Gj e71_2 hx.o f130 ?_
  rw [hd]
  refine Cs2 e71_5 c71_151 (Nat.le_of_ble_eq_true rfl) (Nat.le_of_ble_eq_true rfl) ((g_gd ha hdB)) ?_
  refine SJ3 e71_8 rfl ?_
  refine LJ3 e71_9 ?_
  refine K0 e71_10 ?_
  refine D_le e71_11 e71_12 t71_12 (fun q => absurd q (fun z => by rw [oI_0, oI_le g2 ⟨by decide, by decide⟩] at z; omega)) (fun _ => ?_)
  refine LA0 e71_15 ?_
  refine Gj e71_16 hx.o f130 ?_
  refine LJ3 e71_19 ?_
  rw [hd]
  refine Ldiv e71_20 (fun z => by rw [oI_0, oI_eq g2 ⟨by decide, by decide⟩] at z; omega) ?_
  refine L2i e71_21 ?_
  refine Go e71_22 t71_22 ?_
  exact Ri e71_26 rt71 (by
  have e : (oI d / oI (gd a d)).toInt32 = iI (ptV a d) := by
    rw [oI_div (by unfold gB at hdB; exact ⟨by omega, by omega⟩) g2, oI_i32]; rfl
  rw [e]
  exact hQ)
theorem tdiv2 {lo hi : Int} (h1 : -2000000 ≤ lo ∧ lo ≤ 2000000) (h2 : -2000000 ≤ hi ∧ hi ≤ 2000000) : -2000000 ≤ (lo + hi).tdiv 2 ∧ (lo + hi).tdiv 2 ≤ 2000000 := by
  have h : ((lo + hi).tdiv 2).natAbs = (lo + hi).natAbs / 2 := Int.natAbs_tdiv _ _
  omega
theorem ptU_le {a d : Int} : (ptU a d).natAbs ≤ a.natAbs := by
  unfold ptU
  rw [Int.natAbs_tdiv]
  exact Nat.div_le_self _ _
set_option maxHeartbeats 2000000 in
theorem f_half {k : Int32} (hx : FX x) (hh : CH h) (hR : amRok R) (hI : CI I J h l) (hZ : LZ l) (hlo : -2000000 ≤ lo ∧ lo ≤ 2000000) (hhi : -2000000 ≤ hi ∧ hi ≤ 2000000) (hd1 : 1 ≤ d) (hd2 : d ≤ 2000) (hM : FSm I J x (lo, hi, d, tl, tn)) : Ex 63 54 [some (.ref x), some (.ref h), some (.int k), none, none, none, none, none] [] (amSH L) I J R (fun v I' J' R' => HvP I J R x (fh2 l k lo hi d tl tn) v I' J' R') := by
  obtain ⟨m0, m1, m2, m3, m4⟩ := hM
  dsimp only at m0 m1 m2 m3 m4
  have hm := tdiv2 hlo hhi
  unfold fh2
  obtain ⟨m, em⟩ : ∃ m, m = (lo + hi).tdiv 2 := ⟨_, rfl⟩
  rw [← em] at hm ⊢
  have gm : gB m := ⟨by omega, by omega⟩
  have gD : gB d := ⟨by omega, by omega⟩
  have bI_nz : ∀ {P : Prop} [Decidable P], ¬ bI (decide (¬ P)) = 0 → ¬ P := fun h => bI_t h
  refine LA0 e63_54 ?_
  refine Gj e63_55 hx.o f128 ?_
  refine LA0 e63_58 ?_
  refine Gj e63_59 hx.o f129 ?_
  refine Ladd e63_62 ?_
  refine Kd e63_63 kj3 ?_
  refine Ldiv e63_66 (by decide) ?_
  rw [m0, m1, oI_add, show (2 : Int64) = oI 2 from rfl, oI_div ⟨by omega, by omega⟩ ⟨by decide, by decide⟩, ← em]
  refine SJ3 e63_67 rfl ?_
  refine LA0 e63_68 ?_
  refine LJ3 e63_69 ?_
  refine Cv1 e63_70 c63_70 hx.o (Nat.le_of_ble_eq_true rfl) (Nat.le_of_ble_eq_true rfl) ((f_over hx m2 gm gD (by omega))) ?_
  refine SI5 e63_73 rfl ?_
  refine LA0 e63_75 ?_
  refine LJ3 e63_76 ?_
  refine Cv1 e63_77 c63_71 hx.o (Nat.le_of_ble_eq_true rfl) (Nat.le_of_ble_eq_true rfl) ((f_under hx m2 gm gD (by omega))) ?_
  refine SI6 e63_80 rfl ?_
  refine LI5 e63_82 ?_
  refine LI6 e63_84 ?_
  refine Cs2 e63_86 c63_146 (Nat.le_of_ble_eq_true rfl) (Nat.le_of_ble_eq_true rfl) (g_badPoint) ?_
  refine B_eq e63_89 t63_89 (fun h89 => ?_) (fun h89 => ?_)
  · have g : isPt (iI (ptU m d)) (iI (ptV m d)) := Decidable.not_not.mp (bI_z h89)
    refine LA1 e63_94 ?_
    refine LI5 e63_95 ?_
    refine LI6 e63_97 ?_
    refine Cv2 e63_99 c63_34 hh.o (Nat.le_of_ble_eq_true rfl) (Nat.le_of_ble_eq_true rfl) ((h_turnsAt hh hR hI.2.2.2.2.1 (by have := hI.2.2.2.1; omega) hI.1 hI.2.1.lb hZ g.2.1 g.2.2)) ?_
    refine SI7 e63_102 rfl ?_
    refine LI2 e63_104 ?_
    refine LA1 e63_105 ?_
    refine Cv0 e63_106 c63_37 hh.o (Nat.le_of_ble_eq_true rfl) (Nat.le_of_ble_eq_true rfl) ((h_bel hh hI)) ?_
    refine LI7 e63_109 ?_
    refine Isub e63_111 ?_
    refine C_ge e63_112 t63_112 (fun h112 => ?_) (fun h112 => ?_)
    · refine LA0 e63_129 ?_
      refine LJ3 e63_130 ?_
      refine Pj e63_131 hx.o f128 ?_
      refine LA0 e63_134 ?_
      refine LI7 e63_135 ?_
      refine Pi e63_137 hx.o f131 ?_
      refine Ki e63_140 kiconst_1 ?_
      exact Rz e63_141 rt63 (by decide) (by
      refine ⟨rfl, FrI.up FrI.rf, Fr.up Fr.rf, Or.inl ⟨_, by rw [if_pos g, if_neg (by simp only [i32lt, i32le] at *; omega)], rfl, ?_⟩⟩
      exact ⟨amU_same, by rw [amU_ni (by decide)]; exact m1, by rw [amU_ni (by decide)]; exact m2, amU_same, by rw [amU_ni (by decide)]; exact m4⟩)
    · refine LA0 e63_115 ?_
      refine LJ3 e63_116 ?_
      refine Pj e63_117 hx.o f129 ?_
      refine LA0 e63_120 ?_
      refine LI7 e63_121 ?_
      refine Pi e63_123 hx.o f132 ?_
      refine Go e63_126 t63_126 ?_
      refine Ki e63_140 kiconst_1 ?_
      exact Rz e63_141 rt63 (by decide) (by
      refine ⟨rfl, FrI.up FrI.rf, Fr.up Fr.rf, Or.inl ⟨_, by rw [if_pos g, if_pos (by simp only [i32lt, i32le] at *; omega)], rfl, ?_⟩⟩
      exact ⟨by rw [amU_ni (by decide)]; exact m0, amU_same, by rw [amU_ni (by decide)]; exact m2, by rw [amU_ni (by decide)]; exact m3, amU_same⟩)
  · refine Ki e63_92 kiconst_0 ?_
    exact Rz e63_93 rt63 (by decide) (⟨rfl, FrI.rf, Fr.rf, Or.inr ⟨if_neg (bI_nz h89), rfl⟩⟩)
set_option maxHeartbeats 2000000 in
theorem f_halve {k : Int32} (hx : FX x) (hh : CH h) (hR : amRok R) (hI : CI I J h l) (hZ : LZ l) (hB : FsB s) (hM : FSm I J x s) : Cl 63 [.ref x, .ref h, .int k] (amSH L) I J R (fun v I' J' R' => HvP I J R x (fhv l k s) v I' J' R') := by
  obtain ⟨b1, b2, b3, b4⟩ := hB
  obtain ⟨m0, m1, m2, m3, m4⟩ := id hM
  have ht : ((s.2.1 - s.1).tmod 2).natAbs = (s.2.1 - s.1).natAbs % 2 := Int.natAbs_tmod _ _
  unfold fhv
  show Ex 63 0 [some (.ref x), some (.ref h), some (.int k), none, none, none, none, none] [] (amSH L) I J R _
  refine LA0 e63_0 ?_
  refine Gj e63_1 hx.o f129 ?_
  refine LA0 e63_4 ?_
  refine Gj e63_5 hx.o f128 ?_
  refine Lsub e63_8 ?_
  refine Kd e63_9 kj3 ?_
  refine Lrem e63_12 (by decide) ?_
  rw [m0, m1, oI_sub, show (2 : Int64) = oI 2 from rfl, oI_rem ⟨by omega, by omega⟩ ⟨by decide, by decide⟩]
  refine K0 e63_13 ?_
  refine D_eq e63_14 e63_15 t63_15 (fun h14 => ?_) (fun h14 => ?_)
  · rw [if_pos (by rw [oI_0, oI_eq ⟨by omega, by omega⟩ ⟨by decide, by decide⟩] at h14; exact h14)]
    exact f_half hx hh hR hI hZ (by omega) (by omega) (by omega) (by omega) hM
  · refine LA0 e63_18 ?_
    refine Dup e63_19 rfl ?_
    refine Gj e63_20 hx.o f128 ?_
    refine Kd e63_23 kj3 ?_
    refine Lmul e63_26 ?_
    refine Pj e63_27 hx.o f128 ?_
    rw [m0, show (2 : Int64) = oI 2 from rfl, oI_mul]
    obtain ⟨J1, e1⟩ : ∃ J1, J1 = amU J x 0 (oI (s.1 * 2)) := ⟨_, rfl⟩
    rw [← e1]
    have n1 : J1 x 1 = oI s.2.1 := by rw [e1, amU_ni (by decide)]; exact m1
    have n2 : J1 x 2 = oI s.2.2.1 := by rw [e1, amU_ni (by decide)]; exact m2
    have n0 : J1 x 0 = oI (s.1 * 2) := by rw [e1, amU_same]
    have hf1 : Fr J J1 x := by rw [e1]; exact Fr.up Fr.rf
    refine LA0 e63_30 ?_
    refine Dup e63_31 rfl ?_
    refine Gj e63_32 hx.o f129 ?_
    refine Kd e63_35 kj3 ?_
    refine Lmul e63_38 ?_
    refine Pj e63_39 hx.o f129 ?_
    rw [n1, show (2 : Int64) = oI 2 from rfl, oI_mul]
    obtain ⟨J2, e2⟩ : ∃ J2, J2 = amU J1 x 1 (oI (s.2.1 * 2)) := ⟨_, rfl⟩
    rw [← e2]
    have q2 : J2 x 2 = oI s.2.2.1 := by rw [e2, amU_ni (by decide)]; exact n2
    have q0 : J2 x 0 = oI (s.1 * 2) := by rw [e2, amU_ni (by decide)]; exact n0
    have q1 : J2 x 1 = oI (s.2.1 * 2) := by rw [e2, amU_same]
    have hf2 : Fr J J2 x := by rw [e2]; exact Fr.up hf1
    refine LA0 e63_42 ?_
    refine Dup e63_43 rfl ?_
    refine Gj e63_44 hx.o f130 ?_
    refine Kd e63_47 kj3 ?_
    refine Lmul e63_50 ?_
    refine Pj e63_51 hx.o f130 ?_
    rw [q2, show (2 : Int64) = oI 2 from rfl, oI_mul]
    obtain ⟨J3, e3⟩ : ∃ J3, J3 = amU J2 x 2 (oI (s.2.2.1 * 2)) := ⟨_, rfl⟩
    rw [← e3]
    have r0 : J3 x 0 = oI (s.1 * 2) := by rw [e3, amU_ni (by decide)]; exact q0
    have r1 : J3 x 1 = oI (s.2.1 * 2) := by rw [e3, amU_ni (by decide)]; exact q1
    have r2 : J3 x 2 = oI (s.2.2.1 * 2) := by rw [e3, amU_same]
    have hf3 : Fr J J3 x := by rw [e3]; exact Fr.up hf2
    rw [if_neg (fun z => h14 (by rw [z]; rfl))]
    exact (f_half hx hh hR (hI.fx hh hx FrI.rf hf3) hZ (by omega) (by omega) (by omega) (by omega) ⟨r0, r1, r2, m3, m4⟩).mono (fun v I' J' R' q => q.tr FrI.rf hf3)
end FENCE
