/-! chains: the sum of signs, what a built chain answers (printed by wip/whole/t28.py) -/
/-- M, of n tries from m on; 0: none -/
def rcF (l : List Po) : Nat → Nat → Nat
  | 0, _ => 0
  | n + 1, m => if tA l (-(m : Int)) 1 = tB l ∧ tA l m 1 = tU l then m else rcF l n (m * 2)
def rch (l : List Po) : Nat := rcF l 10 1
theorem rcF_le (l : List Po) : ∀ {n m : Nat}, m * 2 ^ n = 1024 → rcF l n m ≤ 512
  | 0, _, _ => Nat.zero_le _
  | n + 1, m, h => by
    rw [Nat.pow_succ, Nat.mul_comm (2 ^ n), ← Nat.mul_assoc] at h
    have h1 : 0 < 2 ^ n := Nat.pow_pos (by decide)
    have h2 : m * 2 * 1 ≤ m * 2 * 2 ^ n := Nat.mul_le_mul_left _ h1
    rw [rcF]
    split
    · omega
    · exact rcF_le l h
section BUILD3
variable {L : Nat} {I : amI} {J : amJ} {R : amR} {Q : amQ} {a b c x y h : Nat} {p q f : Po} {l : List Po}
set_option maxHeartbeats 2000000 in
theorem h_buildSum (hh : CH h) (hR : amRok R) (hC : CO R x y) (ha : amPO (amSH L) R a) (hah : a ≠ h + 4) (hb : amPO (amSH L) R b) (hb40 : b ≠ 40) (hb1 : b + 1 ≠ 42 ∧ b + 1 ≠ 44 ∧ b + 1 ≠ 46) (hb2 : b + 1 < h) (hp : JP J (a + 1) p) (hpB : PB 4000000000000000000 p) (hq : JP J (b + 1) q) (hqB : PB 1000 q) (hok : FrOk p) (hnz : ∀ f, fre p = some f → 0 < sz f) : Cl 30 [.ref h, .ref a, .ref b] (amSH L) I J R (fun v I' J' R' => BuP I J R h (chs p q) v I' J' R') := by
  have hge := hh.ge
  show Ex 30 0 [some (.ref h), some (.ref a), some (.ref b)] [] (amSH L) I J R _
  refine LA0 e30_0 ?_
  refine Ki e30_1 kiconst_0 ?_
  refine Pi e30_2 hh.o f3 ?_
  refine LA0 e30_5 ?_
  refine Gr e30_6 hh.o (hh.r2 hR) f2 ?_
  refine LA1 e30_9 ?_
  refine LA0 e30_10 ?_
  refine Gr e30_11 hh.o (hh.r0 hR) f0 ?_
  refine Ki e30_14 kiconst_0 ?_
  refine ArN (k := 0) e30_15 hh.oa (by decide) (by decide) (by omega) (by decide) (hh.rm hR 0 (by omega)) ?_
  refine Cv2p e30_16 c30_27 (o40 L) (Nat.le_of_ble_eq_true rfl) (Nat.le_of_ble_eq_true rfl) (c_free (L := L) hR hC ha (hh.pm hR 0 (by omega)) (by omega) (by omega) (by omega) (by omega) hp hpB hok) ?_
  rintro v I1 J1 R1 ⟨hI1, hF1, hR1, hRC, hC1, hD⟩
  subst hI1
  rcases hD with ⟨f, hf, hv, hJ⟩ | ⟨hn, hv⟩
  · cases hv
    have hb5 : amPO (amSH L) R1 b := hb.rc hRC hb40
    refine B_ne e30_19 t30_19 (fun _ => ?_) (fun q => absurd (by decide) q)
    refine LA0 e30_24 ?_
    refine Gr e30_25 hh.o (hh.r1 hR1) f1 ?_
    refine LA0 e30_28 ?_
    refine Gr e30_29 hh.o (hh.r0 hR1) f0 ?_
    refine Ki e30_32 kiconst_0 ?_
    refine ArN (k := 0) e30_33 hh.oa (by decide) (by decide) (by omega) (by decide) (hh.rm hR1 0 (by omega)) ?_
    refine Cv1p e30_34 c30_8 (hh.ps (L := L) hR1).1 (Nat.le_of_ble_eq_true rfl) (Nat.le_of_ble_eq_true rfl) (p_copy (hh.ps hR1) (hh.pm hR1 0 (by omega)) (by omega) hJ) ?_
    rintro _ I2 J2 R2 ⟨rfl, hI2, hR2, hF2, hP2⟩
    subst hI2
    subst hR2
    refine LA0 e30_37 ?_
    refine Gr e30_38 hh.o (hh.r1 hR1) f1 ?_
    refine Cv0p e30_41 c30_16 (hh.ps (L := L) hR1).1 (Nat.le_of_ble_eq_true rfl) (Nat.le_of_ble_eq_true rfl) (p_derive (hh.ps hR1) hP2) ?_
    rintro _ I3 J3 R3 ⟨rfl, hI3, hR3, hF3, hP3⟩
    subst hI3
    subst hR3
    refine LA0 e30_44 ?_
    refine Gr e30_45 hh.o (hh.r0 hR1) f0 ?_
    refine Ki e30_48 kiconst_1 ?_
    refine ArN (k := 1) e30_49 hh.oa (by decide) (by decide) (by omega) (by decide) (hh.rm hR1 1 (by omega)) ?_
    refine LA0 e30_50 ?_
    refine Gr e30_51 hh.o (hh.r1 hR1) f1 ?_
    refine LA2 e30_54 ?_
    refine Cv2p e30_55 c30_15 (hh.pm (L := L) hR1 1 (by omega)).1 (Nat.le_of_ble_eq_true rfl) (Nat.le_of_ble_eq_true rfl) (p_product (hh.pm hR1 1 (by omega)) (hh.ps hR1) hb5 (by omega) (by omega) hP3 (((hq.fl hF1 (by simp; omega)).fr hF2 (by omega)).fr hF3 (by omega))) ?_
    rintro _ I4 J4 R4 ⟨rfl, hI4, hR4, hF4, hP4⟩
    subst hI4
    subst hR4
    refine LA0 e30_58 ?_
    refine Gr e30_59 hh.o (hh.r0 hR1) f0 ?_
    refine Ki e30_62 kiconst_1 ?_
    refine ArN (k := 1) e30_63 hh.oa (by decide) (by decide) (by omega) (by decide) (hh.rm hR1 1 (by omega)) ?_
    refine LA0 e30_64 ?_
    refine Gr e30_65 hh.o (hh.r0 hR1) f0 ?_
    refine Ki e30_68 kiconst_0 ?_
    refine ArN (k := 0) e30_69 hh.oa (by decide) (by decide) (by omega) (by decide) (hh.rm hR1 0 (by omega)) ?_
    refine Cv1p e30_70 c30_18 (hh.pm (L := L) hR1 1 (by omega)).1 (Nat.le_of_ble_eq_true rfl) (Nat.le_of_ble_eq_true rfl) (p_reduce (hh.pm hR1 1 (by omega)) (hh.pm hR1 0 (by omega)) (by omega) hP4 (cv_PB (der_PB (fre_PB hf)) hqB) (((hJ.fr hF2 (by omega)).fr hF3 (by omega)).fr hF4 (by omega)) (fre_PB hf) (hnz f hf)) ?_
    rintro v I5 J5 R5 ⟨hI5, hR5, hF5, hE⟩
    subst hI5
    subst hR5
    rcases hE with ⟨r, hr, hv, hP5⟩ | ⟨hr, hv, r, hrB, hP5⟩
    · cases hv
      have hc : chs p q = (exN 10 f r).map ([f] ++ ·) := by unfold chs; rw [hf]; dsimp only; rw [hr]
      rw [hc]
      refine B_eq e30_73 t30_73 (fun q => absurd q (by decide)) (fun _ => ?_)
      refine LA0 e30_76 ?_
      refine Cv0p e30_77 c30_31 hh.o (Nat.le_of_ble_eq_true rfl) (Nat.le_of_ble_eq_true rfl) (h_extend (f := f) (q := r) hh hR1 ((((hJ.fr hF2 (by omega)).fr hF3 (by omega)).fr hF4 (by omega)).fr hF5 (by omega)) hP5 (fre_PB hf) (rem_PB hr) (by have := rem_sz hr (hnz f hf); have := sz_le f; omega)) ?_
      rintro v I6 J6 R6 ⟨hR6, hI6, hF6, hD⟩
      subst hR6
      rcases hD with ⟨t, ht, hv, hCI⟩ | ⟨hn, hv⟩
      · cases hv
        refine B_eq e30_80 t30_80 (fun q => absurd q (by decide)) (fun _ => ?_)
        refine Ki e30_83 kiconst_1 ?_
        refine Go e30_84 t30_84 ?_
        exact Rz e30_88 rt30 (by decide) (⟨FrI.rf.up.tr hI6, (((((hF1.b (by omega) (by omega)).tr (hF2.c (by omega) (by omega)).b).tr (hF3.c (by omega) (by omega)).b).tr (hF4.c (by omega) (by omega)).b).tr (hF5.c (by omega) (by omega)).b).tr hF6.b, hR1, hRC, hC1, Or.inl ⟨t, ht, rfl, hCI⟩⟩)
      · cases hv
        refine B_eq e30_80 t30_80 (fun _ => ?_) (fun q => absurd (rfl) q)
        refine Ki e30_87 kiconst_0 ?_
        exact Rz e30_88 rt30 (by decide) (⟨FrI.rf.up.tr hI6, (((((hF1.b (by omega) (by omega)).tr (hF2.c (by omega) (by omega)).b).tr (hF3.c (by omega) (by omega)).b).tr (hF4.c (by omega) (by omega)).b).tr (hF5.c (by omega) (by omega)).b).tr hF6.b, hR1, hRC, hC1, Or.inr ⟨hn, rfl⟩⟩)
    · cases hv
      refine B_eq e30_73 t30_73 (fun _ => ?_) (fun q => absurd (rfl) q)
      refine Ki e30_87 kiconst_0 ?_
      exact Rz e30_88 rt30 (by decide) (⟨FrI.rf.up, (((((hF1.b (by omega) (by omega)).tr (hF2.c (by omega) (by omega)).b).tr (hF3.c (by omega) (by omega)).b).tr (hF4.c (by omega) (by omega)).b).tr (hF5.c (by omega) (by omega)).b), hR1, hRC, hC1, Or.inr ⟨by unfold chs; rw [hf]; dsimp only; rw [hr], rfl⟩⟩)
  · cases hv
    refine B_ne e30_19 t30_19 (fun q => absurd rfl q) (fun _ => ?_)
    refine Ki e30_22 kiconst_0 ?_
    exact Rz e30_23 rt30 (by decide) (⟨FrI.rf.up, hF1.b (by omega) (by omega), hR1, hRC, hC1, Or.inr ⟨by unfold chs; rw [hn], rfl⟩⟩)
set_option maxHeartbeats 2000000 in
theorem h_length (hh : CH h) (hI : CI I J h l) : Rv 32 [.ref h] (amSH L) I J R (.int (nI (l.length))) := by
  intro Q hQ
  show Ex 32 0 [some (.ref h)] [] (amSH L) I J R _
  refine LA0 e32_0 ?_
  refine Gi e32_1 hh.o (amGi_of f3 (by decide)) ?_
  exact Ri e32_4 rt32 (by
  rw [hI.2.2.2.2.1]
  exact hQ)
set_option maxHeartbeats 2000000 in
theorem h_bel (hh : CH h) (hI : CI I J h l) : Rv 37 [.ref h] (amSH L) I J R (.int (nI (tB l))) := by
  intro Q hQ
  show Ex 37 0 [some (.ref h)] [] (amSH L) I J R _
  refine LA0 e37_0 ?_
  refine Gi e37_1 hh.o (amGi_of f4 (by decide)) ?_
  exact Ri e37_4 rt37 (by
  rw [hI.2.2.2.2.2.1]
  exact hQ)
set_option maxHeartbeats 2000000 in
theorem h_abo (hh : CH h) (hI : CI I J h l) : Rv 38 [.ref h] (amSH L) I J R (.int (nI (tU l))) := by
  intro Q hQ
  show Ex 38 0 [some (.ref h)] [] (amSH L) I J R _
  refine LA0 e38_0 ?_
  refine Gi e38_1 hh.o (amGi_of f5 (by decide)) ?_
  exact Ri e38_4 rt38 (by
  rw [hI.2.2.2.2.2.2]
  exact hQ)
set_option maxHeartbeats 2000000 in
theorem h_total (hh : CH h) (hI : CI I J h l) : Rv 39 [.ref h] (amSH L) I J R (.int (nI (tB l) - nI (tU l))) := by
  intro Q hQ
  show Ex 39 0 [some (.ref h)] [] (amSH L) I J R _
  refine LA0 e39_0 ?_
  refine Gi e39_1 hh.o (amGi_of f4 (by decide)) ?_
  refine LA0 e39_4 ?_
  refine Gi e39_5 hh.o (amGi_of f5 (by decide)) ?_
  refine Isub e39_8 ?_
  exact Ri e39_9 rt39 (by
  rw [hI.2.2.2.2.2.1, hI.2.2.2.2.2.2]
  exact hQ)
set_option maxHeartbeats 2000000 in
theorem h_hasRoot {k : Int32} (hh : CH h) (hI : CI I J h l) : Rv 40 [.ref h, .int k] (amSH L) I J R (.int (bI (decide (0 ≤ k ∧ k < nI (tB l) - nI (tU l))))) := by
  intro Q hQ
  show Ex 40 0 [some (.ref h), some (.int k)] [] (amSH L) I J R _
  refine LI1 e40_0 ?_
  refine B_lt e40_1 t40_1 (fun h1 => ?_) (fun h1 => ?_)
  · refine Ki e40_16 kiconst_0 ?_
    exact Rz e40_17 rt40 (by decide) (by
    have e : bI (decide (0 ≤ k ∧ k < nI (tB l) - nI (tU l))) = 0 := by
      rw [decide_eq_false]
      · rfl
      · intro z
        first
          | exact absurd h1 (Int32.not_lt.mpr z.1)
          | exact absurd h9 (Int32.not_le.mpr z.2)
    rw [e] at hQ
    exact hQ)
  · refine LI1 e40_4 ?_
    refine LA0 e40_5 ?_
    refine Cv0 e40_6 c40_39 hh.o (Nat.le_of_ble_eq_true rfl) (Nat.le_of_ble_eq_true rfl) (h_total hh hI) ?_
    refine C_ge e40_9 t40_9 (fun h9 => ?_) (fun h9 => ?_)
    · refine Ki e40_16 kiconst_0 ?_
      exact Rz e40_17 rt40 (by decide) (by
      have e : bI (decide (0 ≤ k ∧ k < nI (tB l) - nI (tU l))) = 0 := by
        rw [decide_eq_false]
        · rfl
        · intro z
          first
            | exact absurd h1 (Int32.not_lt.mpr z.1)
            | exact absurd h9 (Int32.not_le.mpr z.2)
      rw [e] at hQ
      exact hQ)
    · refine Ki e40_12 kiconst_1 ?_
      refine Go e40_13 t40_13 ?_
      exact Rz e40_17 rt40 (by decide) (by
      have e : bI (decide (0 ≤ k ∧ k < nI (tB l) - nI (tU l))) = 1 := by
        rw [decide_eq_true]
        · rfl
        · exact ⟨Int32.not_lt.mp h1, Int32.not_le.mp h9⟩
      rw [e] at hQ
      exact hQ)
set_option maxHeartbeats 2000000 in
theorem h_notAbove {u v : Int32} (hh : CH h) (hR : amRok R) (hI : CI I J h l) (hZ : LZ l) (h1 : 1 ≤ v.toInt) (h2 : v.toInt ≤ 1000) : Rv 41 [.ref h, .int u, .int v] (amSH L) I J R (.int (nI (tB l) - nI (tA l u.toInt v.toInt))) := by
  intro Q hQ
  show Ex 41 0 [some (.ref h), some (.int u), some (.int v)] [] (amSH L) I J R _
  refine LA0 e41_0 ?_
  refine Gi e41_1 hh.o (amGi_of f4 (by decide)) ?_
  refine LA0 e41_4 ?_
  refine LI1 e41_5 ?_
  refine LI2 e41_6 ?_
  refine Cv2 e41_7 c41_34 hh.o (Nat.le_of_ble_eq_true rfl) (Nat.le_of_ble_eq_true rfl) (h_turnsAt hh hR hI.2.2.2.2.1 (by have := hI.2.2.2.1; omega) hI.1 hI.2.1.lb hZ h1 h2) ?_
  refine Isub e41_10 ?_
  exact Ri e41_11 rt41 (by
  rw [hI.2.2.2.2.2.1]
  exact hQ)
set_option maxHeartbeats 2000000 in
theorem h_reach_lp (hh : CH h) (hR : amRok R) (hI : CI I J h l) (hZ : LZ l) : ∀ (n m : Nat), m * 2 ^ n = 1024 → Q (some (.int (nI (rcF l n m)))) I J R → Ex 42 2 [some (.ref h), some (.int (nI m))] [] (amSH L) I J R Q := by
  intro n
  induction n with
  | zero =>
    intro m hm hQ
    have hm2 : m = 1024 := by rw [Nat.pow_zero] at hm; omega
    refine LI1 e42_2 ?_
    refine Ki e42_3 ksipush_512 ?_
    refine CN_gt (a := m) (b := 512) e42_6 t42_6 rfl (by decide) (by omega) (by omega) (fun _ => ?_) (fun q => by omega)
    refine Ki e42_45 kiconst_0 ?_
    exact Ri e42_46 rt42 (hQ)
  | succ n ih =>
    intro m hm hQ
    have hm1 : m * 2 * 2 ^ n = 1024 := by rw [Nat.pow_succ, Nat.mul_comm (2 ^ n), ← Nat.mul_assoc] at hm; exact hm
    have hm2 : m ≤ 512 := by
      have h1 : 0 < 2 ^ n := Nat.pow_pos (by decide)
      have h2 : m * 2 * 1 ≤ m * 2 * 2 ^ n := Nat.mul_le_mul_left _ h1
      omega
    have e2 : tA l (nI m).toInt (1 : Int32).toInt = tA l m 1 := by rw [nI_toInt (by omega)]; rfl
    have e1 : tA l (-nI m).toInt (1 : Int32).toInt = tA l (-(m : Int)) 1 := by
      rw [Int32.toInt_neg, nI_toInt (by omega), Int.bmod_eq_of_le (by omega) (by omega)]; rfl
    have b1 := tA_le l (-(m : Int)) 1
    have b2 := tA_le l m 1
    have b3 := tB_le l
    have b4 := tU_le l
    have b5 := hI.2.2.2.1
    refine LI1 e42_2 ?_
    refine Ki e42_3 ksipush_512 ?_
    refine CN_gt (a := m) (b := 512) e42_6 t42_6 rfl (by decide) (by omega) (by omega) (fun q => absurd q (by omega)) (fun _ => ?_)
    refine LA0 e42_9 ?_
    refine LI1 e42_10 ?_
    refine Ineg e42_11 ?_
    refine Ki e42_12 kiconst_1 ?_
    refine Cv2 e42_13 c42_34 hh.o (Nat.le_of_ble_eq_true rfl) (Nat.le_of_ble_eq_true rfl) ((e1 ▸ h_turnsAt hh hR hI.2.2.2.2.1 (by have := hI.2.2.2.1; omega) hI.1 hI.2.1.lb hZ (by decide) (by decide) : Rv 34 [.ref h, .int (-nI m), .int 1] (amSH L) I J R (.int (nI (tA l (-(m : Int)) 1))))) ?_
    refine LA0 e42_16 ?_
    refine Gi e42_17 hh.o (amGi_of f4 (by decide)) ?_
    rw [hI.2.2.2.2.2.1]
    refine CN_ne (a := (tA l (-(m : Int)) 1)) (b := (tB l)) e42_20 t42_20 rfl rfl (by omega) (by omega) (fun h20 => ?_) (fun h20 => ?_)
    · refine LI1 e42_38 ?_
      refine Ki e42_39 kiconst_2 ?_
      refine ImulN (a := m) (b := 2) e42_40 rfl (by decide) ?_
      refine SI1 e42_41 rfl ?_
      refine Go e42_42 t42_42 ?_
      refine ih (m * 2) hm1 ?_
      rw [rcF, if_neg (fun z => by omega)] at hQ
      exact hQ
    · refine LA0 e42_23 ?_
      refine LI1 e42_24 ?_
      refine Ki e42_25 kiconst_1 ?_
      refine Cv2 e42_26 c42_34 hh.o (Nat.le_of_ble_eq_true rfl) (Nat.le_of_ble_eq_true rfl) ((e2 ▸ h_turnsAt hh hR hI.2.2.2.2.1 (by have := hI.2.2.2.1; omega) hI.1 hI.2.1.lb hZ (by decide) (by decide) : Rv 34 [.ref h, .int (nI m), .int 1] (amSH L) I J R (.int (nI (tA l m 1))))) ?_
      refine LA0 e42_29 ?_
      refine Gi e42_30 hh.o (amGi_of f5 (by decide)) ?_
      rw [hI.2.2.2.2.2.2]
      refine CN_ne (a := (tA l m 1)) (b := (tU l)) e42_33 t42_33 rfl rfl (by omega) (by omega) (fun h33 => ?_) (fun h33 => ?_)
      · refine LI1 e42_38 ?_
        refine Ki e42_39 kiconst_2 ?_
        refine ImulN (a := m) (b := 2) e42_40 rfl (by decide) ?_
        refine SI1 e42_41 rfl ?_
        refine Go e42_42 t42_42 ?_
        refine ih (m * 2) hm1 ?_
        rw [rcF, if_neg (fun z => by omega)] at hQ
        exact hQ
      · refine LI1 e42_36 ?_
        exact Ri e42_37 rt42 (by
        rw [rcF, if_pos ⟨by omega, by omega⟩] at hQ
        exact hQ)
set_option maxHeartbeats 2000000 in
theorem h_reach (hh : CH h) (hR : amRok R) (hI : CI I J h l) (hZ : LZ l) : Rv 42 [.ref h] (amSH L) I J R (.int (nI (rch l))) := by
  intro Q hQ
  show Ex 42 0 [some (.ref h), none] [] (amSH L) I J R _
  refine Ki e42_0 kiconst_1 ?_
  refine SI1 e42_1 rfl ?_
  exact h_reach_lp hh hR hI hZ 10 1 (by decide) hQ
end BUILD3
