/-! fences: what they answer (printed by wip/whole/t46.py) -/
/-- how many roots of l are within the fence s -/
abbrev fHo (l : List Po) (s : Fs) : Int32 := nI (tA l (fbU s) (fbV s)) - nI (tA l (feU s) (feV s))
theorem pt_b {s : Fs} (h : FI s) : ((-300000 ≤ fbU s ∧ fbU s ≤ 300000) ∧ 1 ≤ fbV s ∧ fbV s ≤ 512) ∧ (-300000 ≤ feU s ∧ feU s ≤ 300000) ∧ 1 ≤ feV s ∧ feV s ≤ 512 := by
  have hb := h.b
  have h1 := ptU_le (a := s.1) (d := s.2.2.1)
  have h2 := ptU_le (a := s.2.1) (d := s.2.2.1)
  have h3 := ptV_b (a := s.1) (d := s.2.2.1) hb.1.1 hb.1.2
  have h4 := ptV_b (a := s.2.1) (d := s.2.2.1) hb.1.1 hb.1.2
  have q1 : -300000 ≤ fbU s ∧ fbU s ≤ 300000 := by
    show -300000 ≤ ptU s.1 s.2.2.1 ∧ ptU s.1 s.2.2.1 ≤ 300000
    omega
  have q2 : -300000 ≤ feU s ∧ feU s ≤ 300000 := by
    show -300000 ≤ ptU s.2.1 s.2.2.1 ∧ ptU s.2.1 s.2.2.1 ≤ 300000
    omega
  exact ⟨⟨q1, h3⟩, q2, h4⟩
section FENCE3
variable {L : Nat} {I : amI} {J : amJ} {R : amR} {Q : amQ} {x y k h t f rd : Nat} {a d lo hi : Int} {tl tn : Nat} {l m : List Po} {s z : Fs}
set_option maxHeartbeats 2000000 in
theorem f_beginU (hx : FX x) (hF : FI s) (hM : FSm I J x s) : Rv 64 [.ref x] (amSH L) I J R (.int (iI (fbU s))) := by
  intro Q hQ
  have hb := hF.b
  obtain ⟨m0, m1, m2, m3, m4⟩ := id hM
  have gd1 : gB s.2.2.1 := ⟨by omega, by omega⟩
  have gl : gB s.1 := ⟨by omega, by omega⟩
  have gh : gB s.2.1 := ⟨by omega, by omega⟩
  show Ex 64 0 [some (.ref x)] [] (amSH L) I J R _
  refine LA0 e64_0 ?_
  refine LA0 e64_1 ?_
  refine Gj e64_2 hx.o f128 ?_
  rw [m0]
  refine Cv1 e64_5 c64_70 hx.o (Nat.le_of_ble_eq_true rfl) (Nat.le_of_ble_eq_true rfl) ((f_over hx m2 gl gd1 (by omega))) ?_
  exact Ri e64_8 rt64 (hQ)
set_option maxHeartbeats 2000000 in
theorem f_beginV (hx : FX x) (hF : FI s) (hM : FSm I J x s) : Rv 65 [.ref x] (amSH L) I J R (.int (iI (fbV s))) := by
  intro Q hQ
  have hb := hF.b
  obtain ⟨m0, m1, m2, m3, m4⟩ := id hM
  have gd1 : gB s.2.2.1 := ⟨by omega, by omega⟩
  have gl : gB s.1 := ⟨by omega, by omega⟩
  have gh : gB s.2.1 := ⟨by omega, by omega⟩
  show Ex 65 0 [some (.ref x)] [] (amSH L) I J R _
  refine LA0 e65_0 ?_
  refine LA0 e65_1 ?_
  refine Gj e65_2 hx.o f128 ?_
  rw [m0]
  refine Cv1 e65_5 c65_71 hx.o (Nat.le_of_ble_eq_true rfl) (Nat.le_of_ble_eq_true rfl) ((f_under hx m2 gl gd1 (by omega))) ?_
  exact Ri e65_8 rt65 (hQ)
set_option maxHeartbeats 2000000 in
theorem f_endU (hx : FX x) (hF : FI s) (hM : FSm I J x s) : Rv 66 [.ref x] (amSH L) I J R (.int (iI (feU s))) := by
  intro Q hQ
  have hb := hF.b
  obtain ⟨m0, m1, m2, m3, m4⟩ := id hM
  have gd1 : gB s.2.2.1 := ⟨by omega, by omega⟩
  have gl : gB s.1 := ⟨by omega, by omega⟩
  have gh : gB s.2.1 := ⟨by omega, by omega⟩
  show Ex 66 0 [some (.ref x)] [] (amSH L) I J R _
  refine LA0 e66_0 ?_
  refine LA0 e66_1 ?_
  refine Gj e66_2 hx.o f129 ?_
  rw [m1]
  refine Cv1 e66_5 c66_70 hx.o (Nat.le_of_ble_eq_true rfl) (Nat.le_of_ble_eq_true rfl) ((f_over hx m2 gh gd1 (by omega))) ?_
  exact Ri e66_8 rt66 (hQ)
set_option maxHeartbeats 2000000 in
theorem f_endV (hx : FX x) (hF : FI s) (hM : FSm I J x s) : Rv 67 [.ref x] (amSH L) I J R (.int (iI (feV s))) := by
  intro Q hQ
  have hb := hF.b
  obtain ⟨m0, m1, m2, m3, m4⟩ := id hM
  have gd1 : gB s.2.2.1 := ⟨by omega, by omega⟩
  have gl : gB s.1 := ⟨by omega, by omega⟩
  have gh : gB s.2.1 := ⟨by omega, by omega⟩
  show Ex 67 0 [some (.ref x)] [] (amSH L) I J R _
  refine LA0 e67_0 ?_
  refine LA0 e67_1 ?_
  refine Gj e67_2 hx.o f129 ?_
  rw [m1]
  refine Cv1 e67_5 c67_71 hx.o (Nat.le_of_ble_eq_true rfl) (Nat.le_of_ble_eq_true rfl) ((f_under hx m2 gh gd1 (by omega))) ?_
  exact Ri e67_8 rt67 (hQ)
set_option maxHeartbeats 2000000 in
theorem f_holds (hx : FX x) (hh : CH h) (hR : amRok R) (hI : CI I J h l) (hZ : LZ l) (hF : FI s) (hM : FSm I J x s) : Rv 68 [.ref x, .ref h] (amSH L) I J R (.int (fHo l s)) := by
  intro Q hQ
  have hp := pt_b hF
  have e1 := iI_t (a := fbU s) (by omega)
  have e2 := iI_t (a := fbV s) (by omega)
  have e3 := iI_t (a := feU s) (by omega)
  have e4 := iI_t (a := feV s) (by omega)
  show Ex 68 0 [some (.ref x), some (.ref h)] [] (amSH L) I J R _
  refine LA1 e68_0 ?_
  refine LA0 e68_1 ?_
  refine Cv0 e68_2 c68_64 hx.o (Nat.le_of_ble_eq_true rfl) (Nat.le_of_ble_eq_true rfl) ((f_beginU hx hF hM)) ?_
  refine LA0 e68_5 ?_
  refine Cv0 e68_6 c68_65 hx.o (Nat.le_of_ble_eq_true rfl) (Nat.le_of_ble_eq_true rfl) ((f_beginV hx hF hM)) ?_
  refine Cv2 e68_9 c68_34 hh.o (Nat.le_of_ble_eq_true rfl) (Nat.le_of_ble_eq_true rfl) ((h_turnsAt hh hR hI.2.2.2.2.1 (by have := hI.2.2.2.1; omega) hI.1 hI.2.1.lb hZ (by rw [e2]; omega) (by rw [e2]; omega))) ?_
  refine LA1 e68_12 ?_
  refine LA0 e68_13 ?_
  refine Cv0 e68_14 c68_66 hx.o (Nat.le_of_ble_eq_true rfl) (Nat.le_of_ble_eq_true rfl) ((f_endU hx hF hM)) ?_
  refine LA0 e68_17 ?_
  refine Cv0 e68_18 c68_67 hx.o (Nat.le_of_ble_eq_true rfl) (Nat.le_of_ble_eq_true rfl) ((f_endV hx hF hM)) ?_
  refine Cv2 e68_21 c68_34 hh.o (Nat.le_of_ble_eq_true rfl) (Nat.le_of_ble_eq_true rfl) ((h_turnsAt hh hR hI.2.2.2.2.1 (by have := hI.2.2.2.1; omega) hI.1 hI.2.1.lb hZ (by rw [e4]; omega) (by rw [e4]; omega))) ?_
  refine Isub e68_24 ?_
  exact Ri e68_25 rt68 (by
  rw [e1, e2, e3, e4]
  exact hQ)
set_option maxHeartbeats 2000000 in
theorem f_before (hx : FX x) (hy : FX y) (hF : FI s) (hM : FSm I J x s) (hG : FI z) (hN : FSm I J y z) : Rv 69 [.ref x, .ref y] (amSH L) I J R (.int (bI (decide (s.2.1 * z.2.2.1 ≤ z.1 * s.2.2.1)))) := by
  intro Q hQ
  have hb := hF.b
  have hc := hG.b
  obtain ⟨m0, m1, m2, m3, m4⟩ := id hM
  obtain ⟨n0, n1, n2, n3, n4⟩ := id hN
  have p1 := mul_b (x := s.2.1) (y := z.2.2.1) (B := 300000) (C := 512) (by omega) (by omega)
  have p2 := mul_b (x := z.1) (y := s.2.2.1) (B := 300000) (C := 512) (by omega) (by omega)
  show Ex 69 0 [some (.ref x), some (.ref y)] [] (amSH L) I J R _
  refine LA0 e69_0 ?_
  refine Gj e69_1 hx.o f129 ?_
  refine LA1 e69_4 ?_
  refine Gj e69_5 hy.o f130 ?_
  refine Lmul e69_8 ?_
  refine LA1 e69_9 ?_
  refine Gj e69_10 hy.o f128 ?_
  refine LA0 e69_13 ?_
  refine Gj e69_14 hx.o f130 ?_
  refine Lmul e69_17 ?_
  rw [m1, n2, n0, m2, oI_mul, oI_mul]
  refine D_gt e69_18 e69_19 t69_19 (fun h18 => ?_) (fun h18 => ?_)
  · refine Ki e69_26 kiconst_0 ?_
    exact Rz e69_27 rt69 (by decide) (by
    rw [oI_lt ⟨by omega, by omega⟩ ⟨by omega, by omega⟩] at h18
    rw [decide_eq_false (by omega)] at hQ
    exact hQ)
  · refine Ki e69_22 kiconst_1 ?_
    refine Go e69_23 t69_23 ?_
    exact Rz e69_27 rt69 (by decide) (by
    rw [oI_lt ⟨by omega, by omega⟩ ⟨by omega, by omega⟩] at h18
    rw [decide_eq_true (by omega)] at hQ
    exact hQ)
end FENCE3
