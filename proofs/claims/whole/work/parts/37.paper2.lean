/-! a term, a polynomial on the paper (printed by wip/whole/t37.py) -/
section PAPER2
variable {L : Nat} {I : amI} {J : amJ} {R : amR} {Q : amQ} {n s k a : Nat} {v : Int32} {w : List Int32} {c : Int} {p : Po}
/-- what stands behind a number -/
def xsP (k : Nat) : List Int32 := (if 0 < k then [nI 120] else []) ++ (if 1 < k then [nI 94, nI (48 + k)] else [])
def sgP (w : List Int32) (c : Int) : List Int32 := if c < 0 then w ++ [nI 45] else if 0 < w.length then w ++ [nI 43] else w
theorem trm_eq : trm w c k = sgP w c ++ (if c.natAbs ≠ 1 ∨ k = 0 then dgs c.natAbs else []) ++ xsP k := by
  unfold trm sgP xsP
  simp
theorem xsP_le : (xsP k).length ≤ 3 := by
  unfold xsP
  split <;> split <;> simp
theorem sgP_le : (sgP w c).length ≤ w.length + 1 := by
  unfold sgP
  split
  · simp
  · split <;> simp
theorem trm_le : (trm w c k).length ≤ w.length + 7 := by
  rw [trm_eq, List.length_append, List.length_append]
  have h1 := sgP_le (w := w) (c := c)
  have h2 := xsP_le (k := k)
  have h3 := dgs_le c.natAbs
  split <;> simp <;> omega
theorem l2i_oI {x : Int} (h : -999 ≤ x ∧ x ≤ 999) : ((oI x).toInt32).toInt = x := by
  rw [Int64.toInt_toInt32, oI_t (by omega) (by omega)]
  exact Int.bmod_eq_of_le (by omega) (by omega)
theorem abs_key : ∀ m : Nat, m < 1999 → (0 ≤ Int32.ofInt ((m : Int) - 999) → Int32.ofInt ((m : Int) - 999) = nI ((m : Int) - 999).natAbs) ∧ (¬ 0 ≤ Int32.ofInt ((m : Int) - 999) → -Int32.ofInt ((m : Int) - 999) = nI ((m : Int) - 999).natAbs) := by decide +kernel
theorem abs_pn {x : Int32} (hx : -999 ≤ x.toInt ∧ x.toInt ≤ 999) : (0 ≤ x → x = nI x.toInt.natAbs) ∧ (¬ 0 ≤ x → -x = nI x.toInt.natAbs) := by
  have h := abs_key (x.toInt + 999).toNat (by omega)
  rw [show (((x.toInt + 999).toNat : Nat) : Int) - 999 = x.toInt by omega, Int32.ofInt_toInt] at h
  exact h
set_option maxHeartbeats 2000000 in
theorem r_term3 {x y : Int32} (hR : amRok R) (h : PL I w) (hw : w.length + 3 ≤ 60) (hk : k ≤ 4) : Ex 101 51 [some (.ref 147), some (.int x), some (.int (nI k)), some (.int y)] [] (amSH L) I J R (fun u I' J' R' => PpP I J R (w ++ xsP k) u I' J' R') := by
  by_cases k0 : k = 0
  · subst k0
    refine LI2 e101_51 ?_
    refine B_le e101_52 t101_52 (fun _ => ?_) (fun q => absurd (by decide) q)
    refine LI2 e101_61 ?_
    refine Ki e101_62 kiconst_1 ?_
    refine CN_le (a := 0) (b := 1) e101_63 t101_63 rfl (by decide) (by omega) (by omega) (fun _ => ?_) (fun q => by omega)
    exact Rvd e101_80 rt101 (by
    have e : w ++ xsP 0 = w := by simp [xsP]
    rw [e]
    exact ⟨rfl, h, FrPp.rf, rfl, rfl⟩)
  · by_cases k1 : k = 1
    · subst k1
      refine LI2 e101_51 ?_
      refine B_le e101_52 t101_52 (fun q => absurd q (by decide)) (fun _ => ?_)
      refine LA0 e101_55 ?_
      refine Ki e101_56 kbipush_120 ?_
      refine Cv1p e101_58 c101_103 (o147 L) (Nat.le_of_ble_eq_true rfl) (Nat.le_of_ble_eq_true rfl) (r_putL (n := 120) hR h (by omega) (by omega)) ?_
      rintro _ I1 J1 R1 ⟨rfl, hP1, hF1, hJ1, hR1⟩
      subst hJ1
      subst hR1
      refine LI2 e101_61 ?_
      refine Ki e101_62 kiconst_1 ?_
      refine CN_le (a := 1) (b := 1) e101_63 t101_63 rfl (by decide) (by omega) (by omega) (fun _ => ?_) (fun q => by omega)
      exact Rvd e101_80 rt101 (by
      have e : w ++ xsP 1 = w ++ [nI 120] := by simp [xsP]
      rw [e]
      exact ⟨rfl, hP1, hF1, rfl, rfl⟩)
    · have kp : ¬ nI k ≤ 0 := by
        rw [i32le, nI_toInt (by omega), show (0 : Int32).toInt = 0 from rfl]
        omega
      refine LI2 e101_51 ?_
      refine B_le e101_52 t101_52 (fun q => absurd q (kp)) (fun _ => ?_)
      refine LA0 e101_55 ?_
      refine Ki e101_56 kbipush_120 ?_
      refine Cv1p e101_58 c101_103 (o147 L) (Nat.le_of_ble_eq_true rfl) (Nat.le_of_ble_eq_true rfl) (r_putL (n := 120) hR h (by omega) (by omega)) ?_
      rintro _ I1 J1 R1 ⟨rfl, hP1, hF1, hJ1, hR1⟩
      subst hJ1
      subst hR1
      refine LI2 e101_61 ?_
      refine Ki e101_62 kiconst_1 ?_
      refine CN_le (a := k) (b := 1) e101_63 t101_63 rfl (by decide) (by omega) (by omega) (fun q => absurd q (by omega)) (fun _ => ?_)
      refine LA0 e101_66 ?_
      refine Ki e101_67 kbipush_94 ?_
      refine Cv1p e101_69 c101_103 (o147 L) (Nat.le_of_ble_eq_true rfl) (Nat.le_of_ble_eq_true rfl) (r_putL (n := 94) hR hP1 (by simp; omega) (by omega)) ?_
      rintro _ I2 J2 R2 ⟨rfl, hP2, hF2, hJ2, hR2⟩
      subst hJ2
      subst hR2
      refine LA0 e101_72 ?_
      refine Ki e101_73 kbipush_48 ?_
      refine LI2 e101_75 ?_
      refine IaddN (a := 48) (b := k) e101_76 (by decide) rfl ?_
      refine Cv1p e101_77 c101_103 (o147 L) (Nat.le_of_ble_eq_true rfl) (Nat.le_of_ble_eq_true rfl) (r_putL (n := 48 + k) hR hP2 (by simp; omega) (by omega)) ?_
      rintro _ I3 J3 R3 ⟨rfl, hP3, hF3, hJ3, hR3⟩
      subst hJ3
      subst hR3
      exact Rvd e101_80 rt101 (by
      have e : w ++ xsP k = w ++ [nI 120] ++ [nI 94] ++ [nI (48 + k)] := by
        unfold xsP
        rw [if_pos (by omega), if_pos (by omega)]
        simp
      rw [e]
      exact ⟨rfl, hP3, (hF1.tr hF2).tr hF3, rfl, rfl⟩)
set_option maxHeartbeats 2000000 in
theorem r_term2 {x y : Int32} (hR : amRok R) (h : PL I w) (hw : w.length + 6 ≤ 60) (hk : k ≤ 4) (hs : s < 1000) (hy : y = nI s) : Ex 101 37 [some (.ref 147), some (.int x), some (.int (nI k)), some (.int y)] [] (amSH L) I J R (fun u I' J' R' => PpP I J R (w ++ (if s ≠ 1 ∨ k = 0 then dgs s else []) ++ xsP k) u I' J' R') := by
  subst hy
  by_cases g : s ≠ 1 ∨ k = 0
  · rw [if_pos g]
    have k3 := dgs_le s
    have go_on : Ex 101 46 [some (.ref 147), some (.int x), some (.int (nI k)), some (.int (nI s))] [] (amSH L) I J R (fun u I' J' R' => PpP I J R (w ++ dgs s ++ xsP k) u I' J' R') := by
      refine LA0 e101_46 ?_
      refine LI3 e101_47 ?_
      refine Cv1p e101_48 c101_102 (o147 L) (Nat.le_of_ble_eq_true rfl) (Nat.le_of_ble_eq_true rfl) (r_size hR h (by omega) hs) ?_
      rintro _ I1 J1 R1 ⟨rfl, hP1, hF1, hJ1, hR1⟩
      subst hJ1
      subst hR1
      refine (r_term3 hR hP1 (by rw [List.length_append]; omega) hk).mono (fun u I' J' R' ⟨q1, q2, q3, q4, q5⟩ => ⟨q1, q2, hF1.tr q3, q4, q5⟩)
    refine LI3 e101_37 ?_
    refine Ki e101_38 kiconst_1 ?_
    refine CN_ne (a := s) (b := 1) e101_39 t101_39 rfl (by decide) (by omega) (by omega) (fun h39 => ?_) (fun h39 => ?_)
    · exact go_on
    · refine LI2 e101_42 ?_
      refine B_ne e101_43 t101_43 (fun h43 => ?_) (fun h43 => ?_)
      · exact (g.elim (fun q => q h39) (fun q => h43 (by rw [q]; rfl))).elim
      · exact go_on
  · rw [if_neg g, List.append_nil]
    have g1 : s = 1 := by omega
    have g2 : ¬ nI k = 0 := fun q => by
      have q2 := congrArg Int32.toInt q
      rw [nI_toInt (by omega), show (0 : Int32).toInt = 0 from rfl] at q2
      omega
    refine LI3 e101_37 ?_
    refine Ki e101_38 kiconst_1 ?_
    refine CN_ne (a := s) (b := 1) e101_39 t101_39 rfl (by decide) (by omega) (by omega) (fun q => absurd q (by omega)) (fun _ => ?_)
    refine LI2 e101_42 ?_
    refine B_ne e101_43 t101_43 (fun _ => ?_) (fun q => absurd (g2) q)
    exact r_term3 hR h (by omega) hk
set_option maxHeartbeats 2000000 in
theorem r_term1 {x : Int32} (hR : amRok R) (h : PL I w) (hw : w.length + 6 ≤ 60) (hk : k ≤ 4) (hx : -999 ≤ x.toInt ∧ x.toInt ≤ 999) : Ex 101 26 [some (.ref 147), some (.int x), some (.int (nI k)), none] [] (amSH L) I J R (fun u I' J' R' => PpP I J R (w ++ (if x.toInt.natAbs ≠ 1 ∨ k = 0 then dgs x.toInt.natAbs else []) ++ xsP k) u I' J' R') := by
  refine LI1 e101_26 ?_
  refine B_ge e101_27 t101_27 (fun h27 => ?_) (fun h27 => ?_)
  · refine LI1 e101_35 ?_
    refine SI3 e101_36 rfl ?_
    exact r_term2 hR h hw hk (by omega) ((abs_pn hx).1 h27)
  · refine LI1 e101_30 ?_
    refine Ineg e101_31 ?_
    refine Go e101_32 t101_32 ?_
    refine SI3 e101_36 rfl ?_
    exact r_term2 hR h hw hk (by omega) ((abs_pn hx).2 h27)
set_option maxHeartbeats 2000000 in
theorem r_term {x : Int32} (hR : amRok R) (h : PL I w) (hw : w.length + 7 ≤ 60) (hk : k ≤ 4) (hx : -999 ≤ x.toInt ∧ x.toInt ≤ 999) : Cl 101 [.ref 147, .int x, .int (nI k)] (amSH L) I J R (fun u I' J' R' => PpP I J R (trm w x.toInt k) u I' J' R') := by
  show Ex 101 0 [some (.ref 147), some (.int x), some (.int (nI k)), none] [] (amSH L) I J R _
  rw [trm_eq]
  refine LI1 e101_0 ?_
  refine B_ge e101_1 t101_1 (fun h1 => ?_) (fun h1 => ?_)
  · refine LA0 e101_13 ?_
    refine Gi e101_14 (o147 L) (amGi_of f321 (by decide)) ?_
    rw [h.1]
    refine B_le e101_17 t101_17 (fun h17 => ?_) (fun h17 => ?_)
    · have es : sgP w x.toInt = w := by
        unfold sgP
        rw [if_neg (by rw [i32le, show (0 : Int32).toInt = 0 from rfl] at h1; omega), if_neg (by rw [i32le, nI_toInt (by omega), show (0 : Int32).toInt = 0 from rfl] at h17; omega)]
      rw [es]
      exact r_term1 hR h (by omega) hk hx
    · refine LA0 e101_20 ?_
      refine Ki e101_21 kbipush_43 ?_
      refine Cv1p e101_23 c101_103 (o147 L) (Nat.le_of_ble_eq_true rfl) (Nat.le_of_ble_eq_true rfl) (r_putL (n := 43) hR h (by omega) (by omega)) ?_
      rintro _ I1 J1 R1 ⟨rfl, hP1, hF1, hJ1, hR1⟩
      subst hJ1
      subst hR1
      have wl : 0 < w.length := by
        rw [i32le, nI_toInt (by omega), show (0 : Int32).toInt = 0 from rfl] at h17; omega
      have es : sgP w x.toInt = w ++ [nI 43] := by
        unfold sgP
        rw [if_neg (by rw [i32le, show (0 : Int32).toInt = 0 from rfl] at h1; omega), if_pos wl]
      refine (r_term1 hR hP1 (by simp; omega) hk hx).mono (fun u I' J' R' ⟨q1, q2, q3, q4, q5⟩ => ⟨q1, by rw [es]; exact q2, hF1.tr q3, q4, q5⟩)
  · refine LA0 e101_4 ?_
    refine Ki e101_5 kbipush_45 ?_
    refine Cv1p e101_7 c101_103 (o147 L) (Nat.le_of_ble_eq_true rfl) (Nat.le_of_ble_eq_true rfl) (r_putL (n := 45) hR h (by omega) (by omega)) ?_
    rintro _ I1 J1 R1 ⟨rfl, hP1, hF1, hJ1, hR1⟩
    subst hJ1
    subst hR1
    have es : sgP w x.toInt = w ++ [nI 45] := by
      unfold sgP
      rw [if_pos (by rw [i32le, show (0 : Int32).toInt = 0 from rfl] at h1; omega)]
    refine Go e101_10 t101_10 ?_
    refine (r_term1 hR hP1 (by simp; omega) hk hx).mono (fun u I' J' R' ⟨q1, q2, q3, q4, q5⟩ => ⟨q1, by rw [es]; exact q2, hF1.tr q3, q4, q5⟩)
/-- the powers below n, from the greatest on -/
def wrP (p : Po) : Nat → List Int32 → List Int32
  | 0, w => w
  | n + 1, w => wrP p n (if p n = 0 then w else trm w (p n) n)
theorem wrP_le : ∀ (n : Nat) (w : List Int32), (wrP p n w).length ≤ w.length + 7 * n
  | 0, w => by simp [wrP]
  | n + 1, w => by
    have h1 := wrP_le n (if p n = 0 then w else trm w (p n) n)
    have h2 := trm_le (w := w) (c := p n) (k := n)
    unfold wrP
    split at h1 <;> rename_i g
    · rw [if_pos g]; omega
    · rw [if_neg g]; omega
set_option maxHeartbeats 2000000 in
theorem r_write_lp (hR : amRok R) (ha : amPO (amSH L) R a) (hp : JP J (a + 1) p) (hB : PB 999 p) : ∀ (n : Nat) (I : amI) (w : List Int32) (l3 : Option Value), n ≤ 5 → w.length + 7 * n ≤ 60 → PL I w → Ex 100 7 [some (.ref 147), some (.ref a), some (.int (dI n)), l3] [] (amSH L) I J R (fun u I' J' R' => PpP I J R (wrP p n w) u I' J' R') := by
  intro n
  induction n with
  | zero =>
    intro I w l3 hn hw h
    refine LI2 e100_7 ?_
    refine B_lt e100_8 t100_8 (fun _ => ?_) (fun q => absurd (by decide) q)
    exact Rvd e100_34 rt100 (⟨rfl, h, FrPp.rf, rfl, rfl⟩)
  | succ n ih =>
    intro I w l3 hn hw h
    have hx : -999 ≤ ((oI (p n)).toInt32).toInt ∧ ((oI (p n)).toInt32).toInt ≤ 999 := by rw [l2i_oI (hB n (by omega))]; exact hB n (by omega)
    have hx0 : (oI (p n)).toInt32 = 0 ↔ p n = 0 := by
      rw [← Int32.toInt_inj, l2i_oI (hB n (by omega))]; rfl
    have h2 := trm_le (w := w) (c := p n) (k := n)
    show Ex 100 7 [some (.ref 147), some (.ref a), some (.int (nI n)), l3] [] (amSH L) I J R _
    unfold wrP
    refine LI2 e100_7 ?_
    refine B_lt e100_8 t100_8 (fun q => absurd q (nI_pos (by omega))) (fun _ => ?_)
    refine LA1 e100_11 ?_
    refine LI2 e100_12 ?_
    refine Cv1 e100_13 c100_3 ha.1 (Nat.le_of_ble_eq_true rfl) (Nat.le_of_ble_eq_true rfl) ((p_at ha (nI n))) ?_
    rw [atv_n (by omega), hp n (by omega)]
    refine L2i e100_16 ?_
    refine SI3 e100_17 rfl ?_
    refine LI3 e100_18 ?_
    refine B_eq e100_19 t100_19 (fun h19 => ?_) (fun h19 => ?_)
    · refine Inc2 (d := (-1)) e100_28 rfl rfl ?_
      refine Go e100_31 t100_31 ?_
      rw [if_pos (hx0.mp h19)]
      rw [show nI n + (-1) = dI n from dI_dec n]
      exact ih I _ _ (by omega) (by omega) h
    · refine LA0 e100_22 ?_
      refine LI3 e100_23 ?_
      refine LI2 e100_24 ?_
      refine Cv2p e100_25 c100_101 (o147 L) (Nat.le_of_ble_eq_true rfl) (Nat.le_of_ble_eq_true rfl) (r_term hR h (by omega) (by omega) hx) ?_
      rintro _ I1 J1 R1 ⟨rfl, hP1, hF1, hJ1, hR1⟩
      subst hJ1
      subst hR1
      rw [l2i_oI (hB n (by omega))] at hP1
      refine Inc2 (d := (-1)) e100_28 rfl rfl ?_
      refine Go e100_31 t100_31 ?_
      rw [if_neg (fun z => h19 (hx0.mpr z))]
      rw [show nI n + (-1) = dI n from dI_dec n]
      exact (ih I1 _ _ (by omega) (by omega) hP1).mono (fun u I' J' R' ⟨q1, q2, q3, q4, q5⟩ => ⟨q1, q2, hF1.tr q3, q4, q5⟩)
set_option maxHeartbeats 2000000 in
theorem r_write (hR : amRok R) (ha : amPO (amSH L) R a) (hp : JP J (a + 1) p) (hB : PB 999 p) : Cl 100 [.ref 147, .ref a] (amSH L) I J R (fun u I' J' R' => PpP I J R (wrP p 5 []) u I' J' R') := by
  show Ex 100 0 [some (.ref 147), some (.ref a), none, none] [] (amSH L) I J R _
  refine LA0 e100_0 ?_
  refine Ki e100_1 kiconst_0 ?_
  refine Pi e100_2 (o147 L) f321 ?_
  refine Ki e100_5 kiconst_4 ?_
  refine SI2 e100_6 rfl ?_
  refine (r_write_lp hR ha hp hB 5 _ [] none (by omega) (by simp) ⟨?_, fun k hk => absurd hk (Nat.not_lt_zero _)⟩).mono (fun u I' J' R' ⟨q1, q2, q3, q4, q5⟩ => ⟨q1, q2, fun y g1 g2 => ?_, q4, q5⟩)
  · rw [amU_same]; rfl
  · rw [q3 y g1 g2]; funext i; rw [amU_ne g1]
end PAPER2
