/-! calls: what comes onto the shelf: poly, make (printed by wip/whole/t55.py) -/
theorem CP.tr {I I1 I' : amI} {J J1 J' : amJ} {R R1 R' : amR} {σ : PS} {val : Value} {v : Option Value} (h : CP I1 J1 R1 σ val v I' J' R') (h1 : ∀ y, 152 ≤ y → I1 y = I y) (h2 : ∀ y, 152 ≤ y → J1 y = J y) (h3 : RC R R1) : CP I J R σ val v I' J' R' := ⟨h.1, h.2.1, fun y a => (h.2.2.1 y a).trans (h1 y a), fun y a => (h.2.2.2.1 y a).trans (h2 y a), h3.tr h.2.2.2.2⟩
def sBring (σ : PS) (g : Po) : Int32 × PS := if σ.1.length = 8 then (-3, σ) else if sz g = 0 then (-2, σ) else if sz g ≤ 5 ∧ mx g 9 ≤ 999 then (nI σ.1.length, (σ.1 ++ [g], σ.2)) else (-3, σ)
def p5 (a b c d e : Int) : Po := pU (pU (pU (pU (pU (fun _ => 0) 0 a) 1 b) 2 c) 3 d) 4 e
abbrev inN (c : Int32) : Prop := -999 ≤ c.toInt ∧ c.toInt ≤ 999
def sPoly (σ : PS) (a b c d e : Int32) : Int32 × PS := if inN a ∧ inN b ∧ inN c ∧ inN d ∧ inN e then sBring σ (p5 a.toInt b.toInt c.toInt d.toInt e.toInt) else (-1, σ)
/-- j is as it must be for t -/
abbrev okJ (ps : List Po) (t j : Int32) : Prop := if isTw t then inP ps j else if t = 6 ∨ t = 7 then -9 ≤ j.toInt ∧ j.toInt ≤ 9 else if t = 11 then 1 ≤ j.toInt ∧ j.toInt ≤ 4 else True
noncomputable def sMake (σ : PS) (t i j : Int32) : Int32 × PS := if (0 ≤ t.toInt ∧ t.toInt < 12) ∧ inP σ.1 i ∧ okJ σ.1 t j then (if σ.1.length = 8 then (-3, σ) else match mkF t.toInt.toNat (plP σ.1 i) (plP σ.1 j) j.toInt with
    | none => (-3, σ)
    | some g => sBring σ g) else (-1, σ)
theorem pU_PB {B : Int} {p : Po} {k : Nat} {v : Int} (h : PB B p) (hv : -B ≤ v ∧ v ≤ B) : PB B (pU p k v) := fun i hi => by
  unfold pU
  split
  · exact hv
  · exact h i hi
theorem bI_n {p : Prop} [Decidable p] (h : ¬ ¬ bI (decide p) = 0) : ¬ p := bI_f h
section BRING
variable {L : Nat} {I : amI} {J : amJ} {R : amR} {Q : amQ} {σ : PS} {a : Nat} {g : Po}
set_option maxHeartbeats 2000000 in
theorem k_bring (h : CSt I J R σ) (ha : amPO (amSH L) R a) (hg : JP J (a + 1) g) (hB : PB 4000000000000000000 g) (ha19 : 19 < a) : Cl 142 [.ref 1, .ref a] (amSH L) I J R (CP I J R (sBring σ g).2 (.int (sBring σ g).1)) := by
  obtain ⟨hR, ⟨x, y, hC⟩, hS, hK, hT, hW, hZ, hO⟩ := id h
  have h8 := hO.1.1
  have hs9 := sz_le g
  have hmB := mx_iB hB (n := 9) (Nat.le_refl _)
  unfold sBring
  show Ex 142 0 [some (.ref 1), some (.ref a), none] [] (amSH L) I J R _
  by_cases g8 : σ.1.length = 8
  · rw [if_pos g8]
    refine LA0 e142_0 ?_
    refine Gr e142_1 (o1 L) (hR 1 0 2 rfl) f704 ?_
    refine Cv0 e142_4 c142_54 (o2 L) (Nat.le_of_ble_eq_true rfl) (Nat.le_of_ble_eq_true rfl) (((show bI (decide (8 ≤ σ.1.length)) = 1 from by rw [decide_eq_true (by omega)]; rfl) ▸ s_full (s := 2) (Or.inl rfl) hR hS.1 h8)) ?_
    refine B_eq e142_7 t142_7 (fun q => absurd q (by decide)) (fun _ => ?_)
    refine Ki e142_10 kbipush_m3 ?_
    exact Ri e142_12 rt142 (CP.rf h)
  · rw [if_neg g8]
    by_cases g0 : sz g = 0
    · rw [if_pos g0]
      refine LA0 e142_0 ?_
      refine Gr e142_1 (o1 L) (hR 1 0 2 rfl) f704 ?_
      refine Cv0 e142_4 c142_54 (o2 L) (Nat.le_of_ble_eq_true rfl) (Nat.le_of_ble_eq_true rfl) (((show bI (decide (8 ≤ σ.1.length)) = 0 from by rw [decide_eq_false (by omega)]; rfl) ▸ s_full (s := 2) (Or.inl rfl) hR hS.1 h8)) ?_
      refine B_eq e142_7 t142_7 (fun _ => ?_) (fun q => absurd (rfl) q)
      refine LA1 e142_13 ?_
      refine Cv0 e142_14 c142_5 ha.1 (Nat.le_of_ble_eq_true rfl) (Nat.le_of_ble_eq_true rfl) ((p_degree ha hg hB)) ?_
      refine SI2 e142_17 rfl ?_
      refine LI2 e142_18 ?_
      refine B_ge e142_19 t142_19 (fun q => absurd q (fun z => by have := (dI_neg hs9).mpr g0; rw [i32lt] at this; rw [i32le] at z; omega)) (fun _ => ?_)
      refine Ki e142_22 kbipush_m2 ?_
      exact Ri e142_24 rt142 (CP.rf h)
    · rw [if_neg g0]
      have hge : 0 ≤ dI (sz g) := by
        rw [i32le, dI_toInt (by omega), show (0 : Int32).toInt = 0 from rfl]
        omega
      by_cases g5 : sz g ≤ 5 ∧ mx g 9 ≤ 999
      · rw [if_pos g5]
        refine LA0 e142_0 ?_
        refine Gr e142_1 (o1 L) (hR 1 0 2 rfl) f704 ?_
        refine Cv0 e142_4 c142_54 (o2 L) (Nat.le_of_ble_eq_true rfl) (Nat.le_of_ble_eq_true rfl) (((show bI (decide (8 ≤ σ.1.length)) = 0 from by rw [decide_eq_false (by omega)]; rfl) ▸ s_full (s := 2) (Or.inl rfl) hR hS.1 h8)) ?_
        refine B_eq e142_7 t142_7 (fun _ => ?_) (fun q => absurd (rfl) q)
        refine LA1 e142_13 ?_
        refine Cv0 e142_14 c142_5 ha.1 (Nat.le_of_ble_eq_true rfl) (Nat.le_of_ble_eq_true rfl) ((p_degree ha hg hB)) ?_
        refine SI2 e142_17 rfl ?_
        refine LI2 e142_18 ?_
        refine B_ge e142_19 t142_19 (fun _ => ?_) (fun q => absurd (hge) q)
        refine LI2 e142_25 ?_
        refine Ki e142_26 kiconst_4 ?_
        refine C_gt e142_27 t142_27 (fun q => absurd q (fun z => absurd z (by simp only [i32lt, dI_toInt (show sz g < 2 ^ 31 by omega), show (4 : Int32).toInt = 4 from rfl]; omega))) (fun _ => ?_)
        refine LA1 e142_30 ?_
        refine Cv0 e142_31 c142_10 ha.1 (Nat.le_of_ble_eq_true rfl) (Nat.le_of_ble_eq_true rfl) ((p_greatest ha hg hB)) ?_
        refine Kd e142_34 kj5 ?_
        rw [show (999 : Int64) = oI 999 from rfl]
        refine D_le e142_37 e142_38 t142_38 (fun _ => ?_) (fun q => absurd ((oI_le hmB ⟨by decide, by decide⟩).mpr (by omega)) q)
        refine LA0 e142_44 ?_
        refine Gr e142_45 (o1 L) (hR 1 0 2 rfl) f704 ?_
        refine LA1 e142_48 ?_
        refine Cv1p e142_49 c142_56 (o2 L) (Nat.le_of_ble_eq_true rfl) (Nat.le_of_ble_eq_true rfl) (s_add (s := 2) (Or.inl rfl) hR hS.1 h8 (by omega) ha (by omega) hg) ?_
        rintro _ I1 J1 R1 ⟨rfl, hI1, hR1, hF1, hP1⟩
        subst hR1
        have hf : ∀ y, y ≠ 2 → I1 y = I y := fun y a => by rw [hI1]; funext i; rw [amU_ne a]
        exact Ri e142_52 rt142 (by
        have hll : (σ.1 ++ [g]).length = σ.1.length + 1 := by simp
        have hok : Pok g := ⟨fun k hk => by have := mx_ge (p := g) hk; omega, by omega, g5.1⟩
        refine ⟨rfl, ⟨hR, ⟨x, y, hC⟩, ⟨by rw [hI1, amU_same]; show _ = nI (σ.1 ++ [g]).length; rw [hll], fun k hk => ?_⟩, hK.cg (hf 1 (by decide)) (hf 20 (by decide)) (fun l e => Or.inr (fun k hk => hF1 _ (by have := (hO.2.1 l e).1; omega))), hT.cg (hf 143 (by decide)) (hf 144 (by decide)), hW.cg (hf 147 (by decide)) (hf 148 (by decide)), hZ.cg (hf 150 (by decide)) (hf 151 (by decide)), ⟨⟨by show (σ.1 ++ [g]).length ≤ 8; omega, fun k hk => ?_⟩, hO.2⟩⟩, fun y hy => hf y (by omega), fun y hy => hF1 y (by omega), RC.rf⟩
        · have hk2 : k < (σ.1 ++ [g]).length := hk
          show JP J1 _ ((σ.1 ++ [g]).getD k zP)
          by_cases e : k = σ.1.length
          · rw [e, gd_r]
            exact hP1
          · rw [gd_l (by omega)]
            exact (hS.2 k (by omega)).fr hF1 (by omega)
        · have hk2 : k < (σ.1 ++ [g]).length := hk
          show Pok ((σ.1 ++ [g]).getD k zP)
          by_cases e : k = σ.1.length
          · rw [e, gd_r]
            exact hok
          · rw [gd_l (by omega)]
            exact hO.1.2 k (by omega))
      · rw [if_neg g5]
        refine LA0 e142_0 ?_
        refine Gr e142_1 (o1 L) (hR 1 0 2 rfl) f704 ?_
        refine Cv0 e142_4 c142_54 (o2 L) (Nat.le_of_ble_eq_true rfl) (Nat.le_of_ble_eq_true rfl) (((show bI (decide (8 ≤ σ.1.length)) = 0 from by rw [decide_eq_false (by omega)]; rfl) ▸ s_full (s := 2) (Or.inl rfl) hR hS.1 h8)) ?_
        refine B_eq e142_7 t142_7 (fun _ => ?_) (fun q => absurd (rfl) q)
        refine LA1 e142_13 ?_
        refine Cv0 e142_14 c142_5 ha.1 (Nat.le_of_ble_eq_true rfl) (Nat.le_of_ble_eq_true rfl) ((p_degree ha hg hB)) ?_
        refine SI2 e142_17 rfl ?_
        refine LI2 e142_18 ?_
        refine B_ge e142_19 t142_19 (fun _ => ?_) (fun q => absurd (hge) q)
        refine LI2 e142_25 ?_
        refine Ki e142_26 kiconst_4 ?_
        refine C_gt e142_27 t142_27 (fun hh27 => ?_) (fun hh27 => ?_)
        · refine Ki e142_41 kbipush_m3 ?_
          exact Ri e142_43 rt142 (CP.rf h)
        · refine LA1 e142_30 ?_
          refine Cv0 e142_31 c142_10 ha.1 (Nat.le_of_ble_eq_true rfl) (Nat.le_of_ble_eq_true rfl) ((p_greatest ha hg hB)) ?_
          refine Kd e142_34 kj5 ?_
          rw [show (999 : Int64) = oI 999 from rfl]
          refine D_le e142_37 e142_38 t142_38 (fun hh37 => ?_) (fun hh37 => ?_)
          · rw [oI_le hmB ⟨by decide, by decide⟩] at hh37
            simp only [i32lt, dI_toInt (show sz g < 2 ^ 31 by omega), show (4 : Int32).toInt = 4 from rfl] at hh27
            exact (g5 ⟨by omega, by omega⟩).elim
          · refine Ki e142_41 kbipush_m3 ?_
            exact Ri e142_43 rt142 (CP.rf h)
set_option maxHeartbeats 2000000 in
theorem k_poly {ca cb cc cd ce : Int32} (h : CSt I J R σ) : Cl 111 [.ref 1, .int ca, .int cb, .int cc, .int cd, .int ce] (amSH L) I J R (CP I J R (sPoly σ ca cb cc cd ce).2 (.int (sPoly σ ca cb cc cd ce).1)) := by
  obtain ⟨hR, ⟨x, y, hC⟩, hS, hK, hT, hW, hZ, hO⟩ := id h
  have h8 := hO.1.1
  unfold sPoly
  show Ex 111 0 [some (.ref 1), some (.int ca), some (.int cb), some (.int cc), some (.int cd), some (.int ce)] [] (amSH L) I J R _
  refine LI1 e111_0 ?_
  refine Cs1 e111_1 c111_145 (Nat.le_of_ble_eq_true rfl) (Nat.le_of_ble_eq_true rfl) (x_beyond) ?_
  refine B_ne e111_4 t111_4 (fun h4 => ?_) (fun h4 => ?_)
  · refine Ki e111_37 kiconst_m1 ?_
    exact Ri e111_38 rt111 (by
    rw [if_neg (fun z => by
      first
        | exact bI_t h4 z.1
        | exact bI_t h11 z.2.1
        | exact bI_t h18 z.2.2.1
        | exact bI_t h26 z.2.2.2.1
        | exact bI_t (fun y => h34 y) z.2.2.2.2)]
    exact CP.rf h)
  · refine LI2 e111_7 ?_
    refine Cs1 e111_8 c111_145 (Nat.le_of_ble_eq_true rfl) (Nat.le_of_ble_eq_true rfl) (x_beyond) ?_
    refine B_ne e111_11 t111_11 (fun h11 => ?_) (fun h11 => ?_)
    · refine Ki e111_37 kiconst_m1 ?_
      exact Ri e111_38 rt111 (by
      rw [if_neg (fun z => by
        first
          | exact bI_t h4 z.1
          | exact bI_t h11 z.2.1
          | exact bI_t h18 z.2.2.1
          | exact bI_t h26 z.2.2.2.1
          | exact bI_t (fun y => h34 y) z.2.2.2.2)]
      exact CP.rf h)
    · refine LI3 e111_14 ?_
      refine Cs1 e111_15 c111_145 (Nat.le_of_ble_eq_true rfl) (Nat.le_of_ble_eq_true rfl) (x_beyond) ?_
      refine B_ne e111_18 t111_18 (fun h18 => ?_) (fun h18 => ?_)
      · refine Ki e111_37 kiconst_m1 ?_
        exact Ri e111_38 rt111 (by
        rw [if_neg (fun z => by
          first
            | exact bI_t h4 z.1
            | exact bI_t h11 z.2.1
            | exact bI_t h18 z.2.2.1
            | exact bI_t h26 z.2.2.2.1
            | exact bI_t (fun y => h34 y) z.2.2.2.2)]
        exact CP.rf h)
      · refine LI4 e111_21 ?_
        refine Cs1 e111_23 c111_145 (Nat.le_of_ble_eq_true rfl) (Nat.le_of_ble_eq_true rfl) (x_beyond) ?_
        refine B_ne e111_26 t111_26 (fun h26 => ?_) (fun h26 => ?_)
        · refine Ki e111_37 kiconst_m1 ?_
          exact Ri e111_38 rt111 (by
          rw [if_neg (fun z => by
            first
              | exact bI_t h4 z.1
              | exact bI_t h11 z.2.1
              | exact bI_t h18 z.2.2.1
              | exact bI_t h26 z.2.2.2.1
              | exact bI_t (fun y => h34 y) z.2.2.2.2)]
          exact CP.rf h)
        · refine LI5 e111_29 ?_
          refine Cs1 e111_31 c111_145 (Nat.le_of_ble_eq_true rfl) (Nat.le_of_ble_eq_true rfl) (x_beyond) ?_
          refine B_eq e111_34 t111_34 (fun h34 => ?_) (fun h34 => ?_)
          · have n1 : inN ca := Decidable.not_not.mp (bI_n h4)
            have n2 : inN cb := Decidable.not_not.mp (bI_n h11)
            have n3 : inN cc := Decidable.not_not.mp (bI_n h18)
            have n4 : inN cd := Decidable.not_not.mp (bI_n h26)
            have n5 : inN ce := Decidable.not_not.mp (bI_z h34)
            rw [if_pos ⟨n1, n2, n3, n4, n5⟩]
            refine LA0 e111_39 ?_
            refine Gr e111_40 (o1 L) (hR 1 3 38 rfl) f707 ?_
            refine Cv0p e111_43 c111_7 (o38 L) (Nat.le_of_ble_eq_true rfl) (Nat.le_of_ble_eq_true rfl) (p_clear (po38 hR)) ?_
            rintro _ I0 J0 R0 ⟨rfl, hI0, hR0, hF0, hP0⟩
            subst hI0
            subst hR0
            refine LA0 e111_46 ?_
            refine Gr e111_47 (o1 L) (hR 1 3 38 rfl) f707 ?_
            refine Ki e111_50 kiconst_0 ?_
            refine LI1 e111_51 ?_
            refine I2l e111_52 ?_
            rw [i2l_oI ca]
            refine Cv2p e111_53 c111_4 (o38 L) (Nat.le_of_ble_eq_true rfl) (Nat.le_of_ble_eq_true rfl) (p_put (k := 0) (v := ca.toInt) (po38 hR) hP0 (by decide)) ?_
            rintro _ I1 J1 R1 ⟨rfl, hI1, hR1, hF1, hP1⟩
            subst hI1
            subst hR1
            refine LA0 e111_56 ?_
            refine Gr e111_57 (o1 L) (hR 1 3 38 rfl) f707 ?_
            refine Ki e111_60 kiconst_1 ?_
            refine LI2 e111_61 ?_
            refine I2l e111_62 ?_
            rw [i2l_oI cb]
            refine Cv2p e111_63 c111_4 (o38 L) (Nat.le_of_ble_eq_true rfl) (Nat.le_of_ble_eq_true rfl) (p_put (k := 1) (v := cb.toInt) (po38 hR) hP1 (by decide)) ?_
            rintro _ I2 J2 R2 ⟨rfl, hI2, hR2, hF2, hP2⟩
            subst hI2
            subst hR2
            refine LA0 e111_66 ?_
            refine Gr e111_67 (o1 L) (hR 1 3 38 rfl) f707 ?_
            refine Ki e111_70 kiconst_2 ?_
            refine LI3 e111_71 ?_
            refine I2l e111_72 ?_
            rw [i2l_oI cc]
            refine Cv2p e111_73 c111_4 (o38 L) (Nat.le_of_ble_eq_true rfl) (Nat.le_of_ble_eq_true rfl) (p_put (k := 2) (v := cc.toInt) (po38 hR) hP2 (by decide)) ?_
            rintro _ I3 J3 R3 ⟨rfl, hI3, hR3, hF3, hP3⟩
            subst hI3
            subst hR3
            refine LA0 e111_76 ?_
            refine Gr e111_77 (o1 L) (hR 1 3 38 rfl) f707 ?_
            refine Ki e111_80 kiconst_3 ?_
            refine LI4 e111_81 ?_
            refine I2l e111_83 ?_
            rw [i2l_oI cd]
            refine Cv2p e111_84 c111_4 (o38 L) (Nat.le_of_ble_eq_true rfl) (Nat.le_of_ble_eq_true rfl) (p_put (k := 3) (v := cd.toInt) (po38 hR) hP3 (by decide)) ?_
            rintro _ I4 J4 R4 ⟨rfl, hI4, hR4, hF4, hP4⟩
            subst hI4
            subst hR4
            refine LA0 e111_87 ?_
            refine Gr e111_88 (o1 L) (hR 1 3 38 rfl) f707 ?_
            refine Ki e111_91 kiconst_4 ?_
            refine LI5 e111_92 ?_
            refine I2l e111_94 ?_
            rw [i2l_oI ce]
            refine Cv2p e111_95 c111_4 (o38 L) (Nat.le_of_ble_eq_true rfl) (Nat.le_of_ble_eq_true rfl) (p_put (k := 4) (v := ce.toInt) (po38 hR) hP4 (by decide)) ?_
            rintro _ I5 J5 R5 ⟨rfl, hI5, hR5, hF5, hP5⟩
            subst hI5
            subst hR5
            have hFF : Fr J J5 (38 + 1) := ((((hF0.tr hF1).tr hF2).tr hF3).tr hF4).tr hF5
            have hst : CSt _ J5 R5 σ := h.k ⟨fun _ _ => rfl, fun y hy => hFF y (by omega)⟩ hR ⟨x, y, hC⟩
            have hPB : PB 4000000000000000000 (p5 ca.toInt cb.toInt cc.toInt cd.toInt ce.toInt) := PB.mono (pU_PB (pU_PB (pU_PB (pU_PB (pU_PB (fun _ _ => ⟨by decide, by decide⟩) n1) n2) n3) n4) n5) (by decide)
            refine LA0 e111_98 ?_
            refine LA0 e111_99 ?_
            refine Gr e111_100 (o1 L) (hR 1 3 38 rfl) f707 ?_
            refine Cv1p e111_103 c111_142 (o1 L) (Nat.le_of_ble_eq_true rfl) (Nat.le_of_ble_eq_true rfl) (k_bring hst (po38 hR) hP5 hPB (by decide)) ?_
            rintro v I9 J9 R9 hres
            obtain rfl := hres.1
            exact Ri e111_106 rt111 (hres.tr (fun _ _ => rfl) (fun y hy => hFF y (by omega)) RC.rf)
          · refine Ki e111_37 kiconst_m1 ?_
            exact Ri e111_38 rt111 (by
            rw [if_neg (fun z => by
              first
                | exact bI_t h4 z.1
                | exact bI_t h11 z.2.1
                | exact bI_t h18 z.2.2.1
                | exact bI_t h26 z.2.2.2.1
                | exact bI_t (fun y => h34 y) z.2.2.2.2)]
            exact CP.rf h)
end BRING
