/-! the reference: isTold (printed by wip/whole/t82.py) -/
theorem nI_sub_t : ∀ a, a ≤ 20 → ∀ b, b ≤ 20 → (nI a - nI b).toInt = (a : Int) - b := hr_k0
section REF17
variable {L : Nat} {I : amI} {J : amJ} {R : amR} {Q : amQ} {a B t : Nat} {q : Po} {ps l : List Po} {σ : PS}
set_option maxHeartbeats 2000000 in
theorem m_isTold {x b t : Nat} {c : Nat → Int32} (hR : amRok R) (hM : MI I J 0 l) (hx : x ≤ 92) (ht : t ≤ 20) (h0 : I 202 x = c b) (h1 : I 202 (x + 1) = c (b + 1)) (h2 : I 202 (x + 2) = c (b + 2)) (h3 : I 202 (x + 3) = c (b + 3)) : Rv 236 [.ref 152, .int (nI x), .int (nI t)] (amSH L) I J R (.int (bI (decide (tlK l c b t)))) := by
  have q1 := tB_5 hM.2.1
  have q2 := fun u v => tA_5 (l := l) u v
  have q3 := hM.2.2.1
  intro Q hQ
  have mb : ∀ u v : Int32, (-1000 ≤ u.toInt ∧ u.toInt ≤ 1000) → (1 ≤ v.toInt ∧ v.toInt ≤ 1000) → iB (u.toInt * v.toInt) := fun u v hu hv => by
    have := mul_b (x := u.toInt) (y := v.toInt) (B := 1000) (C := 1000) (by omega) (by omega)
    exact ⟨by omega, by omega⟩
  show Ex 236 0 [some (.ref 152), some (.int (nI x)), some (.int (nI t)), none, none, none, none, none] [] (amSH L) I J R _
  refine LA0 e236_0 ?_
  refine Gr e236_1 (o152 L) (hR 152 48 202 rfl) f816 ?_
  refine LI1 e236_4 ?_
  refine AiN (k := x) e236_5 (o202 L) rfl (by omega) (by decide) ?_
  rw [h0]
  refine SI3 e236_6 rfl ?_
  refine LA0 e236_7 ?_
  refine Gr e236_8 (o152 L) (hR 152 48 202 rfl) f816 ?_
  refine LI1 e236_11 ?_
  refine Ki e236_12 kiconst_1 ?_
  refine IaddN (a := x) (b := 1) e236_13 rfl (by decide) ?_
  refine AiN (k := (x + 1)) e236_14 (o202 L) rfl (by omega) (by decide) ?_
  rw [h1]
  refine SI4 e236_15 rfl ?_
  refine LA0 e236_17 ?_
  refine Gr e236_18 (o152 L) (hR 152 48 202 rfl) f816 ?_
  refine LI1 e236_21 ?_
  refine Ki e236_22 kiconst_2 ?_
  refine IaddN (a := x) (b := 2) e236_23 rfl (by decide) ?_
  refine AiN (k := (x + 2)) e236_24 (o202 L) rfl (by omega) (by decide) ?_
  rw [h2]
  refine SI5 e236_25 rfl ?_
  refine LA0 e236_27 ?_
  refine Gr e236_28 (o152 L) (hR 152 48 202 rfl) f816 ?_
  refine LI1 e236_31 ?_
  refine Ki e236_32 kiconst_3 ?_
  refine IaddN (a := x) (b := 3) e236_33 rfl (by decide) ?_
  refine AiN (k := (x + 3)) e236_34 (o202 L) rfl (by omega) (by decide) ?_
  rw [h3]
  refine SI6 e236_35 rfl ?_
  refine LI3 e236_37 ?_
  refine LI4 e236_38 ?_
  refine Cs2 e236_40 c236_167 (Nat.le_of_ble_eq_true rfl) (Nat.le_of_ble_eq_true rfl) (m_isPoint) ?_
  refine B_eq e236_43 t236_43 (fun h43 => ?_) (fun h43 => ?_)
  · refine Ki e236_73 kiconst_0 ?_
    exact Rz e236_74 rt236 (by decide) (by
    have hno : ¬ tlK l c b t := fun z => by
      first
        | exact bI_z h43 z.1
        | exact bI_z h53 z.2.1
        | exact absurd ((oI_lt (mb _ _ z.1.1 z.2.1.2) (mb _ _ z.2.1.1 z.1.2)).mpr z.2.2.1) (by first | exact h69 | exact Int64.not_lt.mpr h69)
    rw [decide_eq_false hno] at hQ
    exact hQ)
  · refine LI5 e236_46 ?_
    refine LI6 e236_48 ?_
    refine Cs2 e236_50 c236_167 (Nat.le_of_ble_eq_true rfl) (Nat.le_of_ble_eq_true rfl) (m_isPoint) ?_
    refine B_eq e236_53 t236_53 (fun h53 => ?_) (fun h53 => ?_)
    · refine Ki e236_73 kiconst_0 ?_
      exact Rz e236_74 rt236 (by decide) (by
      have hno : ¬ tlK l c b t := fun z => by
        first
          | exact bI_z h43 z.1
          | exact bI_z h53 z.2.1
          | exact absurd ((oI_lt (mb _ _ z.1.1 z.2.1.2) (mb _ _ z.2.1.1 z.1.2)).mpr z.2.2.1) (by first | exact h69 | exact Int64.not_lt.mpr h69)
      rw [decide_eq_false hno] at hQ
      exact hQ)
    · refine LI3 e236_56 ?_
      refine I2l e236_57 ?_
      rw [i2l_oI (c b)]
      refine LI6 e236_58 ?_
      refine I2l e236_60 ?_
      rw [i2l_oI (c (b + 3))]
      refine Lmul e236_61 ?_
      rw [oI_mul]
      refine LI5 e236_62 ?_
      refine I2l e236_64 ?_
      rw [i2l_oI (c (b + 2))]
      refine LI4 e236_65 ?_
      refine I2l e236_67 ?_
      rw [i2l_oI (c (b + 1))]
      refine Lmul e236_68 ?_
      rw [oI_mul]
      refine D_lt e236_69 e236_70 t236_70 (fun h69 => ?_) (fun h69 => ?_)
      · refine LA0 e236_75 ?_
        refine Ki e236_76 kiconst_0 ?_
        refine LI3 e236_77 ?_
        refine I2l e236_78 ?_
        rw [i2l_oI (c b)]
        refine LI4 e236_79 ?_
        refine I2l e236_81 ?_
        rw [i2l_oI (c (b + 1))]
        refine Cv3 e236_82 c236_186 (o152 L) (Nat.le_of_ble_eq_true rfl) (Nat.le_of_ble_eq_true rfl) ((m_chgAt (u := (c b).toInt) (v := (c (b + 1)).toInt) hR (by decide) hM)) ?_
        refine SI7 e236_85 rfl ?_
        refine LI7 e236_87 ?_
        refine LA0 e236_89 ?_
        refine Ki e236_90 kiconst_0 ?_
        refine LI5 e236_91 ?_
        refine I2l e236_93 ?_
        rw [i2l_oI (c (b + 2))]
        refine LI6 e236_94 ?_
        refine I2l e236_96 ?_
        rw [i2l_oI (c (b + 3))]
        refine Cv3 e236_97 c236_186 (o152 L) (Nat.le_of_ble_eq_true rfl) (Nat.le_of_ble_eq_true rfl) ((m_chgAt (u := (c (b + 2)).toInt) (v := (c (b + 3)).toInt) hR (by decide) hM)) ?_
        refine Isub e236_100 ?_
        refine Ki e236_101 kiconst_1 ?_
        refine C_ne e236_102 t236_102 (fun h102 => ?_) (fun h102 => ?_)
        · refine Ki e236_122 kiconst_0 ?_
          exact Rz e236_123 rt236 (by decide) (by
          have hpt1 : isPt (c b) (c (b + 1)) := bI_t h43
          have hpt2 : isPt (c (b + 2)) (c (b + 3)) := bI_t h53
          have a1 := q2 (c b).toInt (c (b + 1)).toInt
          have a2 := q2 (c (b + 2)).toInt (c (b + 3)).toInt
          have n1 := nI_sub_t (tA l (c b).toInt (c (b + 1)).toInt) (by omega) (tA l (c (b + 2)).toInt (c (b + 3)).toInt) (by omega)
          have n2 := nI_sub_t (tB l) (by omega) (tA l (c b).toInt (c (b + 1)).toInt) (by omega)
          have n3 := nI_sub_t (tB l) (by omega) (tA l (c (b + 2)).toInt (c (b + 3)).toInt) (by omega)
          have n4 : (nI t).toInt = t := nI_toInt (by omega)
          have n5 : (nI (t + 1)).toInt = t + 1 := nI_toInt (by omega)
          have hno : ¬ tlK l c b t := fun z => by
            have z4 := congrArg Int32.toInt z.2.2.2.1
            have z5 := congrArg Int32.toInt z.2.2.2.2
            rw [n2, n4] at z4
            rw [n3, n5] at z5
            have f1 : nI (tA l (c b).toInt (c (b + 1)).toInt) - nI (tA l (c (b + 2)).toInt (c (b + 3)).toInt) = 1 := by rw [← Int32.toInt_inj, n1, show (1 : Int32).toInt = 1 from rfl]; omega
            have f2 : nI (tB l) - nI (tA l (c b).toInt (c (b + 1)).toInt) = nI t := z.2.2.2.1
            first
              | exact h102 f1
              | exact h102 (not_not_intro f1)
              | exact h115 f2
              | exact h115 (not_not_intro f2)
          rw [decide_eq_false hno] at hQ
          exact hQ)
        · refine LA0 e236_105 ?_
          refine Ki e236_106 kiconst_0 ?_
          refine Ki e236_107 kiconst_m1 ?_
          refine Cv2 e236_108 c236_187 (o152 L) (Nat.le_of_ble_eq_true rfl) (Nat.le_of_ble_eq_true rfl) ((m_by_lo hR (by decide) hM)) ?_
          refine LI7 e236_111 ?_
          refine Isub e236_113 ?_
          refine LI2 e236_114 ?_
          refine C_ne e236_115 t236_115 (fun h115 => ?_) (fun h115 => ?_)
          · refine Ki e236_122 kiconst_0 ?_
            exact Rz e236_123 rt236 (by decide) (by
            have hpt1 : isPt (c b) (c (b + 1)) := bI_t h43
            have hpt2 : isPt (c (b + 2)) (c (b + 3)) := bI_t h53
            have a1 := q2 (c b).toInt (c (b + 1)).toInt
            have a2 := q2 (c (b + 2)).toInt (c (b + 3)).toInt
            have n1 := nI_sub_t (tA l (c b).toInt (c (b + 1)).toInt) (by omega) (tA l (c (b + 2)).toInt (c (b + 3)).toInt) (by omega)
            have n2 := nI_sub_t (tB l) (by omega) (tA l (c b).toInt (c (b + 1)).toInt) (by omega)
            have n3 := nI_sub_t (tB l) (by omega) (tA l (c (b + 2)).toInt (c (b + 3)).toInt) (by omega)
            have n4 : (nI t).toInt = t := nI_toInt (by omega)
            have n5 : (nI (t + 1)).toInt = t + 1 := nI_toInt (by omega)
            have hno : ¬ tlK l c b t := fun z => by
              have z4 := congrArg Int32.toInt z.2.2.2.1
              have z5 := congrArg Int32.toInt z.2.2.2.2
              rw [n2, n4] at z4
              rw [n3, n5] at z5
              have f1 : nI (tA l (c b).toInt (c (b + 1)).toInt) - nI (tA l (c (b + 2)).toInt (c (b + 3)).toInt) = 1 := by rw [← Int32.toInt_inj, n1, show (1 : Int32).toInt = 1 from rfl]; omega
              have f2 : nI (tB l) - nI (tA l (c b).toInt (c (b + 1)).toInt) = nI t := z.2.2.2.1
              first
                | exact h102 f1
                | exact h102 (not_not_intro f1)
                | exact h115 f2
                | exact h115 (not_not_intro f2)
            rw [decide_eq_false hno] at hQ
            exact hQ)
          · refine Ki e236_118 kiconst_1 ?_
            refine Go e236_119 t236_119 ?_
            exact Rz e236_123 rt236 (by decide) (by
            have hpt1 : isPt (c b) (c (b + 1)) := bI_t h43
            have hpt2 : isPt (c (b + 2)) (c (b + 3)) := bI_t h53
            have a1 := q2 (c b).toInt (c (b + 1)).toInt
            have a2 := q2 (c (b + 2)).toInt (c (b + 3)).toInt
            have n1 := nI_sub_t (tA l (c b).toInt (c (b + 1)).toInt) (by omega) (tA l (c (b + 2)).toInt (c (b + 3)).toInt) (by omega)
            have n2 := nI_sub_t (tB l) (by omega) (tA l (c b).toInt (c (b + 1)).toInt) (by omega)
            have n3 := nI_sub_t (tB l) (by omega) (tA l (c (b + 2)).toInt (c (b + 3)).toInt) (by omega)
            have n4 : (nI t).toInt = t := nI_toInt (by omega)
            have n5 : (nI (t + 1)).toInt = t + 1 := nI_toInt (by omega)
            have e1 : nI (tA l (c b).toInt (c (b + 1)).toInt) - nI (tA l (c (b + 2)).toInt (c (b + 3)).toInt) = 1 := by first | exact h102 | exact Decidable.not_not.mp h102
            have e2 : nI (tB l) - nI (tA l (c b).toInt (c (b + 1)).toInt) = nI t := by first | exact h115 | exact Decidable.not_not.mp h115
            have e1 := congrArg Int32.toInt e1
            have e2t := congrArg Int32.toInt e2
            rw [n1, show (1 : Int32).toInt = 1 from rfl] at e1
            rw [n2, n4] at e2t
            have hy : tlK l c b t := ⟨hpt1, hpt2, (oI_lt (mb _ _ hpt1.1 hpt2.2) (mb _ _ hpt2.1 hpt1.2)).mp h69, e2, by rw [← Int32.toInt_inj, n3, n5]; omega⟩
            rw [decide_eq_true hy] at hQ
            exact hQ)
      · refine Ki e236_73 kiconst_0 ?_
        exact Rz e236_74 rt236 (by decide) (by
        have hno : ¬ tlK l c b t := fun z => by
          first
            | exact bI_z h43 z.1
            | exact bI_z h53 z.2.1
            | exact absurd ((oI_lt (mb _ _ z.1.1 z.2.1.2) (mb _ _ z.2.1.1 z.1.2)).mpr z.2.2.1) (by first | exact h69 | exact Int64.not_lt.mpr h69)
        rw [decide_eq_false hno] at hQ
        exact hQ)
end REF17
