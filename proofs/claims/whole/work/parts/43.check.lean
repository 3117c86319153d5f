/-! the tape: the check of all of it (printed by wip/whole/t43.py) -/
/-- STATEMENTS from b on, c of them with this one: the fault's place, or how many -/
def ckN (T : Nat → Int32) (n : Nat) : Nat → Nat → Nat → Nat ⊕ Nat
  | 0, _, _ => .inl n
  | f + 1, b, c => match stmS T b with
    | .inl e => .inl e
    | .inr (k, _) => if k = n then .inr c else if T k = 59 then ckN T n f (k + 1) (c + 1) else .inl k
def ckI : Nat ⊕ Nat → Int32
  | .inl e => fI e
  | .inr c => nI c
section CHECK
variable {L : Nat} {I : amI} {J : amJ} {R : amR} {Q : amQ} {T : Nat → Int32} {n k b c e i t v : Nat} {p : Po}
set_option maxHeartbeats 2000000 in
theorem t_check_lp (hR : amRok R) : ∀ (f b c : Nat) (I : amI) (J : amJ), TT I T n → b ≤ n → c + f = 121 → Ex 87 4 [some (.ref 143), some (.int (nI b)), some (.int (nI c))] [] (amSH L) I J R (fun v I' J' R' => v = some (.int (ckI (ckN T n f b c))) ∧ FrT I I' ∧ R' = R ∧ Fr J J' 146) := by
  intro f
  induction f with
  | zero =>
    intro b c I J hT hb hc
    refine LI2 e87_4 ?_
    refine Ki e87_5 kbipush_120 ?_
    refine CN_gt (a := c) (b := 120) e87_7 t87_7 rfl (by decide) (by omega) (by omega) (fun _ => ?_) (fun q => by omega)
    refine LA0 e87_62 ?_
    refine Gi e87_63 (o143 L) (amGi_of f641 (by decide)) ?_
    rw [hT.1]
    refine Cs1 e87_66 c87_96 (Nat.le_of_ble_eq_true rfl) (Nat.le_of_ble_eq_true rfl) (t_fault) ?_
    exact Ri e87_69 rt87 (⟨rfl, FrT.rf, rfl, Fr.rf⟩)
  | succ f ih =>
    intro b c I J hT hb hc
    have hn := hT.2.1
    have hz := hT.2.2.2
    have hs := stmS_n hz hb
    rw [ckN]
    refine LI2 e87_4 ?_
    refine Ki e87_5 kbipush_120 ?_
    refine CN_gt (a := c) (b := 120) e87_7 t87_7 rfl (by decide) (by omega) (by omega) (fun q => absurd q (by omega)) (fun _ => ?_)
    refine LA0 e87_10 ?_
    refine LI1 e87_11 ?_
    refine Cv1p e87_12 c87_88 (o143 L) (Nat.le_of_ble_eq_true rfl) (Nat.le_of_ble_eq_true rfl) (t_statement hR hT hb) ?_
    rintro v I1 J1 R1 ⟨hF, hR1, hF1, hD⟩
    subst hR1
    have hT1 := hT.fr hF
    rcases hD with ⟨e, hE, rfl⟩ | ⟨k, q, hE, rfl, -⟩ | ⟨k, t, i, s, hE, -, rfl, -⟩
    · rw [hE]
      have he := hs.1 e hE
      refine SI1 e87_15 rfl ?_
      refine LI1 e87_16 ?_
      refine B_lt e87_17 t87_17 (fun _ => ?_) (fun q => absurd (fI_neg _ (by omega)) q)
      refine LI1 e87_28 ?_
      refine B_ge e87_29 t87_29 (fun q => absurd q (fI_nge (by omega))) (fun _ => ?_)
      refine LI1 e87_32 ?_
      refine Go e87_33 t87_33 ?_
      exact Ri e87_37 rt87 (⟨rfl, hF, rfl, hF1⟩)
    · rw [hE]
      dsimp only
      have hk := hs.2 k _ hE
      refine SI1 e87_15 rfl ?_
      refine LI1 e87_16 ?_
      refine B_lt e87_17 t87_17 (fun q => absurd q (nI_pos (by omega))) (fun _ => ?_)
      refine LI1 e87_20 ?_
      refine LA0 e87_21 ?_
      refine Gi e87_22 (o143 L) (amGi_of f641 (by decide)) ?_
      rw [hT1.1]
      refine CN_ne (a := k) (b := n) e87_25 t87_25 rfl rfl (by omega) (by omega) (fun h25 => ?_) (fun h25 => ?_)
      · refine LA0 e87_38 ?_
        refine LI1 e87_39 ?_
        refine Cv1 e87_40 c87_94 (o143 L) (Nat.le_of_ble_eq_true rfl) (Nat.le_of_ble_eq_true rfl) ((tq_at hR hT1 (by omega))) ?_
        refine Ki e87_43 kbipush_59 ?_
        refine C_eq e87_45 t87_45 (fun h45 => ?_) (fun h45 => ?_)
        · refine IncN1 (m := k) e87_53 rfl ?_
          refine IncN2 (m := c) e87_56 rfl ?_
          refine Go e87_59 t87_59 ?_
          rw [if_neg h25, if_pos h45]
          exact (ih (k + 1) (c + 1) _ _ hT1 (by omega) (by omega)).mono (fun v I' J' R' q => ⟨q.1, hF.tr q.2.1, q.2.2.1, hF1.tr q.2.2.2⟩)
        · refine LI1 e87_48 ?_
          refine Cs1 e87_49 c87_96 (Nat.le_of_ble_eq_true rfl) (Nat.le_of_ble_eq_true rfl) (t_fault) ?_
          exact Ri e87_52 rt87 (by
          rw [if_neg h25, if_neg h45]
          exact ⟨rfl, hF, rfl, hF1⟩)
      · refine LI1 e87_28 ?_
        refine B_ge e87_29 t87_29 (fun _ => ?_) (fun q => absurd (nI_nn (by omega)) q)
        refine LI2 e87_36 ?_
        exact Ri e87_37 rt87 (by
        rw [if_pos h25]
        exact ⟨rfl, hF, rfl, hF1⟩)
    · rw [hE]
      dsimp only
      have hk := hs.2 k _ hE
      refine SI1 e87_15 rfl ?_
      refine LI1 e87_16 ?_
      refine B_lt e87_17 t87_17 (fun q => absurd q (nI_pos (by omega))) (fun _ => ?_)
      refine LI1 e87_20 ?_
      refine LA0 e87_21 ?_
      refine Gi e87_22 (o143 L) (amGi_of f641 (by decide)) ?_
      rw [hT1.1]
      refine CN_ne (a := k) (b := n) e87_25 t87_25 rfl rfl (by omega) (by omega) (fun h25 => ?_) (fun h25 => ?_)
      · refine LA0 e87_38 ?_
        refine LI1 e87_39 ?_
        refine Cv1 e87_40 c87_94 (o143 L) (Nat.le_of_ble_eq_true rfl) (Nat.le_of_ble_eq_true rfl) ((tq_at hR hT1 (by omega))) ?_
        refine Ki e87_43 kbipush_59 ?_
        refine C_eq e87_45 t87_45 (fun h45 => ?_) (fun h45 => ?_)
        · refine IncN1 (m := k) e87_53 rfl ?_
          refine IncN2 (m := c) e87_56 rfl ?_
          refine Go e87_59 t87_59 ?_
          rw [if_neg h25, if_pos h45]
          exact (ih (k + 1) (c + 1) _ _ hT1 (by omega) (by omega)).mono (fun v I' J' R' q => ⟨q.1, hF.tr q.2.1, q.2.2.1, hF1.tr q.2.2.2⟩)
        · refine LI1 e87_48 ?_
          refine Cs1 e87_49 c87_96 (Nat.le_of_ble_eq_true rfl) (Nat.le_of_ble_eq_true rfl) (t_fault) ?_
          exact Ri e87_52 rt87 (by
          rw [if_neg h25, if_neg h45]
          exact ⟨rfl, hF, rfl, hF1⟩)
      · refine LI1 e87_28 ?_
        refine B_ge e87_29 t87_29 (fun _ => ?_) (fun q => absurd (nI_nn (by omega)) q)
        refine LI2 e87_36 ?_
        exact Ri e87_37 rt87 (by
        rw [if_pos h25]
        exact ⟨rfl, hF, rfl, hF1⟩)
theorem t_check (hR : amRok R) (hT : TT I T n) : Cl 87 [.ref 143] (amSH L) I J R (fun v I' J' R' => v = some (.int (ckI (ckN T n 120 0 1))) ∧ FrT I I' ∧ R' = R ∧ Fr J J' 146) := by
  show Ex 87 0 [some (.ref 143), none, none] [] (amSH L) I J R _
  refine Ki e87_0 kiconst_0 ?_
  refine SI1 e87_1 rfl ?_
  refine Ki e87_2 kiconst_1 ?_
  refine SI2 e87_3 rfl ?_
  exact t_check_lp hR 120 0 1 I J hT (Nat.zero_le _) rfl
end CHECK
