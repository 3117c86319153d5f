/-! the reference: multiplies (printed by wip/whole/t85.py) -/
section REF20
variable {L : Nat} {I : amI} {J : amJ} {R : amR} {Q : amQ} {a b c : Nat} {p q : Po}
set_option maxHeartbeats 2000000 in
theorem m_mu_in {i : Nat} (ha : amA (amSH L) a 1 9) (hb : amA (amSH L) b 1 9) (hc : amA (amSH L) c 1 9) (hac : a ≠ c) (hbc : b ≠ c) (hp : JP J a p) (hq : JP J b q) (hi : i < 9) (hK : ∀ J', Fr J J' c → JP J' c (cvP p q i (9 - i)) → Ex 205 47 [some (.ref a), some (.ref b), some (.ref c), some (.int (nI i)), some (.int (nI (9 - i)))] [] (amSH L) I J' R Q) : ∀ (n m : Nat) (J' : amJ), 9 - m < n → m ≤ 9 - i → Fr J J' c → JP J' c (cvP p q i m) → Ex 205 15 [some (.ref a), some (.ref b), some (.ref c), some (.int (nI i)), some (.int (nI m))] [] (amSH L) I J' R Q := by
  intro n
  induction n with
  | zero => intro m J' h; omega
  | succ n ih =>
    intro m J' h h9 hJ hF
    refine LI3 e205_15 ?_
    refine LI4 e205_16 ?_
    refine IaddN (a := i) (b := m) e205_18 rfl rfl ?_
    refine Ki e205_19 kbipush_9 ?_
    refine CN_ge (a := (i + m)) (b := 9) e205_21 t205_21 rfl (by decide) (by omega) (by omega) (fun h21 => ?_) (fun h21 => ?_)
    · have e9 : m = 9 - i := by omega
      subst e9
      exact hK _ hJ hF
    · refine LA2 e205_24 ?_
      refine LI3 e205_25 ?_
      refine LI4 e205_26 ?_
      refine IaddN (a := i) (b := m) e205_28 rfl rfl ?_
      refine Dup2 e205_29 ⟨rfl, rfl⟩ ?_
      refine AjN (k := (i + m)) e205_30 hc rfl (by omega) (by decide) ?_
      refine LA0 e205_31 ?_
      refine LI3 e205_32 ?_
      refine AjN (k := i) e205_33 ha rfl (by omega) (by decide) ?_
      refine LA1 e205_34 ?_
      refine LI4 e205_35 ?_
      refine AjN (k := m) e205_37 hb rfl (by omega) (by decide) ?_
      refine Lmul e205_38 ?_
      refine Ladd e205_39 ?_
      refine WjN (k := (i + m)) e205_40 hc rfl (by omega) (by decide) ?_
      refine IncN4 (m := m) e205_41 rfl ?_
      refine Go e205_44 t205_44 ?_
      refine ih (m + 1) _ (by omega) (by omega) hJ.up (fun k hk => ?_)
      by_cases e : k = i + m
      · subst e
        rw [amU_same, hF _ hk, hJ a hac, hJ b hbc, hp i (by omega), hq m (by omega), oI_mul, oI_add]
        unfold cvP
        rw [if_neg (by omega), if_pos ⟨by omega, by omega⟩, Nat.add_sub_cancel_left, Int.add_zero]
      · rw [amU_ni e, hF k hk]
        unfold cvP
        by_cases g : i ≤ k ∧ k < i + m
        · rw [if_pos g, if_pos ⟨g.1, by omega⟩]
        · rw [if_neg g, if_neg (by omega)]
set_option maxHeartbeats 2000000 in
theorem m_mu_lp (ha : amA (amSH L) a 1 9) (hb : amA (amSH L) b 1 9) (hc : amA (amSH L) c 1 9) (hac : a ≠ c) (hbc : b ≠ c) (hp : JP J a p) (hq : JP J b q) : ∀ (n i : Nat) (l4 : Option Value) (J' : amJ), 9 - i < n → i ≤ 9 → Fr J J' c → JP J' c (fun k => cvN p q k i) → Ex 205 6 [some (.ref a), some (.ref b), some (.ref c), some (.int (nI i)), l4] [] (amSH L) I J' R (fun v I' J' R' => v = none ∧ I' = I ∧ R' = R ∧ Fr J J' c ∧ JP J' c (cv p q)) := by
  intro n
  induction n with
  | zero => intro i l4 J' h; omega
  | succ n ih =>
    intro i l4 J' h h9 hJ hF
    refine LI3 e205_6 ?_
    refine Ki e205_7 kbipush_9 ?_
    refine CN_ge (a := i) (b := 9) e205_9 t205_9 rfl (by decide) (by omega) (by omega) (fun h9 => ?_) (fun h9 => ?_)
    · exact Rvd e205_53 rt205 (by
      have e9 : i = 9 := by omega
      subst e9
      exact ⟨rfl, rfl, rfl, hJ, hF⟩)
    · refine Ki e205_12 kiconst_0 ?_
      refine SI4 e205_13 rfl ?_
      refine m_mu_in ha hb hc hac hbc (hp.fr hJ hac) (hq.fr hJ hbc) (by omega) (fun J'' hJ2 hF2 => ?_) 10 0 J' (by omega) (by omega) Fr.rf (hF.cg (fun k hk => by unfold cvP; rw [if_neg (by omega), Int.add_zero]))
      refine IncN3 (m := i) e205_47 rfl ?_
      refine Go e205_50 t205_50 ?_
      exact ih (i + 1) (some (.int (nI (9 - i)))) _ (by omega) (by omega) (hJ.tr hJ2) (hF2.cg (fun k hk => by
        show cvN p q k i + _ = cvN p q k i + _
        by_cases g : i ≤ k
        · rw [if_pos ⟨g, by omega⟩, if_pos g]
        · rw [if_neg (by omega), if_neg g]))
set_option maxHeartbeats 2000000 in
theorem m_multiplies (ha : amA (amSH L) a 1 9) (hb : amA (amSH L) b 1 9) (hc : amA (amSH L) c 1 9) (hac : a ≠ c) (hbc : b ≠ c) (hp : JP J a p) (hq : JP J b q) : Rw 205 [.ref a, .ref b, .ref c] (amSH L) I J R c (cv p q) := by
  show Ex 205 0 [some (.ref a), some (.ref b), some (.ref c), none, none] [] (amSH L) I J R _
  refine LA2 e205_0 ?_
  refine Cs1p e205_1 c205_171 (Nat.le_of_ble_eq_true rfl) (Nat.le_of_ble_eq_true rfl) (m_empties hc) ?_
  rintro _ I1 J1 R1 ⟨rfl, hI1, hR1, hF1, hP1⟩
  subst hI1
  subst hR1
  refine Ki e205_4 kiconst_0 ?_
  refine SI3 e205_5 rfl ?_
  refine (m_mu_lp ha hb hc hac hbc (hp.fr hF1 hac) (hq.fr hF1 hbc) 10 0 _ J1 (by omega) (by omega) Fr.rf hP1).mono (fun v I' J' R' hp => ⟨hp.1, hp.2.1, hp.2.2.1, hF1.tr hp.2.2.2.1, hp.2.2.2.2⟩)
end REF20
