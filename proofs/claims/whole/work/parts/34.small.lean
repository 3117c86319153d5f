/-! small things: a member, one shelf from another, tests on ints (printed by wip/whole/t34.py) -/
section SML
variable {L : Nat} {I : amI} {J : amJ} {R : amR} {Q : amQ} {a b c h n m : Nat} {p q f : Po} {l : List Po}
set_option maxHeartbeats 2000000 in
theorem h_member (hh : CH h) (hR : amRok R) (hl : I h 3 = nI n) (h10 : n ≤ 10) {k : Nat} (hk : k < n) : Rv 33 [.ref h, .int (nI k)] (amSH L) I J R (.ref (h + 4 + 2 * k)) := by
  intro Q hQ
  show Ex 33 0 [some (.ref h), some (.int (nI k))] [] (amSH L) I J R _
  refine LI1 e33_0 ?_
  refine B_lt e33_1 t33_1 (fun q => absurd q (nI_pos (by omega))) (fun _ => ?_)
  refine LI1 e33_4 ?_
  refine LA0 e33_5 ?_
  refine Gi e33_6 hh.o (amGi_of f3 (by decide)) ?_
  rw [hl]
  refine CN_ge (a := k) (b := n) e33_9 t33_9 rfl rfl (by omega) (by omega) (fun q => absurd q (by omega)) (fun _ => ?_)
  refine LI1 e33_12 ?_
  refine Ki e33_13 kbipush_10 ?_
  refine CN_ge (a := k) (b := 10) e33_15 t33_15 rfl (by decide) (by omega) (by omega) (fun q => absurd q (by omega)) (fun _ => ?_)
  refine LA0 e33_18 ?_
  refine Gr e33_19 hh.o (hh.r0 hR) f0 ?_
  refine LI1 e33_22 ?_
  refine ArN (k := k) e33_23 hh.oa (by decide) rfl (by omega) (by decide) (hh.rm hR k (by omega)) ?_
  refine Go e33_24 t33_24 ?_
  exact Ra e33_28 rt33 (hQ)
set_option maxHeartbeats 2000000 in
theorem h_memberno (hh : CH h) (hR : amRok R) (hl : I h 3 = nI n) (h10 : n ≤ 10) {k : Int32} (hk : ¬ (0 ≤ k.toInt ∧ k.toInt < n)) : Rv 33 [.ref h, .int k] (amSH L) I J R .null := by
  intro Q hQ
  have hnn : ¬ k < 0 → ¬ nI n ≤ k → False := fun a b => by
    rw [i32lt, show (0 : Int32).toInt = 0 from rfl] at a
    rw [i32le, nI_toInt (by omega)] at b
    exact hk ⟨by omega, by omega⟩
  show Ex 33 0 [some (.ref h), some (.int k)] [] (amSH L) I J R _
  refine LI1 e33_0 ?_
  refine B_lt e33_1 t33_1 (fun h1 => ?_) (fun h1 => ?_)
  · refine Kn e33_27 ?_
    exact Rn e33_28 rt33 (hQ)
  · refine LI1 e33_4 ?_
    refine LA0 e33_5 ?_
    refine Gi e33_6 hh.o (amGi_of f3 (by decide)) ?_
    rw [hl]
    refine C_ge e33_9 t33_9 (fun h9 => ?_) (fun h9 => ?_)
    · refine Kn e33_27 ?_
      exact Rn e33_28 rt33 (hQ)
    · exact (hnn h1 h9).elim
variable {s t : Nat}
/-- the shelf s is t's, as far as i -/
def cpS (J J' : amJ) (s t i : Nat) : Prop := (∀ y, (∀ k, k < i → y ≠ s + 2 + 2 * k + 1) → J' y = J y) ∧ ∀ k, k < i → ∀ x, x < 9 → J' (s + 2 + 2 * k + 1) x = J (t + 2 + 2 * k + 1) x
set_option maxHeartbeats 2000000 in
theorem s_copy_lp (hs : SH s) (ht : SH t) (hst : s ≠ t) (hR : amRok R) (hn : I s 1 = nI n) (h8 : n ≤ 8) (hQ : ∀ J', cpS J J' s t n → Q none I J' R) : ∀ (m i : Nat) (J' : amJ), 8 - i < m → i ≤ n → cpS J J' s t i → Ex 59 10 [some (.ref s), some (.ref t), some (.int (nI i))] [] (amSH L) I J' R Q := by
  intro m
  induction m with
  | zero => intro i J' h; omega
  | succ m ih =>
    intro i J' h' h9 hJ
    have hss : (s = 2 ∧ t = 20) ∨ (s = 20 ∧ t = 2) := by rcases hs with e | e <;> rcases ht with g | g <;> omega
    refine LI2 e59_10 ?_
    refine LA0 e59_11 ?_
    refine Gi e59_12 hs.o (amGi_of f577 (by decide)) ?_
    rw [hn]
    refine CN_ge (a := i) (b := n) e59_15 t59_15 rfl rfl (by omega) (by omega) (fun h15 => ?_) (fun h15 => ?_)
    · exact Rvd e59_39 rt59 (by
      have e9 : i = n := by omega
      subst e9
      exact hQ _ hJ)
    · refine LA0 e59_18 ?_
      refine Gr e59_19 hs.o (hs.r0 hR) f576 ?_
      refine LI2 e59_22 ?_
      refine ArN (k := i) e59_23 hs.oa (by decide) rfl (by omega) (by decide) (hs.rm hR i (by omega)) ?_
      refine LA1 e59_24 ?_
      refine Gr e59_25 ht.o (ht.r0 hR) f576 ?_
      refine LI2 e59_28 ?_
      refine ArN (k := i) e59_29 ht.oa (by decide) rfl (by omega) (by decide) (ht.rm hR i (by omega)) ?_
      refine Cv1p e59_30 c59_8 (hs.pm (L := L) hR i (by omega)).1 (Nat.le_of_ble_eq_true rfl) (Nat.le_of_ble_eq_true rfl) (p_copy (hs.pm hR i (by omega)) (ht.pm hR i (by omega)) (by omega) JP.any) ?_
      rintro _ I1 J1 R1 ⟨rfl, hI1, hR1, hF1, hP1⟩
      subst hI1
      subst hR1
      refine IncN2 (m := i) e59_33 rfl ?_
      refine Go e59_36 t59_36 ?_
      refine ih (i + 1) J1 (by omega) (by omega) ⟨fun y hy => ?_, fun k hk x hx => ?_⟩
      · rw [hF1 y (hy i (by omega))]
        exact hJ.1 y (fun k hk => hy k (by omega))
      · by_cases e : k = i
        · subst e
          rw [hP1 x hx, ← oI_of, hJ.1 _ (fun k hk => by omega)]
        · rw [hF1 _ (by omega)]
          exact hJ.2 k (by omega) x hx
set_option maxHeartbeats 2000000 in
theorem s_copy (hs : SH s) (ht : SH t) (hst : s ≠ t) (hR : amRok R) (hn : I t 1 = nI n) (h8 : n ≤ 8) : Cl 59 [.ref s, .ref t] (amSH L) I J R (fun v I' J' R' => v = none ∧ I' = amU I s 1 (nI n) ∧ R' = R ∧ cpS J J' s t n) := by
  show Ex 59 0 [some (.ref s), some (.ref t), none] [] (amSH L) I J R _
  refine LA0 e59_0 ?_
  refine LA1 e59_1 ?_
  refine Gi e59_2 ht.o (amGi_of f577 (by decide)) ?_
  rw [hn]
  refine Pi e59_5 hs.o f577 ?_
  refine Ki e59_8 kiconst_0 ?_
  refine SI2 e59_9 rfl ?_
  exact s_copy_lp hs ht hst hR amU_same h8 (fun J' hJ => ⟨rfl, rfl, rfl, hJ⟩) 9 0 J (by omega) (by omega) ⟨fun _ _ => rfl, fun k hk => absurd hk (Nat.not_lt_zero _)⟩
set_option maxHeartbeats 2000000 in
theorem x_beyond {k : Int32} : Rv 145 [.int k] (amSH L) I J R (.int (bI (decide (¬ (-999 ≤ k.toInt ∧ k.toInt ≤ 999))))) := by
  intro Q hQ
  show Ex 145 0 [some (.int k)] [] (amSH L) I J R _
  refine LI0 e145_0 ?_
  refine Ki e145_1 ksipush_m999 ?_
  refine C_lt e145_4 t145_4 (fun h4 => ?_) (fun h4 => ?_)
  · refine Ki e145_14 kiconst_1 ?_
    refine Go e145_15 t145_15 ?_
    exact Rz e145_19 rt145 (by decide) (by
    have e : bI (decide (¬ (-999 ≤ k.toInt ∧ k.toInt ≤ 999))) = 1 := by
      rw [decide_eq_true]
      · rfl
      · simp only [i32lt, i32le, show (-999 : Int32).toInt = -999 from rfl, show (999 : Int32).toInt = 999 from rfl] at *
        omega
    rw [e] at hQ
    exact hQ)
  · refine LI0 e145_7 ?_
    refine Ki e145_8 ksipush_999 ?_
    refine C_le e145_11 t145_11 (fun h11 => ?_) (fun h11 => ?_)
    · refine Ki e145_18 kiconst_0 ?_
      exact Rz e145_19 rt145 (by decide) (by
      have e : bI (decide (¬ (-999 ≤ k.toInt ∧ k.toInt ≤ 999))) = 0 := by
        rw [decide_eq_false]
        · rfl
        · simp only [i32lt, i32le, show (-999 : Int32).toInt = -999 from rfl, show (999 : Int32).toInt = 999 from rfl] at *
          omega
      rw [e] at hQ
      exact hQ)
    · refine Ki e145_14 kiconst_1 ?_
      refine Go e145_15 t145_15 ?_
      exact Rz e145_19 rt145 (by decide) (by
      have e : bI (decide (¬ (-999 ≤ k.toInt ∧ k.toInt ≤ 999))) = 1 := by
        rw [decide_eq_true]
        · rfl
        · simp only [i32lt, i32le, show (-999 : Int32).toInt = -999 from rfl, show (999 : Int32).toInt = 999 from rfl] at *
          omega
      rw [e] at hQ
      exact hQ)
/-- a making of two -/
abbrev isTw (k : Int32) : Prop := k = 0 ∨ k = 1 ∨ k = 2 ∨ k = 3 ∨ k = 10
set_option maxHeartbeats 2000000 in
theorem x_two {k : Int32} : Rv 144 [.int k] (amSH L) I J R (.int (bI (decide (isTw k)))) := by
  intro Q hQ
  show Ex 144 0 [some (.int k)] [] (amSH L) I J R _
  refine LI0 e144_0 ?_
  refine B_eq e144_1 t144_1 (fun h1 => ?_) (fun h1 => ?_)
  · refine Ki e144_25 kiconst_1 ?_
    refine Go e144_26 t144_26 ?_
    exact Rz e144_30 rt144 (by decide) (by
    have e : bI (decide (isTw k)) = 1 := by
      rw [decide_eq_true]
      · rfl
      · simp_all [isTw]
    rw [e] at hQ
    exact hQ)
  · refine LI0 e144_4 ?_
    refine Ki e144_5 kiconst_1 ?_
    refine C_eq e144_6 t144_6 (fun h6 => ?_) (fun h6 => ?_)
    · refine Ki e144_25 kiconst_1 ?_
      refine Go e144_26 t144_26 ?_
      exact Rz e144_30 rt144 (by decide) (by
      have e : bI (decide (isTw k)) = 1 := by
        rw [decide_eq_true]
        · rfl
        · simp_all [isTw]
      rw [e] at hQ
      exact hQ)
    · refine LI0 e144_9 ?_
      refine Ki e144_10 kiconst_2 ?_
      refine C_eq e144_11 t144_11 (fun h11 => ?_) (fun h11 => ?_)
      · refine Ki e144_25 kiconst_1 ?_
        refine Go e144_26 t144_26 ?_
        exact Rz e144_30 rt144 (by decide) (by
        have e : bI (decide (isTw k)) = 1 := by
          rw [decide_eq_true]
          · rfl
          · simp_all [isTw]
        rw [e] at hQ
        exact hQ)
      · refine LI0 e144_14 ?_
        refine Ki e144_15 kiconst_3 ?_
        refine C_eq e144_16 t144_16 (fun h16 => ?_) (fun h16 => ?_)
        · refine Ki e144_25 kiconst_1 ?_
          refine Go e144_26 t144_26 ?_
          exact Rz e144_30 rt144 (by decide) (by
          have e : bI (decide (isTw k)) = 1 := by
            rw [decide_eq_true]
            · rfl
            · simp_all [isTw]
          rw [e] at hQ
          exact hQ)
        · refine LI0 e144_19 ?_
          refine Ki e144_20 kbipush_10 ?_
          refine C_ne e144_22 t144_22 (fun h22 => ?_) (fun h22 => ?_)
          · refine Ki e144_29 kiconst_0 ?_
            exact Rz e144_30 rt144 (by decide) (by
            have e : bI (decide (isTw k)) = 0 := by
              rw [decide_eq_false]
              · rfl
              · simp_all [isTw]
            rw [e] at hQ
            exact hQ)
          · refine Ki e144_25 kiconst_1 ?_
            refine Go e144_26 t144_26 ?_
            exact Rz e144_30 rt144 (by decide) (by
            have e : bI (decide (isTw k)) = 1 := by
              rw [decide_eq_true]
              · rfl
              · simp_all [isTw]
            rw [e] at hQ
            exact hQ)
end SML
