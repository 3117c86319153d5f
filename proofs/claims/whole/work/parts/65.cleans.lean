/-! the reference: cleans (printed by wip/whole/t65.py) -/
/-- only the mark may change -/
def FlI (I I' : amI) : Prop := ∀ y i, ¬ (y = 152 ∧ i = 9) → I' y i = I y i
theorem FlI.rf {I : amI} : FlI I I := fun _ _ _ => rfl
theorem FlI.tr {I I1 I2 : amI} (h1 : FlI I I1) (h2 : FlI I1 I2) : FlI I I2 := fun y i h => (h2 y i h).trans (h1 y i h)
theorem FlI.up {I I1 : amI} {v : Int32} (h : FlI I I1) : FlI I (amU I1 152 9 v) := fun y i hn => by
  rw [← h y i hn]
  unfold amU
  rw [if_neg hn]
theorem i01 {x : Int32} (h : x = 0 ∨ x = 1) : x = 0 ∨ x = 1 := h
section REF2
variable {L : Nat} {I : amI} {J : amJ} {R : amR} {Q : amQ} {a b c : Nat} {p q : Po} {f : Bool}
set_option maxHeartbeats 2000000 in
theorem m_cl1 (ha : amA (amSH L) a 1 9) (hp : JP J a p) (hB : PB 4000000000000000000 p) (hQ : Ex 175 27 [some (.ref 152), some (.ref a), some (.long (oI (gN p 9 : Nat))), none, some (.int (nI 9))] [] (amSH L) I J R Q) : ∀ (n i : Nat), 9 - i < n → i ≤ 9 → Ex 175 5 [some (.ref 152), some (.ref a), some (.long (oI (gN p i : Nat))), none, some (.int (nI i))] [] (amSH L) I J R Q := by
  intro n
  induction n with
  | zero => intro i h; omega
  | succ n ih =>
    intro i h h9
    by_cases e9 : i = 9
    · subst e9
      refine LI4 e175_5 ?_
      refine Ki e175_7 kbipush_9 ?_
      refine CN_ge (a := 9) (b := 9) e175_9 t175_9 rfl (by decide) (by omega) (by omega) (fun _ => ?_) (fun q => by omega)
      exact hQ
    · have hb := gN_b hB (n := i) (by omega)
      have hn := hB.nab (k := i) (by omega)
      refine LI4 e175_5 ?_
      refine Ki e175_7 kbipush_9 ?_
      refine CN_ge (a := i) (b := 9) e175_9 t175_9 rfl (by decide) (by omega) (by omega) (fun q => absurd q (by omega)) (fun _ => ?_)
      refine LJ2 e175_12 ?_
      refine LA1 e175_13 ?_
      refine LI4 e175_14 ?_
      refine AjN (k := i) e175_16 ha rfl (by omega) (by decide) ?_
      rw [hp i (by omega)]
      refine Cs2 e175_17 c175_155 (Nat.le_of_ble_eq_true rfl) (Nat.le_of_ble_eq_true rfl) ((m_gcd (u := (gN p i : Nat)) (t := p i) ⟨by omega, by omega⟩ ⟨by omega, by omega⟩)) ?_
      refine SJ2 e175_20 rfl ?_
      refine IncN4 (m := i) e175_21 rfl ?_
      refine Go e175_24 t175_24 ?_
      exact ih (i + 1) (by omega) (by omega)
set_option maxHeartbeats 2000000 in
theorem m_cl2 (ha : amA (amSH L) a 1 9) (hp : JP J a p) (hB : PB 4000000000000000000 p) (h0 : ¬ gN p 9 = 0) (hQ : ∀ I' J', FlI I I' → I' 152 9 = bI (f || !fit p) → JU J J' a 9 (fun k => oI (cln p k)) → Q none I' J' R) : ∀ (n i : Nat) (I' : amI) (J' : amJ), 9 - i < n → i ≤ 9 → FlI I I' → I' 152 9 = bI (f || !fitN (cln p) i) → JU J J' a i (fun k => oI (cln p k)) → Ex 175 37 [some (.ref 152), some (.ref a), some (.long (oI (gN p 9 : Nat))), none, some (.int (nI i))] [] (amSH L) I' J' R Q := by
  have hgb := gN_b hB (n := 9) (Nat.le_refl _)
  intro n
  induction n with
  | zero => intro i I' J' h; omega
  | succ n ih =>
    intro i I' J' h h9 hF hf hJ
    by_cases e9 : i = 9
    · subst e9
      refine LI4 e175_37 ?_
      refine Ki e175_39 kbipush_9 ?_
      refine CN_ge (a := 9) (b := 9) e175_41 t175_41 rfl (by decide) (by omega) (by omega) (fun _ => ?_) (fun q => by omega)
      exact Rvd e175_88 rt175 (hQ _ _ hF hf hJ)
    · have hi := hB.iB (by decide) (k := i) (by omega)
      have hci := cln_iB hB (k := i) (by omega)
      have hcb := hci
      unfold iB at hcb
      have eJ : J' a i = oI (p i) := by rw [hJ.at (Nat.le_refl _)]; exact hp i (by omega)
      have hJ2 : JU J (amU J' a i (oI (cln p i))) a (i + 1) (fun k => oI (cln p k)) := hJ.step rfl
      have ef : ∀ f' : Bool, f' = decide (-1000000 ≤ cln p i ∧ cln p i ≤ 1000000) → fitN (cln p) (i + 1) = (fitN (cln p) i && f') := fun f' e => by rw [fitN, e]
      refine LI4 e175_37 ?_
      refine Ki e175_39 kbipush_9 ?_
      refine CN_ge (a := i) (b := 9) e175_41 t175_41 rfl (by decide) (by omega) (by omega) (fun q => absurd q (by omega)) (fun _ => ?_)
      refine LA1 e175_44 ?_
      refine LI4 e175_45 ?_
      refine Dup2 e175_47 ⟨rfl, rfl⟩ ?_
      refine AjN (k := i) e175_48 ha rfl (by omega) (by decide) ?_
      refine LJ2 e175_49 ?_
      refine Ldiv e175_50 (fun z => h0 ((oI_n0 hgb).mp z)) ?_
      rw [eJ, oI_div hi (oI_nb hgb)]
      rw [show oI ((p i).tdiv (gN p 9 : Nat)) = oI (cln p i) from rfl]
      refine WjN (k := i) e175_51 ha rfl (by omega) (by decide) ?_
      refine LA0 e175_52 ?_
      refine LA0 e175_53 ?_
      refine Gi e175_54 (o152 L) (amGi_of f777 (by decide)) ?_
      rw [hf]
      refine B_ne e175_57 t175_57 (fun h57 => ?_) (fun h57 => ?_)
      · refine Ki e175_74 kiconst_1 ?_
        refine Go e175_75 t175_75 ?_
        refine Pz e175_79 (o152 L) f777 (by decide) ?_
        refine IncN4 (m := i) e175_82 rfl ?_
        refine Go e175_85 t175_85 ?_
        have e1 : (f || !fitN (cln p) i) = true := by
          cases hb : (f || !fitN (cln p) i)
          · rw [hb] at h57; exact absurd rfl h57
          · rfl
        have e2 : bI (f || !fitN (cln p) (i + 1)) = 1 := by
          rw [ef _ rfl]
          cases hb1 : fitN (cln p) i <;> rw [hb1] at e1 <;> cases f <;> simp_all [bI]
        exact ih (i + 1) _ _ (by omega) (by omega) (FlI.up hF) (by rw [amU_same, e2]) hJ2
      · refine LA1 e175_60 ?_
        refine LI4 e175_61 ?_
        refine AjN (k := i) e175_63 ha rfl (by omega) (by decide) ?_
        rw [amU_same]
        refine Cs1 e175_64 c175_153 (Nat.le_of_ble_eq_true rfl) (Nat.le_of_ble_eq_true rfl) ((m_size hci)) ?_
        refine Kd e175_67 kj1 ?_
        refine D_le e175_70 e175_71 t175_71 (fun h70 => ?_) (fun h70 => ?_)
        · refine Ki e175_78 kiconst_0 ?_
          refine Pz e175_79 (o152 L) f777 (by decide) ?_
          refine IncN4 (m := i) e175_82 rfl ?_
          refine Go e175_85 t175_85 ?_
          have e0 : -1000000 ≤ cln p i ∧ cln p i ≤ 1000000 := by
            rw [show (1000000 : Int64) = oI 1000000 from rfl, oI_le ⟨by omega, by omega⟩ ⟨by decide, by decide⟩] at h70
            omega
          have e2 : bI (f || !fitN (cln p) (i + 1)) = 0 := by
            rw [ef _ rfl, decide_eq_true e0, Bool.and_true]
            exact Decidable.not_not.mp h57
          exact ih (i + 1) _ _ (by omega) (by omega) (FlI.up hF) (by rw [amU_same, e2]) hJ2
        · refine Ki e175_74 kiconst_1 ?_
          refine Go e175_75 t175_75 ?_
          refine Pz e175_79 (o152 L) f777 (by decide) ?_
          refine IncN4 (m := i) e175_82 rfl ?_
          refine Go e175_85 t175_85 ?_
          have e0 : ¬ (-1000000 ≤ cln p i ∧ cln p i ≤ 1000000) := fun z => by
            rw [show (1000000 : Int64) = oI 1000000 from rfl, oI_le ⟨by omega, by omega⟩ ⟨by decide, by decide⟩] at h70
            omega
          have e2 : bI (f || !fitN (cln p) (i + 1)) = 1 := by
            rw [ef _ rfl, decide_eq_false e0, Bool.and_false, Bool.not_false, Bool.or_true]
            rfl
          exact ih (i + 1) _ _ (by omega) (by omega) (FlI.up hF) (by rw [amU_same, e2]) hJ2
set_option maxHeartbeats 2000000 in
theorem m_cleans (ha : amA (amSH L) a 1 9) (hp : JP J a p) (hB : PB 4000000000000000000 p) (hf : I 152 9 = bI f) : Cl 175 [.ref 152, .ref a] (amSH L) I J R (fun v I' J' R' => v = none ∧ R' = R ∧ FlI I I' ∧ I' 152 9 = bI (f || !fit p) ∧ Fr J J' a ∧ JP J' a (cln p)) := by
  have hgb := gN_b hB (n := 9) (Nat.le_refl _)
  show Ex 175 0 [some (.ref 152), some (.ref a), none, none, none] [] (amSH L) I J R _
  refine K0 e175_0 ?_
  refine SJ2 e175_1 rfl ?_
  refine Ki e175_2 kiconst_0 ?_
  refine SI4 e175_3 rfl ?_
  refine m_cl1 ha hp hB ?_ 10 0 (by omega) (by omega)
  refine LJ2 e175_27 ?_
  refine K0 e175_28 ?_
  refine D_ne e175_29 e175_30 t175_30 (fun h29 => ?_) (fun h29 => ?_)
  · refine Ki e175_34 kiconst_0 ?_
    refine SI4 e175_35 rfl ?_
    have h0 : ¬ gN p 9 = 0 := fun z => h29 ((oI_n0 hgb).mpr z)
    exact m_cl2 (f := f) ha hp hB h0 (fun I' J' g1 g2 g3 => ⟨rfl, rfl, g1, g2, g3.1, g3.jp (fun _ _ => rfl)⟩) 10 0 I J (by omega) (by omega) FlI.rf (by rw [fitN, Bool.not_true, Bool.or_false]; exact hf) JU.st
  · exact Rvd e175_33 rt175 (by
    have h0 : gN p 9 = 0 := (oI_n0 hgb).mp (Decidable.not_not.mp h29)
    refine ⟨rfl, rfl, FlI.rf, ?_, Fr.rf, fun k hk => ?_⟩
    · rw [fit0 h0, Bool.not_true, Bool.or_false]
      exact hf
    · rw [cln0 h0 k hk]
      exact hp k hk)
end REF2
