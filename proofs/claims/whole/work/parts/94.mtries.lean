/-! the reference: tries (printed by wip/whole/t94.py) -/
/-- the reference's rows hold n of F -/
def FAm (I : amI) (J : amJ) (F : Fq) (n : Nat) : Prop := I 152 31 = nI n ∧ ∀ k, k < n → J 188 k = oI (F k).1 ∧ J 189 k = oI (F k).2
def TfI (I I' : amI) : Prop := ∀ y i, ¬ (y = 152 ∧ i = 31) → I' y i = I y i
def TfJ (J J' : amJ) : Prop := ∀ y, y ≠ 188 → y ≠ 189 → J' y = J y
theorem TfI.rf {I : amI} : TfI I I := fun _ _ _ => rfl
theorem TfJ.rf {J : amJ} : TfJ J J := fun _ _ _ => rfl
theorem TfI.tr {I I1 I2 : amI} (h1 : TfI I I1) (h2 : TfI I1 I2) : TfI I I2 := fun y i h => (h2 y i h).trans (h1 y i h)
theorem TfJ.tr {J J1 J2 : amJ} (h1 : TfJ J J1) (h2 : TfJ J1 J2) : TfJ J J2 := fun y a b => (h2 y a b).trans (h1 y a b)
theorem TfI.up {I I1 : amI} {v : Int32} (h : TfI I I1) : TfI I (amU I1 152 31 v) := fun y i hn => by
  rw [← h y i hn]
  unfold amU
  rw [if_neg hn]
theorem TfJ.up {J J1 : amJ} {x k : Nat} {v : Int64} (h : TfJ J J1) (hx : x = 188 ∨ x = 189) : TfJ J (amU J1 x k v) := fun y a b => by
  rw [← h y a b]
  funext i
  rw [amU_ne (by omega)]
theorem JP.tf {J J1 : amJ} {x : Nat} {p : Po} (h : JP J x p) (hf : TfJ J J1) (h1 : x ≠ 188 ∧ x ≠ 189) : JP J1 x p := fun k hk => by rw [hf x h1.1 h1.2]; exact h k hk
theorem jd6 {J : amJ} {m k : Nat} {x y : Int64} : amU (amU J 188 m x) 189 m y 188 k = if k = m then x else J 188 k := by simp [amU]
theorem jd7 {J : amJ} {m k : Nat} {x y : Int64} : amU (amU J 188 m x) 189 m y 189 k = if k = m then y else J 189 k := by simp [amU]
section REF26
variable {L : Nat} {I : amI} {J : amJ} {R : amR} {Q : amQ} {m n k : Nat} {a : Int × Int} {F : Fq} {p : Po} {D : Int × Int → Prop}
set_option maxHeartbeats 2000000 in
theorem m_tr_lp (hR : amRok R) (ha : frB a) (hF : ∀ k, k < n → frB (F k)) (hn : n < 4) (hs : I 152 31 = nI n) (hQ : ∀ m J', InsAt F n m a → TfJ J J' → (∀ k, k < n + 1 → J' 188 k = oI (insF F m a k).1 ∧ J' 189 k = oI (insF F m a k).2) → Q none (amU I 152 31 (nI (n + 1))) J' R) : ∀ (m : Nat) (J' : amJ), m ≤ n → TfJ J J' → (∀ k, k < m → J' 188 k = oI (F k).1 ∧ J' 189 k = oI (F k).2) → (∀ k, m ≤ k → k < n → J' 188 (k + 1) = oI (F k).1 ∧ J' 189 (k + 1) = oI (F k).2) → (∀ k, m ≤ k → k < n → frL a (F k)) → Ex 210 21 [some (.ref 152), some (.long (oI a.1)), none, some (.long (oI a.2)), none, some (.int (nI m))] [] (amSH L) I J' R Q := by
  intro m
  induction m with
  | zero =>
    intro J' hm hf h1 h2 h3
    refine LI5 e210_21 ?_
    refine B_le e210_23 t210_23 (fun _ => ?_) (fun q => absurd (by decide) q)
    refine LA0 e210_90 ?_
    refine Gr e210_91 (o152 L) (hR 152 29 188 rfl) f797 ?_
    refine LI5 e210_94 ?_
    refine LJ1 e210_96 ?_
    refine WjN (k := 0) e210_97 (o188 L) rfl (by omega) (by decide) ?_
    refine LA0 e210_98 ?_
    refine Gr e210_99 (o152 L) (hR 152 30 189 rfl) f798 ?_
    refine LI5 e210_102 ?_
    refine LJ3 e210_104 ?_
    refine WjN (k := 0) e210_105 (o189 L) rfl (by omega) (by decide) ?_
    refine LA0 e210_106 ?_
    refine Dup e210_107 rfl ?_
    refine Gi e210_108 (o152 L) (amGi_of f799 (by decide)) ?_
    rw [hs]
    refine Ki e210_111 kiconst_1 ?_
    refine IaddN (a := n) (b := 1) e210_112 rfl (by decide) ?_
    refine Pi e210_113 (o152 L) f799 ?_
    exact Rvd e210_116 rt210 (by
    refine hQ 0 _ ⟨hm, h3, Or.inl rfl⟩ (TfJ.up (TfJ.up hf (by decide)) (by decide)) (fun k hk => ?_)
    rw [jd6, jd7]
    by_cases e : k = 0
    · subst e
      rw [if_pos rfl, if_pos rfl]
      unfold insF
      rw [if_neg (Nat.lt_irrefl _), if_pos rfl]
      exact ⟨rfl, rfl⟩
    · rw [if_neg e, if_neg e]
      unfold insF
      by_cases g : k < 0
      · rw [if_pos g]
        exact h1 k g
      · rw [if_neg g, if_neg e]
        obtain ⟨i, rfl⟩ : ∃ i, k = i + 1 := ⟨k - 1, by omega⟩
        rw [Nat.add_sub_cancel]
        exact h2 i (by omega) (by omega))
  | succ m ih =>
    intro J' hm hf h1 h2 h3
    have hp := h1 m (by omega)
    have hFm := hF m (by omega)
    have b1 := fr_prod (x := a.1) (y := (F m).2) ha.1 (by have := hFm.2; omega)
    have b2 := fr_prod (x := (F m).1) (y := a.2) hFm.1 (by have := ha.2; omega)
    have i1 : iB (a.1 * (F m).2) := ⟨by omega, by omega⟩
    have i2 : iB ((F m).1 * a.2) := ⟨by omega, by omega⟩
    refine LI5 e210_21 ?_
    refine B_le e210_23 t210_23 (fun q => absurd q (nI_np (by omega))) (fun _ => ?_)
    refine LJ1 e210_26 ?_
    refine LA0 e210_27 ?_
    refine Gr e210_28 (o152 L) (hR 152 30 189 rfl) f798 ?_
    refine LI5 e210_31 ?_
    refine Ki e210_33 kiconst_1 ?_
    refine IsubN (a := (m + 1)) (b := 1) e210_34 rfl (by decide) (by omega) ?_
    refine AjN (k := ((m + 1) - 1)) e210_35 (o189 L) rfl (by omega) (by decide) ?_
    rw [Nat.add_sub_cancel, hp.2]
    refine Lmul e210_36 ?_
    rw [oI_mul]
    refine LA0 e210_37 ?_
    refine Gr e210_38 (o152 L) (hR 152 29 188 rfl) f797 ?_
    refine LI5 e210_41 ?_
    refine Ki e210_43 kiconst_1 ?_
    refine IsubN (a := (m + 1)) (b := 1) e210_44 rfl (by decide) (by omega) ?_
    refine AjN (k := ((m + 1) - 1)) e210_45 (o188 L) rfl (by omega) (by decide) ?_
    rw [Nat.add_sub_cancel, hp.1]
    refine LJ3 e210_46 ?_
    refine Lmul e210_47 ?_
    rw [oI_mul]
    refine D_ge e210_48 e210_49 t210_49 (fun h48 => ?_) (fun h48 => ?_)
    · refine LA0 e210_90 ?_
      refine Gr e210_91 (o152 L) (hR 152 29 188 rfl) f797 ?_
      refine LI5 e210_94 ?_
      refine LJ1 e210_96 ?_
      refine WjN (k := (m + 1)) e210_97 (o188 L) rfl (by omega) (by decide) ?_
      refine LA0 e210_98 ?_
      refine Gr e210_99 (o152 L) (hR 152 30 189 rfl) f798 ?_
      refine LI5 e210_102 ?_
      refine LJ3 e210_104 ?_
      refine WjN (k := (m + 1)) e210_105 (o189 L) rfl (by omega) (by decide) ?_
      refine LA0 e210_106 ?_
      refine Dup e210_107 rfl ?_
      refine Gi e210_108 (o152 L) (amGi_of f799 (by decide)) ?_
      rw [hs]
      refine Ki e210_111 kiconst_1 ?_
      refine IaddN (a := n) (b := 1) e210_112 rfl (by decide) ?_
      refine Pi e210_113 (o152 L) f799 ?_
      exact Rvd e210_116 rt210 (by
      have nlt : ¬ frL a (F (m + 1 - 1)) := by
        rw [Nat.add_sub_cancel]
        show ¬ a.1 * (F m).2 < (F m).1 * a.2
        rw [oI_le i2 i1] at h48
        omega
      refine hQ (m + 1) _ ⟨hm, h3, Or.inr nlt⟩ (TfJ.up (TfJ.up hf (by decide)) (by decide)) (fun k hk => ?_)
      rw [jd6, jd7]
      by_cases e : k = m + 1
      · subst e
        rw [if_pos rfl, if_pos rfl]
        unfold insF
        rw [if_neg (Nat.lt_irrefl _), if_pos rfl]
        exact ⟨rfl, rfl⟩
      · rw [if_neg e, if_neg e]
        unfold insF
        by_cases g : k < m + 1
        · rw [if_pos g]
          exact h1 k g
        · rw [if_neg g, if_neg e]
          obtain ⟨i, rfl⟩ : ∃ i, k = i + 1 := ⟨k - 1, by omega⟩
          rw [Nat.add_sub_cancel]
          exact h2 i (by omega) (by omega))
    · refine LA0 e210_52 ?_
      refine Gr e210_53 (o152 L) (hR 152 29 188 rfl) f797 ?_
      refine LI5 e210_56 ?_
      refine LA0 e210_58 ?_
      refine Gr e210_59 (o152 L) (hR 152 29 188 rfl) f797 ?_
      refine LI5 e210_62 ?_
      refine Ki e210_64 kiconst_1 ?_
      refine IsubN (a := (m + 1)) (b := 1) e210_65 rfl (by decide) (by omega) ?_
      refine AjN (k := ((m + 1) - 1)) e210_66 (o188 L) rfl (by omega) (by decide) ?_
      rw [Nat.add_sub_cancel, hp.1]
      refine WjN (k := (m + 1)) e210_67 (o188 L) rfl (by omega) (by decide) ?_
      refine LA0 e210_68 ?_
      refine Gr e210_69 (o152 L) (hR 152 30 189 rfl) f798 ?_
      refine LI5 e210_72 ?_
      refine LA0 e210_74 ?_
      refine Gr e210_75 (o152 L) (hR 152 30 189 rfl) f798 ?_
      refine LI5 e210_78 ?_
      refine Ki e210_80 kiconst_1 ?_
      refine IsubN (a := (m + 1)) (b := 1) e210_81 rfl (by decide) (by omega) ?_
      refine AjN (k := ((m + 1) - 1)) e210_82 (o189 L) rfl (by omega) (by decide) ?_
      rw [Nat.add_sub_cancel, amU_ne (by decide), hp.2]
      refine WjN (k := (m + 1)) e210_83 (o189 L) rfl (by omega) (by decide) ?_
      refine DecN5 (m := m) e210_84 rfl ?_
      refine Go e210_87 t210_87 ?_
      have lt : frL a (F m) := by
        show a.1 * (F m).2 < (F m).1 * a.2
        rw [oI_le i2 i1] at h48
        omega
      refine ih (amU (amU J' 188 (m + 1) (oI (F m).1)) 189 (m + 1) (oI (F m).2)) (by omega) (TfJ.up (TfJ.up hf (by decide)) (by decide)) (fun k hk => ?_) (fun k hk hk2 => ?_) (fun k hk hk2 => ?_)
      · rw [jd6, jd7, if_neg (by omega), if_neg (by omega)]
        exact h1 k (by omega)
      · by_cases e : k = m
        · subst e
          rw [jd6, jd7, if_pos rfl, if_pos rfl]
          exact ⟨rfl, rfl⟩
        · rw [jd6, jd7, if_neg (by omega), if_neg (by omega)]
          exact h2 k (by omega) hk2
      · by_cases e : k = m
        · subst e; exact lt
        · exact h3 k (by omega) hk2
set_option maxHeartbeats 2000000 in
theorem m_tries (hR : amRok R) (hp : JP J 157 p) (hB : PB 999 p) (hs : 0 < sz p) (h5 : sz p ≤ 5) (ha : frB a) (hA : FAm I J F n) (hS : FrSt p D F n) (hD : ¬ D a) (hq : hv p a.1 a.2 = 0 → FrQ p a) : Cl 210 [.ref 152, .long (oI a.1), .long (oI a.2)] (amSH L) I J R (fun v I' J' R' => v = none ∧ R' = R ∧ TfI I I' ∧ TfJ J J' ∧ ∃ F' n', FAm I' J' F' n' ∧ FrSt p (fun e => D e ∨ e = a) F' n') := by
  have hvB : iB (hv p a.1 a.2) := hv_iB hB h5 (by have := ha.1; omega) (by have := ha.2; omega)
  show Ex 210 0 [some (.ref 152), some (.long (oI a.1)), none, some (.long (oI a.2)), none, none] [] (amSH L) I J R _
  refine LA0 e210_0 ?_
  refine Gr e210_1 (o152 L) (hR 152 7 157 rfl) f775 ?_
  refine LJ1 e210_4 ?_
  refine LJ3 e210_5 ?_
  refine Cs3 e210_6 c210_169 (Nat.le_of_ble_eq_true rfl) (Nat.le_of_ble_eq_true rfl) ((m_value (u := a.1) (v := a.2) (o157 L) hp (hB.mono (by decide)) hs)) ?_
  refine K0 e210_9 ?_
  refine D_eq e210_10 e210_11 t210_11 (fun h10 => ?_) (fun h10 => ?_)
  · have h0 : hv p a.1 a.2 = 0 := by
      have := h10
      rw [oI_0, oI_eq hvB ⟨by decide, by decide⟩] at this
      exact this
    have hn4 := hS.lt3 hs h5 (hq h0) hD
    refine LA0 e210_15 ?_
    refine Gi e210_16 (o152 L) (amGi_of f799 (by decide)) ?_
    rw [hA.1]
    refine SI5 e210_19 rfl ?_
    refine m_tr_lp hR ha hS.1 hn4 hA.1 (fun m J' g1 g2 g3 => ⟨rfl, rfl, TfI.rf.up, g2, insF F m a, n + 1, ⟨amU_same, g3⟩, hS.ins (hq h0) hD g1⟩) n J (Nat.le_refl _) TfJ.rf hA.2 (fun k g1 g2 => by omega) (fun k g1 g2 => by omega)
  · exact Rvd e210_14 rt210 (by
    refine ⟨rfl, rfl, TfI.rf, TfJ.rf, F, n, hA, hS.cg (fun e he => ⟨Or.inl, fun q => q.elim id (fun q => ?_)⟩)⟩
    subst q
    exact absurd (by rw [he.root hs]; rfl) h10)
end REF26
