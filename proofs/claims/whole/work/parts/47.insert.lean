/-! fractions: one comes into its place (printed by wip/whole/t47.py) -/
abbrev Fq : Type := Nat → Int × Int
/-- the lesser one -/
abbrev frL (a b : Int × Int) : Prop := a.1 * b.2 < b.1 * a.2
/-- numerators and denominators that are kept -/
def frB (a : Int × Int) : Prop := (-999 ≤ a.1 ∧ a.1 ≤ 999) ∧ 1 ≤ a.2 ∧ a.2 ≤ 999
/-- the rows hold n of F -/
def FA (I : amI) (F : Fq) (n : Nat) : Prop := I 138 4 = nI n ∧ ∀ k, k < n → I 139 k = iI (F k).1 ∧ I 140 k = iI (F k).2
/-- a comes into n of F at m -/
def insF (F : Fq) (m : Nat) (a : Int × Int) : Fq := fun k => if k < m then F k else if k = m then a else F (k - 1)
/-- m is a's place -/
def InsAt (F : Fq) (n m : Nat) (a : Int × Int) : Prop := m ≤ n ∧ (∀ k, m ≤ k → k < n → frL a (F k)) ∧ (m = 0 ∨ ¬ frL a (F (m - 1)))
def FrF (I I' : amI) : Prop := ∀ y, y ≠ 138 → y ≠ 139 → y ≠ 140 → I' y = I y
theorem FrF.rf {I : amI} : FrF I I := fun _ _ _ _ => rfl
theorem FrF.tr {I I1 I2 : amI} (h1 : FrF I I1) (h2 : FrF I1 I2) : FrF I I2 := fun y a b c => (h2 y a b c).trans (h1 y a b c)
theorem FrF.up {I I1 : amI} {x k : Nat} {v : Int32} (h : FrF I I1) (hx : x = 138 ∨ x = 139 ∨ x = 140) : FrF I (amU I1 x k v) := fun y a b c => by
  rw [← h y a b c]
  funext i
  rw [amU_ne (by omega)]
theorem iI_mul {a b : Int} : iI a * iI b = iI (a * b) := (Int32.ofInt_mul a b).symm
theorem fr_prod {x y : Int} (hx : -999 ≤ x ∧ x ≤ 999) (hy : -999 ≤ y ∧ y ≤ 999) : -2000000000 ≤ x * y ∧ x * y ≤ 2000000000 := by
  have := mul_b (x := x) (y := y) (B := 999) (C := 999) (by omega) (by omega)
  omega
theorem rd9 {I : amI} {m k : Nat} {x y z : Int32} : amU (amU (amU I 139 m x) 140 m y) 138 4 z 139 k = if k = m then x else I 139 k := by simp [amU]
theorem rd0 {I : amI} {m k : Nat} {x y z : Int32} : amU (amU (amU I 139 m x) 140 m y) 138 4 z 140 k = if k = m then y else I 140 k := by simp [amU]
theorem sd9 {I : amI} {m k : Nat} {x y : Int32} : amU (amU I 139 m x) 140 m y 139 k = if k = m then x else I 139 k := by simp [amU]
theorem sd0 {I : amI} {m k : Nat} {x y : Int32} : amU (amU I 139 m x) 140 m y 140 k = if k = m then y else I 140 k := by simp [amU]
theorem nI_np {k : Nat} (hk : 0 < k ∧ k < 2 ^ 31) : ¬ nI k ≤ 0 := by
  rw [i32le, nI_toInt hk.2, show (0 : Int32).toInt = 0 from rfl]
  omega
section INSERT
variable {L : Nat} {I : amI} {J : amJ} {R : amR} {Q : amQ} {m n k : Nat} {a : Int × Int} {F : Fq}
set_option maxHeartbeats 2000000 in
theorem q_ins_lp (hR : amRok R) (ha : frB a) (hF : ∀ k, k < n → frB (F k)) (hn : n < 4) (hQ : ∀ m I', InsAt F n m a → FrF I I' → FA I' (insF F m a) (n + 1) → Q none I' J R) : ∀ (m : Nat) (I' : amI), m ≤ n → FrF I I' → I' 138 4 = nI n → (∀ k, k < m → I' 139 k = iI (F k).1 ∧ I' 140 k = iI (F k).2) → (∀ k, m ≤ k → k < n → I' 139 (k + 1) = iI (F k).1 ∧ I' 140 (k + 1) = iI (F k).2) → (∀ k, m ≤ k → k < n → frL a (F k)) → Ex 78 14 [some (.ref 138), some (.int (iI a.1)), some (.int (iI a.2)), some (.int (nI m))] [] (amSH L) I' J R Q := by
  intro m
  induction m with
  | zero =>
    intro I' hm hf hs h1 h2 h3
    refine LI3 e78_14 ?_
    refine B_le e78_15 t78_15 (fun _ => ?_) (fun q => absurd (by decide) q)
    refine LA0 e78_75 ?_
    refine Gr e78_76 (o138 L) (hR 138 0 139 rfl) f192 ?_
    refine LI3 e78_79 ?_
    refine LI1 e78_80 ?_
    refine WiN (k := 0) e78_81 (o139 L) rfl (by omega) (by decide) ?_
    refine LA0 e78_82 ?_
    refine Gr e78_83 (o138 L) (hR 138 1 140 rfl) f193 ?_
    refine LI3 e78_86 ?_
    refine LI2 e78_87 ?_
    refine WiN (k := 0) e78_88 (o140 L) rfl (by omega) (by decide) ?_
    refine LA0 e78_89 ?_
    refine Dup e78_90 rfl ?_
    refine Gi e78_91 (o138 L) (amGi_of f196 (by decide)) ?_
    rw [amU_ne (by decide), amU_ne (by decide), hs]
    refine Ki e78_94 kiconst_1 ?_
    refine IaddN (a := n) (b := 1) e78_95 rfl (by decide) ?_
    refine Pi e78_96 (o138 L) f196 ?_
    exact Rvd e78_99 rt78 (by
    refine hQ 0 _ ⟨hm, h3, Or.inl rfl⟩ (FrF.up (FrF.up (FrF.up hf (by decide)) (by decide)) (by decide)) ⟨by rw [amU_same], fun k hk => ?_⟩
    rw [rd9, rd0]
    by_cases e : k = 0
    · subst e
      rw [if_pos rfl, if_pos rfl]
      unfold insF
      rw [if_neg (Nat.lt_irrefl _), if_pos rfl]
      exact ⟨rfl, rfl⟩
    · rw [if_neg e, if_neg e]
      unfold insF
      by_cases g : k < 0
      · rw [if_pos g]
        exact h1 k g
      · rw [if_neg g, if_neg e]
        obtain ⟨i, rfl⟩ : ∃ i, k = i + 1 := ⟨k - 1, by omega⟩
        rw [Nat.add_sub_cancel]
        exact h2 i (by omega) (by omega))
  | succ m ih =>
    intro I' hm hf hs h1 h2 h3
    have hp := h1 m (by omega)
    have hFm := hF m (by omega)
    have b1 := fr_prod (x := a.1) (y := (F m).2) ha.1 (by have := hFm.2; omega)
    have b2 := fr_prod (x := (F m).1) (y := a.2) hFm.1 (by have := ha.2; omega)
    refine LI3 e78_14 ?_
    refine B_le e78_15 t78_15 (fun q => absurd q (nI_np (by omega))) (fun _ => ?_)
    refine LI1 e78_18 ?_
    refine LA0 e78_19 ?_
    refine Gr e78_20 (o138 L) (hR 138 1 140 rfl) f193 ?_
    refine LI3 e78_23 ?_
    refine Ki e78_24 kiconst_1 ?_
    refine IsubN (a := (m + 1)) (b := 1) e78_25 rfl (by decide) (by omega) ?_
    refine AiN (k := ((m + 1) - 1)) e78_26 (o140 L) rfl (by omega) (by decide) ?_
    rw [Nat.add_sub_cancel, hp.2]
    refine Imul e78_27 ?_
    refine LA0 e78_28 ?_
    refine Gr e78_29 (o138 L) (hR 138 0 139 rfl) f192 ?_
    refine LI3 e78_32 ?_
    refine Ki e78_33 kiconst_1 ?_
    refine IsubN (a := (m + 1)) (b := 1) e78_34 rfl (by decide) (by omega) ?_
    refine AiN (k := ((m + 1) - 1)) e78_35 (o139 L) rfl (by omega) (by decide) ?_
    rw [Nat.add_sub_cancel, hp.1]
    refine LI2 e78_36 ?_
    refine Imul e78_37 ?_
    rw [iI_mul, iI_mul]
    refine C_ge e78_38 t78_38 (fun h38 => ?_) (fun h38 => ?_)
    · refine LA0 e78_75 ?_
      refine Gr e78_76 (o138 L) (hR 138 0 139 rfl) f192 ?_
      refine LI3 e78_79 ?_
      refine LI1 e78_80 ?_
      refine WiN (k := (m + 1)) e78_81 (o139 L) rfl (by omega) (by decide) ?_
      refine LA0 e78_82 ?_
      refine Gr e78_83 (o138 L) (hR 138 1 140 rfl) f193 ?_
      refine LI3 e78_86 ?_
      refine LI2 e78_87 ?_
      refine WiN (k := (m + 1)) e78_88 (o140 L) rfl (by omega) (by decide) ?_
      refine LA0 e78_89 ?_
      refine Dup e78_90 rfl ?_
      refine Gi e78_91 (o138 L) (amGi_of f196 (by decide)) ?_
      rw [amU_ne (by decide), amU_ne (by decide), hs]
      refine Ki e78_94 kiconst_1 ?_
      refine IaddN (a := n) (b := 1) e78_95 rfl (by decide) ?_
      refine Pi e78_96 (o138 L) f196 ?_
      exact Rvd e78_99 rt78 (by
      have nlt : ¬ frL a (F (m + 1 - 1)) := by
        rw [Nat.add_sub_cancel]
        show ¬ a.1 * (F m).2 < (F m).1 * a.2
        simp only [i32le, iI_t b1, iI_t b2] at h38
        omega
      refine hQ (m + 1) _ ⟨hm, h3, Or.inr nlt⟩ (FrF.up (FrF.up (FrF.up hf (by decide)) (by decide)) (by decide)) ⟨by rw [amU_same], fun k hk => ?_⟩
      rw [rd9, rd0]
      by_cases e : k = m + 1
      · subst e
        rw [if_pos rfl, if_pos rfl]
        unfold insF
        rw [if_neg (Nat.lt_irrefl _), if_pos rfl]
        exact ⟨rfl, rfl⟩
      · rw [if_neg e, if_neg e]
        unfold insF
        by_cases g : k < m + 1
        · rw [if_pos g]
          exact h1 k g
        · rw [if_neg g, if_neg e]
          obtain ⟨i, rfl⟩ : ∃ i, k = i + 1 := ⟨k - 1, by omega⟩
          rw [Nat.add_sub_cancel]
          exact h2 i (by omega) (by omega))
    · refine LA0 e78_41 ?_
      refine Gr e78_42 (o138 L) (hR 138 0 139 rfl) f192 ?_
      refine LI3 e78_45 ?_
      refine LA0 e78_46 ?_
      refine Gr e78_47 (o138 L) (hR 138 0 139 rfl) f192 ?_
      refine LI3 e78_50 ?_
      refine Ki e78_51 kiconst_1 ?_
      refine IsubN (a := (m + 1)) (b := 1) e78_52 rfl (by decide) (by omega) ?_
      refine AiN (k := ((m + 1) - 1)) e78_53 (o139 L) rfl (by omega) (by decide) ?_
      rw [Nat.add_sub_cancel, hp.1]
      refine WiN (k := (m + 1)) e78_54 (o139 L) rfl (by omega) (by decide) ?_
      refine LA0 e78_55 ?_
      refine Gr e78_56 (o138 L) (hR 138 1 140 rfl) f193 ?_
      refine LI3 e78_59 ?_
      refine LA0 e78_60 ?_
      refine Gr e78_61 (o138 L) (hR 138 1 140 rfl) f193 ?_
      refine LI3 e78_64 ?_
      refine Ki e78_65 kiconst_1 ?_
      refine IsubN (a := (m + 1)) (b := 1) e78_66 rfl (by decide) (by omega) ?_
      refine AiN (k := ((m + 1) - 1)) e78_67 (o140 L) rfl (by omega) (by decide) ?_
      rw [Nat.add_sub_cancel, amU_ne (by decide), hp.2]
      refine WiN (k := (m + 1)) e78_68 (o140 L) rfl (by omega) (by decide) ?_
      refine DecN3 (m := m) e78_69 rfl ?_
      refine Go e78_72 t78_72 ?_
      have lt : frL a (F m) := by
        show a.1 * (F m).2 < (F m).1 * a.2
        simp only [i32le, iI_t b1, iI_t b2] at h38
        omega
      refine ih (amU (amU I' 139 (m + 1) (iI (F m).1)) 140 (m + 1) (iI (F m).2)) (by omega) (FrF.up (FrF.up hf (by decide)) (by decide)) (by rw [amU_ne (by decide), amU_ne (by decide)]; exact hs) (fun k hk => ?_) (fun k hk hk2 => ?_) (fun k hk hk2 => ?_)
      · rw [sd9, sd0, if_neg (by omega), if_neg (by omega)]
        exact h1 k (by omega)
      · by_cases e : k = m
        · subst e
          rw [sd9, sd0, if_pos rfl, if_pos rfl]
          exact ⟨rfl, rfl⟩
        · rw [sd9, sd0, if_neg (by omega), if_neg (by omega)]
          exact h2 k (by omega) hk2
      · by_cases e : k = m
        · subst e; exact lt
        · exact h3 k (by omega) hk2
set_option maxHeartbeats 2000000 in
theorem q_ins (hR : amRok R) (ha : frB a) (hF : ∀ k, k < n → frB (F k)) (hn : n < 4) (hA : FA I F n) : Cl 78 [.ref 138, .int (iI a.1), .int (iI a.2)] (amSH L) I J R (fun v I' J' R' => v = none ∧ J' = J ∧ R' = R ∧ FrF I I' ∧ ∃ m, InsAt F n m a ∧ FA I' (insF F m a) (n + 1)) := by
  show Ex 78 0 [some (.ref 138), some (.int (iI a.1)), some (.int (iI a.2)), none] [] (amSH L) I J R _
  refine LA0 e78_0 ?_
  refine Gi e78_1 (o138 L) (amGi_of f196 (by decide)) ?_
  rw [hA.1]
  refine Ki e78_4 kiconst_4 ?_
  refine CN_lt (a := n) (b := 4) e78_5 t78_5 rfl (by decide) (by omega) (by omega) (fun _ => ?_) (fun q => by omega)
  refine LA0 e78_9 ?_
  refine Gi e78_10 (o138 L) (amGi_of f196 (by decide)) ?_
  rw [hA.1]
  refine SI3 e78_13 rfl ?_
  exact q_ins_lp hR ha hF hn (fun m I' g1 g2 g3 => ⟨rfl, rfl, rfl, g2, m, g1, g3⟩) n I (Nat.le_refl _) FrF.rf hA.1 hA.2 (fun k g1 g2 => by omega) (fun k g1 g2 => by omega)
end INSERT
