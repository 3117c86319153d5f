/-! fractions: findUnder, find (printed by wip/whole/t50.py) -/
theorem nI_iI {n : Nat} : nI n = iI (n : Int) := rfl
theorem neg_nI {n : Nat} : -nI n = iI (-(n : Int)) := (Int32.ofInt_neg (n : Int)).symm
theorem hN_b {p : Po} {u v : Int} {s : Nat} (hp : PB 999 p) (hs : s ≤ 9) (hu : u.natAbs ≤ 1000) (hv : v.natAbs ≤ 1000) : ∀ {j : Nat}, j ≤ s → (hN p u v s j).natAbs ≤ j * 999 * 1000 ^ j
  | 0, _ => by rw [hN]; decide
  | j + 1, h => by
    have ih := hN_b (s := s) hp hs hu hv (j := j) (by omega)
    rw [hN]
    have h1 : (hN p u v s j * u).natAbs ≤ j * 999 * 1000 ^ j * 1000 := mul_b ih hu
    have h2 : (v ^ j).natAbs ≤ 1000 ^ j := by
      rw [Int.natAbs_pow]
      exact Nat.pow_le_pow_left hv j
    have h3 : (p (s - 1 - j) * v ^ j).natAbs ≤ 999 * 1000 ^ j := mul_b (by have := hp (s - 1 - j) (by omega); omega) h2
    have h4 := Int.natAbs_add_le (hN p u v s j * u) (p (s - 1 - j) * v ^ j)
    have h5 : (j + 1) * 999 * 1000 ^ (j + 1) = j * 999 * 1000 ^ j * 1000 + 999 * 1000 ^ j * 1000 := by
      rw [Nat.pow_succ, Nat.add_mul, Nat.add_mul, Nat.one_mul, ← Nat.mul_assoc, ← Nat.mul_assoc]
    omega
theorem hv_iB {p : Po} {u v : Int} (hp : PB 999 p) (h5 : sz p ≤ 5) (hu : u.natAbs ≤ 1000) (hv1 : v.natAbs ≤ 1000) : iB (hv p u v) := by
  have h := hN_b (s := sz p) hp (by omega) hu hv1 (j := sz p) (Nat.le_refl _)
  have h2 : sz p * 999 * 1000 ^ sz p ≤ 5 * 999 * 1000 ^ 5 := Nat.mul_le_mul (Nat.mul_le_mul h5 (Nat.le_refl _)) (Nat.pow_le_pow_right (by decide) h5)
  unfold hv
  exact ⟨by omega, by omega⟩
/-- looked at ahead of u by v -/
def Dn (u v : Nat) (e : Int × Int) : Prop := e.1 = 0 ∨ e.1.natAbs < u ∨ (e.1.natAbs = u ∧ e.2 < (v : Int))
theorem FrSt.step {p : Po} {u v n : Nat} {F : Fq} (h : FrSt p (Dn u v) F n) (hno : ∀ e, FrQ p e → e.1.natAbs = u → e.2 = (v : Int) → False) : FrSt p (Dn u (v + 1)) F n := h.cg (fun e he => by
  have hn := hno e he
  unfold Dn
  constructor
  · omega
  · intro q
    rcases q with q | q | ⟨q1, q2⟩
    · exact Or.inl q
    · exact Or.inr (Or.inl q)
    · by_cases e2 : e.2 = (v : Int)
      · exact (hn q1 e2).elim
      · exact Or.inr (Or.inr ⟨q1, by omega⟩))
section FIND
variable {L : Nat} {I : amI} {J : amJ} {R : amR} {Q : amQ} {a u v n k : Nat} {F : Fq} {p : Po} {H : Int}
set_option maxHeartbeats 2000000 in
theorem q_und55 (hR : amRok R) (ha : amPO (amSH L) R a) (hp : JP J (a + 1) p) (hB : PB 999 p) (hs : 0 < sz p) (h5 : sz p ≤ 5) (hu1 : 1 ≤ u) (hu9 : u ≤ 999) (hf : (p (lw p)).tmod (u : Int) = 0) (hH : H = hd p) (hv1 : 1 ≤ v) (hv9 : v ≤ 999) (hr : H.tmod (v : Int) = 0) (hg : gd (u : Int) (v : Int) = 1) (hA : FA I F n) (hS : FrSt p (fun e => Dn u v e ∨ e = ((u : Int), (v : Int))) F n) (hQ : ∀ I' F n, FrF I I' → FA I' F n → FrSt p (Dn u (v + 1)) F n → Ex 77 78 [some (.ref 138), some (.ref a), some (.int (nI u)), some (.long (oI H)), none, some (.int (nI v))] [] (amSH L) I' J R Q) : Ex 77 55 [some (.ref 138), some (.ref a), some (.int (nI u)), some (.long (oI H)), none, some (.int (nI v))] [] (amSH L) I J R Q := by
  have hPB := hB.mono (C := 4000000000000000000) (by decide)
  have hvb := hv_iB (u := -(u : Int)) (v := (v : Int)) hB h5 (by omega) (by omega)
  have fq : hv p (-(u : Int)) (v : Int) = 0 → FrQ p (-(u : Int), (v : Int)) := fun z => Or.inr ⟨by show -(u : Int) ≠ 0; omega, ⟨⟨by show -999 ≤ -(u : Int); omega, by show -(u : Int) ≤ 999; omega⟩, by show 1 ≤ (v : Int); omega, by show (v : Int) ≤ 999; omega⟩, by show (p (lw p)).tmod ((-(u : Int)).natAbs : Nat) = 0; rw [Int.natAbs_neg, Int.natAbs_natCast]; exact hf, by rw [← hH]; exact hr, by show Nat.gcd (-(u : Int)).natAbs (v : Int).natAbs = 1; rw [Int.natAbs_neg]; exact Int.ofNat_inj.mp hg, z⟩
  have nd : ¬ (Dn u v (-(u : Int), (v : Int)) ∨ (-(u : Int), (v : Int)) = ((u : Int), (v : Int))) := fun z => by
    rcases z with z | z
    · unfold Dn at z
      dsimp only at z
      omega
    · have := congrArg Prod.fst z
      dsimp only at this
      omega
  refine LA1 e77_55 ?_
  refine LI2 e77_56 ?_
  refine Ineg e77_57 ?_
  refine I2l e77_58 ?_
  rw [neg64 u (by omega)]
  refine LI5 e77_59 ?_
  refine I2l e77_61 ?_
  rw [nI_oI (n := v) (by omega)]
  refine Cv2 e77_62 c77_20 ha.1 (Nat.le_of_ble_eq_true rfl) (Nat.le_of_ble_eq_true rfl) ((p_worth ha hp hPB h5 (by omega) (by omega))) ?_
  refine K0 e77_65 ?_
  refine D_ne e77_66 e77_67 t77_67 (fun h66 => ?_) (fun h66 => ?_)
  · have hz2 : ¬ hv p (-(u : Int)) (v : Int) = 0 := fun z => h66 (by rw [z]; rfl)
    exact hQ _ _ _ FrF.rf hA (hS.cg (fun e he => by
      unfold Dn
      constructor
      · rintro ((q | q | q) | q)
        · exact Or.inl q
        · exact Or.inr (Or.inl q)
        · exact Or.inr (Or.inr ⟨q.1, by omega⟩)
        · subst q
          exact Or.inr (Or.inr ⟨Int.natAbs_natCast u, by show (v : Int) < ((v + 1 : Nat) : Int); omega⟩)
      · intro q
        rcases q with q | q | ⟨q1, q2⟩
        · exact Or.inl (Or.inl q)
        · exact Or.inl (Or.inr (Or.inl q))
        · by_cases e2 : e.2 = (v : Int)
          · rcases Int.natAbs_eq e.1 with e1 | e1
            · exact Or.inr (Prod.ext (by rw [e1, q1]) e2)
            · exact absurd he (fun z => by
                have hroot := z.root hs
                rw [e1, q1, e2] at hroot
                exact hz2 hroot)
          · exact Or.inl (Or.inr (Or.inr ⟨q1, by omega⟩))))
  · have hz2 : hv p (-(u : Int)) (v : Int) = 0 := by
      rw [oI_0, oI_eq hvb ⟨by decide, by decide⟩] at h66
      exact Decidable.not_not.mp h66
    refine LA0 e77_70 ?_
    refine LI2 e77_71 ?_
    refine Ineg e77_72 ?_
    refine LI5 e77_73 ?_
    rw [neg_nI]
    refine Cv2p e77_75 c77_78 (o138 L) (Nat.le_of_ble_eq_true rfl) (Nat.le_of_ble_eq_true rfl) (q_ins (a := (-(u : Int), (v : Int))) hR (fq hz2).b.1 hS.1 (hS.lt3 hs h5 (fq hz2) nd) hA) ?_
    have hS0 := hS
    rintro _ I1 J1 R1 ⟨rfl, hJ1, hR1, hF1, m, hm, hA1⟩
    subst hJ1
    subst hR1
    exact hQ _ _ _ hF1 hA1 ((hS0.ins (fq hz2) nd hm).cg (fun e he => by
      unfold Dn
      constructor
      · rintro (((q | q | q) | q) | q)
        · exact Or.inl q
        · exact Or.inr (Or.inl q)
        · exact Or.inr (Or.inr ⟨q.1, by omega⟩)
        · subst q
          exact Or.inr (Or.inr ⟨Int.natAbs_natCast u, by show (v : Int) < ((v + 1 : Nat) : Int); omega⟩)
        · subst q
          exact Or.inr (Or.inr ⟨by show (-(u : Int)).natAbs = u; omega, by show (v : Int) < ((v + 1 : Nat) : Int); omega⟩)
      · intro q
        rcases q with q | q | ⟨q1, q2⟩
        · exact Or.inl (Or.inl (Or.inl q))
        · exact Or.inl (Or.inl (Or.inr (Or.inl q)))
        · by_cases e2 : e.2 = (v : Int)
          · rcases Int.natAbs_eq e.1 with e1 | e1
            · exact Or.inl (Or.inr (Prod.ext (by rw [e1, q1]) e2))
            · exact Or.inr (Prod.ext (by rw [e1, q1]) e2)
          · exact Or.inl (Or.inl (Or.inr (Or.inr ⟨q1, by omega⟩)))))
set_option maxHeartbeats 2000000 in
theorem q_und_lp (hR : amRok R) (ha : amPO (amSH L) R a) (hp : JP J (a + 1) p) (hB : PB 999 p) (hs : 0 < sz p) (h5 : sz p ≤ 5) (hu1 : 1 ≤ u) (hu9 : u ≤ 999) (hf : (p (lw p)).tmod (u : Int) = 0) (hH : H = hd p) : ∀ (m v : Nat) (I : amI) (F : Fq) (n : Nat), v + m = 1000 → 1 ≤ v → FA I F n → FrSt p (Dn u v) F n → (∀ I' F n, FrF I I' → FA I' F n → FrSt p (Dn u 1000) F n → Q none I' J R) → Ex 77 3 [some (.ref 138), some (.ref a), some (.int (nI u)), some (.long (oI H)), none, some (.int (nI v))] [] (amSH L) I J R Q := by
  have hPB := hB.mono (C := 4000000000000000000) (by decide)
  have hHB : iB H := by rw [hH]; exact hd_iB hPB (by decide)
  intro m
  induction m with
  | zero =>
    intro v I F n hvm hv1 hA hS hQ
    have ev : v = 1000 := by omega
    subst ev
    refine LI5 e77_3 ?_
    refine Ki e77_5 ksipush_999 ?_
    refine CN_gt (a := 1000) (b := 999) e77_8 t77_8 rfl (by decide) (by omega) (by omega) (fun _ => ?_) (fun q => by omega)
    exact Rvd e77_84 rt77 (hQ _ _ _ FrF.rf hA hS)
  | succ m ih =>
    intro v I F n hvm hv1 hA hS hQ
    have hvb := hv_iB (u := (u : Int)) (v := (v : Int)) hB h5 (by omega) (by omega)
    have hk : ∀ I' F n, FrF I I' → FA I' F n → FrSt p (Dn u (v + 1)) F n → Ex 77 78 [some (.ref 138), some (.ref a), some (.int (nI u)), some (.long (oI H)), none, some (.int (nI v))] [] (amSH L) I' J R Q := fun I' F n g1 g2 g3 => by
      refine IncN5 (m := v) e77_78 rfl ?_
      refine Go e77_81 t77_81 ?_
      exact ih (v + 1) I' F n (by omega) (by omega) g2 g3 (fun I'' F n q1 q2 q3 => hQ I'' F n (g1.tr q1) q2 q3)
    have nd : ¬ Dn u v ((u : Int), (v : Int)) := fun z => by
      unfold Dn at z
      dsimp only at z
      omega
    have hnat : ∀ e : Int × Int, FrQ p e → e.1.natAbs = u → e.2 = (v : Int) → (hd p).tmod (v : Int) = 0 ∧ gd (u : Int) (v : Int) = 1 := fun e he h1 h2 => by
      rcases he with ⟨h, -⟩ | ⟨-, -, -, h3, h4, -⟩
      · subst h
        have : (0 : Int).natAbs = u := h1
        omega
      · rw [h2] at h3 h4
        rw [h1] at h4
        refine ⟨h3, ?_⟩
        unfold gd
        rw [Int.natAbs_natCast, h4]
        rfl
    have htb : iB (H.tmod (v : Int)) := by
      have h := Int.natAbs_tmod H (v : Int)
      have h2 : H.natAbs % (v : Int).natAbs ≤ H.natAbs := Nat.mod_le _ _
      have h3 : (H.tmod (v : Int)).natAbs = H.natAbs % (v : Int).natAbs := h
      have h4 := hHB
      unfold iB at h4 ⊢
      omega
    refine LI5 e77_3 ?_
    refine Ki e77_5 ksipush_999 ?_
    refine CN_gt (a := v) (b := 999) e77_8 t77_8 rfl (by decide) (by omega) (by omega) (fun q => absurd q (by omega)) (fun _ => ?_)
    refine LJ3 e77_11 ?_
    refine LI5 e77_12 ?_
    refine I2l e77_14 ?_
    rw [nI_oI (n := v) (by omega)]
    refine Lrem e77_15 (fun z => by rw [oI_0, oI_eq ⟨by omega, by omega⟩ ⟨by decide, by decide⟩] at z; omega) ?_
    rw [oI_rem hHB ⟨by omega, by omega⟩]
    refine K0 e77_16 ?_
    refine D_ne e77_17 e77_18 t77_18 (fun h17 => ?_) (fun h17 => ?_)
    · exact hk _ _ _ FrF.rf hA (hS.step (fun e he h1 h2 => by
        have hn := hnat e he h1 h2
        first
          | exact h30 (by rw [hn.2]; rfl)
          | exact h17 (by rw [hH, hn.1]; rfl)))
    · refine LI2 e77_21 ?_
      refine I2l e77_22 ?_
      have hr : H.tmod (v : Int) = 0 := by
        rw [oI_0, oI_eq htb ⟨by decide, by decide⟩] at h17
        exact Decidable.not_not.mp h17
      rw [nI_oI (n := u) (by omega)]
      refine LI5 e77_23 ?_
      refine I2l e77_25 ?_
      rw [nI_oI (n := v) (by omega)]
      refine Cs2 e77_26 c77_151 (Nat.le_of_ble_eq_true rfl) (Nat.le_of_ble_eq_true rfl) ((g_gd (a := (u : Int)) (d := (v : Int)) ⟨by omega, by omega⟩ ⟨by omega, by omega⟩)) ?_
      refine K1 e77_29 ?_
      refine D_ne e77_30 e77_31 t77_31 (fun h30 => ?_) (fun h30 => ?_)
      · exact hk _ _ _ FrF.rf hA (hS.step (fun e he h1 h2 => by
          have hn := hnat e he h1 h2
          first
            | exact h30 (by rw [hn.2]; rfl)
            | exact h17 (by rw [hH, hn.1]; rfl)))
      · have hg : gd (u : Int) (v : Int) = 1 := by
          have g1 := gd_pos (a := (u : Int)) (d := (v : Int)) (by omega)
          have g2 := gd_le (a := (u : Int)) (d := (v : Int)) (by omega)
          rw [oI_1, oI_eq ⟨by omega, by omega⟩ ⟨by decide, by decide⟩] at h30
          exact Decidable.not_not.mp h30
        refine LA1 e77_34 ?_
        refine LI2 e77_35 ?_
        refine I2l e77_36 ?_
        rw [nI_oI (n := u) (by omega)]
        refine LI5 e77_37 ?_
        refine I2l e77_39 ?_
        rw [nI_oI (n := v) (by omega)]
        refine Cv2 e77_40 c77_20 ha.1 (Nat.le_of_ble_eq_true rfl) (Nat.le_of_ble_eq_true rfl) ((p_worth ha hp hPB h5 (by omega) (by omega))) ?_
        refine K0 e77_43 ?_
        refine D_ne e77_44 e77_45 t77_45 (fun h44 => ?_) (fun h44 => ?_)
        · have hz : ¬ hv p (u : Int) (v : Int) = 0 := fun z => h44 (by rw [z]; rfl)
          exact q_und55 hR ha hp hB hs h5 hu1 hu9 hf hH hv1 (by omega) hr hg hA (hS.cg (fun e he => ⟨Or.inl, fun q => q.elim id (fun q => by subst q; exact (hz (he.root hs)).elim)⟩)) hk
        · have hz : hv p (u : Int) (v : Int) = 0 := by
            rw [oI_0, oI_eq hvb ⟨by decide, by decide⟩] at h44
            exact Decidable.not_not.mp h44
          have fq : FrQ p ((u : Int), (v : Int)) := Or.inr ⟨by show (u : Int) ≠ 0; omega, ⟨⟨by show -999 ≤ (u : Int); omega, by show (u : Int) ≤ 999; omega⟩, by show 1 ≤ (v : Int); omega, by show (v : Int) ≤ 999; omega⟩, by show (p (lw p)).tmod ((u : Int).natAbs : Nat) = 0; rw [Int.natAbs_natCast]; exact hf, by rw [← hH]; exact hr, Int.ofNat_inj.mp hg, hz⟩
          refine LA0 e77_48 ?_
          refine LI2 e77_49 ?_
          refine LI5 e77_50 ?_
          refine Cv2p e77_52 c77_78 (o138 L) (Nat.le_of_ble_eq_true rfl) (Nat.le_of_ble_eq_true rfl) (q_ins (a := ((u : Int), (v : Int))) hR fq.b.1 hS.1 (hS.lt3 hs h5 fq nd) hA) ?_
          rintro _ I1 J1 R1 ⟨rfl, hJ1, hR1, hF1, m, hm, hA1⟩
          subst hJ1
          subst hR1
          exact q_und55 hR ha hp hB hs h5 hu1 hu9 hf hH hv1 (by omega) hr hg hA1 (hS.ins fq nd hm) (fun I' F n q1 q2 q3 => hk I' F n (hF1.tr q1) q2 q3)
end FIND
