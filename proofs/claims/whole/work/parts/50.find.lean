/-! fractions: divisors, tryBoth (printed by wip/whole/t50.py) -/
theorem nI_iI {n : Nat} : nI n = iI (n : Int) := rfl
theorem neg_nI {n : Nat} : -nI n = iI (-(n : Int)) := (Int32.ofInt_neg (n : Int)).symm
theorem hN_b {p : Po} {u v : Int} {s : Nat} (hp : PB 999 p) (hs : s ≤ 9) (hu : u.natAbs ≤ 1000) (hv : v.natAbs ≤ 1000) : ∀ {j : Nat}, j ≤ s → (hN p u v s j).natAbs ≤ j * 999 * 1000 ^ j
  | 0, _ => by rw [hN]; decide
  | j + 1, h => by
    have ih := hN_b (s := s) hp hs hu hv (j := j) (by omega)
    rw [hN]
    have h1 : (hN p u v s j * u).natAbs ≤ j * 999 * 1000 ^ j * 1000 := mul_b ih hu
    have h2 : (v ^ j).natAbs ≤ 1000 ^ j := by
      rw [Int.natAbs_pow]
      exact Nat.pow_le_pow_left hv j
    have h3 : (p (s - 1 - j) * v ^ j).natAbs ≤ 999 * 1000 ^ j := mul_b (by have := hp (s - 1 - j) (by omega); omega) h2
    have h4 := Int.natAbs_add_le (hN p u v s j * u) (p (s - 1 - j) * v ^ j)
    have h5 : (j + 1) * 999 * 1000 ^ (j + 1) = j * 999 * 1000 ^ j * 1000 + 999 * 1000 ^ j * 1000 := by
      rw [Nat.pow_succ, Nat.add_mul, Nat.add_mul, Nat.one_mul, ← Nat.mul_assoc, ← Nat.mul_assoc]
    omega
theorem hv_iB {p : Po} {u v : Int} (hp : PB 999 p) (h5 : sz p ≤ 5) (hu : u.natAbs ≤ 1000) (hv1 : v.natAbs ≤ 1000) : iB (hv p u v) := by
  have h := hN_b (s := sz p) hp (by omega) hu hv1 (j := sz p) (Nat.le_refl _)
  have h2 : sz p * 999 * 1000 ^ sz p ≤ 5 * 999 * 1000 ^ 5 := Nat.mul_le_mul (Nat.mul_le_mul h5 (Nat.le_refl _)) (Nat.pow_le_pow_right (by decide) h5)
  unfold hv
  exact ⟨by omega, by omega⟩
/-- looked at ahead of u by v -/
def Dn (u v : Nat) (e : Int × Int) : Prop := e.1 = 0 ∨ e.1.natAbs < u ∨ (e.1.natAbs = u ∧ e.2 < (v : Int))
theorem FrSt.step {p : Po} {u v n : Nat} {F : Fq} (h : FrSt p (Dn u v) F n) (hno : ∀ e, FrQ p e → e.1.natAbs = u → e.2 = (v : Int) → False) : FrSt p (Dn u (v + 1)) F n := h.cg (fun e he => by
  have hn := hno e he
  unfold Dn
  constructor
  · omega
  · intro q
    rcases q with q | q | ⟨q1, q2⟩
    · exact Or.inl q
    · exact Or.inr (Or.inl q)
    · by_cases e2 : e.2 = (v : Int)
      · exact (hn q1 e2).elim
      · exact Or.inr (Or.inr ⟨q1, by omega⟩))
theorem drop_at {l r : List Nat} {i x : Nat} (h : l.drop i = x :: r) : i < l.length ∧ l.getD i 0 = x ∧ l.drop (i + 1) = r := by
  have hi : i < l.length := by
    rcases Nat.lt_or_ge i l.length with g | g
    · exact g
    · rw [List.drop_eq_nil_of_le g] at h; cases h
  rw [List.drop_eq_getElem_cons hi] at h
  injection h with h1 h2
  exact ⟨hi, by rw [List.getD_eq_getElem?_getD, List.getElem?_eq_getElem hi]; exact h1, h2⟩
theorem drop_no {l : List Nat} {i : Nat} (hi : i ≤ l.length) (h : l.drop i = []) : i = l.length := by
  have := List.drop_eq_nil_iff.mp h
  omega
theorem getD_app {l : List Nat} {k x : Nat} (h : k < l.length) : (l ++ [x]).getD k 0 = l.getD k 0 := by
  rw [List.getD_eq_getElem?_getD, List.getD_eq_getElem?_getD, List.getElem?_append_left h]
theorem getD_last {l : List Nat} {x : Nat} : (l ++ [x]).getD l.length 0 = x := by
  rw [List.getD_eq_getElem?_getD, List.getElem?_append_right (Nat.le_refl _), Nat.sub_self]
  rfl
/-- the row b holds the list -/
def DvR (I : amI) (b : Nat) (l : List Nat) : Prop := ∀ k, k < l.length → I b k = nI (l.getD k 0)
theorem DvR.cg {I I' : amI} {b : Nat} {l : List Nat} (h : DvR I b l) (hb : I' b = I b) : DvR I' b l := fun k hk => by rw [hb]; exact h k hk
theorem DvR.add {I : amI} {b x : Nat} {l : List Nat} (h : DvR I b l) : DvR (amU I b l.length (nI x)) b (l ++ [x]) := fun k hk => by
  rw [List.length_append] at hk
  by_cases e : k = l.length
  · subst e
    rw [amU_same, getD_last]
  · have hk2 : k < l.length := by
      have : ([x] : List Nat).length = 1 := rfl
      omega
    rw [amU_ni e, getD_app hk2]
    exact h k hk2
theorem tmod_nat {H : Int} {d : Nat} : H.tmod (d : Int) = 0 ↔ H.natAbs % d = 0 := by
  have h3 : (H.tmod (d : Int)).natAbs = H.natAbs % (d : Int).natAbs := Int.natAbs_tmod _ _
  rw [Int.natAbs_natCast] at h3
  omega
section FIND
variable {L : Nat} {I : amI} {J : amJ} {R : amR} {Q : amQ} {a b u v n k : Nat} {F : Fq} {p : Po} {H : Int}
set_option maxHeartbeats 2000000 in
theorem q_dvs_lp {l0 : List Nat} (hb : amA (amSH L) b 0 32) (h0 : 0 < H.natAbs) (h9 : H.natAbs ≤ 999) (hl0 : l0 = dvs H.natAbs) (hQ : ∀ I', (∀ y, y ≠ b → I' y = I y) → DvR I' b l0 → Q (some (.int (nI l0.length))) I' J R) : ∀ (f d : Nat) (l : List Nat) (I' : amI), d + f = 1000 → 1 ≤ d → l0 = l ++ dvF H.natAbs f d → (∀ y, y ≠ b → I' y = I y) → DvR I' b l → Ex 250 5 [some (.long (oI H)), none, some (.ref b), some (.int (nI l.length)), some (.int (nI d))] [] (amSH L) I' J R Q := by
  have h32 : l0.length ≤ 32 := by rw [hl0]; exact dvs_32 h0 h9
  have hHB : iB H := ⟨by omega, by omega⟩
  intro f
  induction f with
  | zero =>
    intro d l I' hd h1 hl hI hD
    rw [dvF, List.append_nil] at hl
    subst hl
    have ed : d = 1000 := by omega
    subst ed
    refine LI4 e250_5 ?_
    refine Ki e250_7 ksipush_999 ?_
    refine CN_gt (a := 1000) (b := 999) e250_10 t250_10 rfl (by decide) (by omega) (by omega) (fun _ => ?_) (fun q => by omega)
    refine LI3 e250_43 ?_
    exact Ri e250_44 rt250 (hQ _ hI hD)
  | succ f ih =>
    intro d l I' hd h1 hl hI hD
    have hll : l.length ≤ 32 := by
      have := congrArg List.length hl
      rw [List.length_append] at this
      omega
    have htb : iB (H.tmod (d : Int)) := by
      have h3 : (H.tmod (d : Int)).natAbs = H.natAbs % (d : Int).natAbs := Int.natAbs_tmod _ _
      have h2 : H.natAbs % (d : Int).natAbs ≤ H.natAbs := Nat.mod_le _ _
      exact ⟨by omega, by omega⟩
    rw [dvF] at hl
    refine LI4 e250_5 ?_
    refine Ki e250_7 ksipush_999 ?_
    refine CN_gt (a := d) (b := 999) e250_10 t250_10 rfl (by decide) (by omega) (by omega) (fun q => absurd q (by omega)) (fun _ => ?_)
    refine LI3 e250_13 ?_
    refine LA2 e250_14 ?_
    refine LenN e250_15 hb (by decide) ?_
    refine CN_ge (a := l.length) (b := 32) e250_16 t250_16 rfl rfl (by omega) (by omega) (fun h16 => ?_) (fun h16 => ?_)
    · refine LI3 e250_43 ?_
      exact Ri e250_44 rt250 (by
      have el : l0 = l := by
        rw [hl]
        have hx : (if H.natAbs % d = 0 then d :: dvF H.natAbs f (d + 1) else dvF H.natAbs f (d + 1)) = [] := by
          have := congrArg List.length hl
          rw [List.length_append] at this
          exact List.length_eq_zero_iff.mp (by omega)
        rw [hx, List.append_nil]
      subst el
      exact hQ _ hI hD)
    · refine LJ0 e250_19 ?_
      refine LI4 e250_20 ?_
      refine I2l e250_22 ?_
      rw [nI_oI (n := d) (by omega)]
      refine Lrem e250_23 (fun z => by rw [oI_0, oI_eq ⟨by omega, by omega⟩ ⟨by decide, by decide⟩] at z; omega) ?_
      rw [oI_rem hHB ⟨by omega, by omega⟩]
      refine K0 e250_24 ?_
      refine D_ne e250_25 e250_26 t250_26 (fun h25 => ?_) (fun h25 => ?_)
      · refine IncN4 (m := d) e250_37 rfl ?_
        refine Go e250_40 t250_40 ?_
        rw [if_neg (fun z => h25 (by rw [tmod_nat.mpr z]; rfl))] at hl
        exact ih (d + 1) l I' (by omega) (by omega) hl hI hD
      · have hdv : H.natAbs % d = 0 := by
          rw [oI_0, oI_eq htb ⟨by decide, by decide⟩] at h25
          exact tmod_nat.mp (Decidable.not_not.mp h25)
        rw [if_pos hdv] at hl
        refine LA2 e250_29 ?_
        refine LI3 e250_30 ?_
        refine LI4 e250_31 ?_
        refine WiN (k := l.length) e250_33 hb rfl (by omega) (by decide) ?_
        refine IncN3 (m := l.length) e250_34 rfl ?_
        refine IncN4 (m := d) e250_37 rfl ?_
        refine Go e250_40 t250_40 ?_
        have hll2 : (l ++ [d]).length = l.length + 1 := by rw [List.length_append]; rfl
        rw [← hll2]
        exact ih (d + 1) (l ++ [d]) _ (by omega) (by omega) (by rw [List.append_assoc]; exact hl) (fun y hy => by rw [← hI y hy]; funext i; rw [amU_ne hy]) hD.add
set_option maxHeartbeats 2000000 in
theorem q_dvs (hb : amA (amSH L) b 0 32) (h0 : 0 < H.natAbs) (h9 : H.natAbs ≤ 999) : Cl 250 [.long (oI H), .ref b] (amSH L) I J R (fun v I' J' R' => v = some (.int (nI (dvs H.natAbs).length)) ∧ J' = J ∧ R' = R ∧ (∀ y, y ≠ b → I' y = I y) ∧ DvR I' b (dvs H.natAbs)) := by
  show Ex 250 0 [some (.long (oI H)), none, some (.ref b), none, none] [] (amSH L) I J R _
  refine Ki e250_0 kiconst_0 ?_
  refine SI3 e250_1 rfl ?_
  refine Ki e250_2 kiconst_1 ?_
  refine SI4 e250_3 rfl ?_
  exact q_dvs_lp hb h0 h9 rfl (fun I' g1 g2 => ⟨rfl, rfl, rfl, g1, g2⟩) 999 1 [] I rfl (by decide) rfl (fun _ _ => rfl) (fun k hk => absurd hk (Nat.not_lt_zero k))
set_option maxHeartbeats 2000000 in
theorem q_try32 (hR : amRok R) (ha : amPO (amSH L) R a) (hp : JP J (a + 1) p) (hB : PB 999 p) (hs : 0 < sz p) (h5 : sz p ≤ 5) (hu1 : 1 ≤ u) (hu9 : u ≤ 999) (hf : (p (lw p)).tmod (u : Int) = 0) (hv1 : 1 ≤ v) (hv9 : v ≤ 999) (hr : (hd p).tmod (v : Int) = 0) (hg : gd (u : Int) (v : Int) = 1) (hA : FA I F n) (hS : FrSt p (fun e => Dn u v e ∨ e = ((u : Int), (v : Int))) F n) (hQ : ∀ I' F n, FrF I I' → FA I' F n → FrSt p (Dn u (v + 1)) F n → Q none I' J R) : Ex 77 32 [some (.ref 138), some (.ref a), some (.int (nI u)), some (.int (nI v))] [] (amSH L) I J R Q := by
  have hPB := hB.mono (C := 4000000000000000000) (by decide)
  have hvb := hv_iB (u := -(u : Int)) (v := (v : Int)) hB h5 (by omega) (by omega)
  have fq : hv p (-(u : Int)) (v : Int) = 0 → FrQ p (-(u : Int), (v : Int)) := fun z => Or.inr ⟨by show -(u : Int) ≠ 0; omega, ⟨⟨by show -999 ≤ -(u : Int); omega, by show -(u : Int) ≤ 999; omega⟩, by show 1 ≤ (v : Int); omega, by show (v : Int) ≤ 999; omega⟩, by show (p (lw p)).tmod ((-(u : Int)).natAbs : Nat) = 0; rw [Int.natAbs_neg, Int.natAbs_natCast]; exact hf, hr, by show Nat.gcd (-(u : Int)).natAbs (v : Int).natAbs = 1; rw [Int.natAbs_neg]; exact Int.ofNat_inj.mp hg, z⟩
  have nd : ¬ (Dn u v (-(u : Int), (v : Int)) ∨ (-(u : Int), (v : Int)) = ((u : Int), (v : Int))) := fun z => by
    rcases z with z | z
    · unfold Dn at z
      dsimp only at z
      omega
    · have := congrArg Prod.fst z
      dsimp only at this
      omega
  refine LA1 e77_32 ?_
  refine LI2 e77_33 ?_
  refine Ineg e77_34 ?_
  refine I2l e77_35 ?_
  rw [neg64 u (by omega)]
  refine LI3 e77_36 ?_
  refine I2l e77_37 ?_
  rw [nI_oI (n := v) (by omega)]
  refine Cv2 e77_38 c77_20 ha.1 (Nat.le_of_ble_eq_true rfl) (Nat.le_of_ble_eq_true rfl) ((p_worth ha hp hPB h5 (by omega) (by omega))) ?_
  refine K0 e77_41 ?_
  refine D_ne e77_42 e77_43 t77_43 (fun h42 => ?_) (fun h42 => ?_)
  · exact Rvd e77_53 rt77 (by
    have hz2 : ¬ hv p (-(u : Int)) (v : Int) = 0 := fun z => h42 (by rw [z]; rfl)
    exact hQ _ _ _ FrF.rf hA (hS.cg (fun e he => by
      unfold Dn
      constructor
      · rintro ((q | q | q) | q)
        · exact Or.inl q
        · exact Or.inr (Or.inl q)
        · exact Or.inr (Or.inr ⟨q.1, by omega⟩)
        · subst q
          exact Or.inr (Or.inr ⟨Int.natAbs_natCast u, by show (v : Int) < ((v + 1 : Nat) : Int); omega⟩)
      · intro q
        rcases q with q | q | ⟨q1, q2⟩
        · exact Or.inl (Or.inl q)
        · exact Or.inl (Or.inr (Or.inl q))
        · by_cases e2 : e.2 = (v : Int)
          · rcases Int.natAbs_eq e.1 with e1 | e1
            · exact Or.inr (Prod.ext (by rw [e1, q1]) e2)
            · exact absurd he (fun z => by
                have hroot := z.root hs
                rw [e1, q1, e2] at hroot
                exact hz2 hroot)
          · exact Or.inl (Or.inr (Or.inr ⟨q1, by omega⟩)))))
  · have hz2 : hv p (-(u : Int)) (v : Int) = 0 := by
      rw [oI_0, oI_eq hvb ⟨by decide, by decide⟩] at h42
      exact Decidable.not_not.mp h42
    refine LA0 e77_46 ?_
    refine LI2 e77_47 ?_
    refine Ineg e77_48 ?_
    refine LI3 e77_49 ?_
    rw [neg_nI]
    refine Cv2p e77_50 c77_78 (o138 L) (Nat.le_of_ble_eq_true rfl) (Nat.le_of_ble_eq_true rfl) (q_ins (a := (-(u : Int), (v : Int))) hR (fq hz2).b.1 hS.1 (hS.lt3 hs h5 (fq hz2) nd) hA) ?_
    have hS0 := hS
    rintro _ I1 J1 R1 ⟨rfl, hJ1, hR1, hF1, m, hm, hA1⟩
    subst hJ1
    subst hR1
    exact Rvd e77_53 rt77 (by
    exact hQ _ _ _ hF1 hA1 ((hS0.ins (fq hz2) nd hm).cg (fun e he => by
      unfold Dn
      constructor
      · rintro (((q | q | q) | q) | q)
        · exact Or.inl q
        · exact Or.inr (Or.inl q)
        · exact Or.inr (Or.inr ⟨q.1, by omega⟩)
        · subst q
          exact Or.inr (Or.inr ⟨Int.natAbs_natCast u, by show (v : Int) < ((v + 1 : Nat) : Int); omega⟩)
        · subst q
          exact Or.inr (Or.inr ⟨by show (-(u : Int)).natAbs = u; omega, by show (v : Int) < ((v + 1 : Nat) : Int); omega⟩)
      · intro q
        rcases q with q | q | ⟨q1, q2⟩
        · exact Or.inl (Or.inl (Or.inl q))
        · exact Or.inl (Or.inl (Or.inr (Or.inl q)))
        · by_cases e2 : e.2 = (v : Int)
          · rcases Int.natAbs_eq e.1 with e1 | e1
            · exact Or.inl (Or.inr (Prod.ext (by rw [e1, q1]) e2))
            · exact Or.inr (Prod.ext (by rw [e1, q1]) e2)
          · exact Or.inl (Or.inl (Or.inr (Or.inr ⟨q1, by omega⟩))))))
set_option maxHeartbeats 2000000 in
theorem q_try (hR : amRok R) (ha : amPO (amSH L) R a) (hp : JP J (a + 1) p) (hB : PB 999 p) (hs : 0 < sz p) (h5 : sz p ≤ 5) (hu1 : 1 ≤ u) (hu9 : u ≤ 999) (hf : (p (lw p)).tmod (u : Int) = 0) (hv1 : 1 ≤ v) (hv9 : v ≤ 999) (hr : (hd p).tmod (v : Int) = 0) (hA : FA I F n) (hS : FrSt p (Dn u v) F n) : Cl 77 [.ref 138, .ref a, .int (nI u), .int (nI v)] (amSH L) I J R (fun w I' J' R' => w = none ∧ J' = J ∧ R' = R ∧ FrF I I' ∧ ∃ F n, FA I' F n ∧ FrSt p (Dn u (v + 1)) F n) := by
  have hPB := hB.mono (C := 4000000000000000000) (by decide)
  have hvb := hv_iB (u := (u : Int)) (v := (v : Int)) hB h5 (by omega) (by omega)
  have g1 := gd_pos (a := (u : Int)) (d := (v : Int)) (by omega)
  have g2 := gd_le (a := (u : Int)) (d := (v : Int)) (by omega)
  have nd : ¬ Dn u v ((u : Int), (v : Int)) := fun z => by
    unfold Dn at z
    dsimp only at z
    omega
  show Ex 77 0 [some (.ref 138), some (.ref a), some (.int (nI u)), some (.int (nI v))] [] (amSH L) I J R _
  refine LI2 e77_0 ?_
  refine I2l e77_1 ?_
  rw [nI_oI (n := u) (by omega)]
  refine LI3 e77_2 ?_
  refine I2l e77_3 ?_
  rw [nI_oI (n := v) (by omega)]
  refine Cs2 e77_4 c77_151 (Nat.le_of_ble_eq_true rfl) (Nat.le_of_ble_eq_true rfl) ((g_gd (a := (u : Int)) (d := (v : Int)) ⟨by omega, by omega⟩ ⟨by omega, by omega⟩)) ?_
  refine K1 e77_7 ?_
  refine D_eq e77_8 e77_9 t77_9 (fun h8 => ?_) (fun h8 => ?_)
  · have hg : gd (u : Int) (v : Int) = 1 := by
      rw [oI_1, oI_eq ⟨by omega, by omega⟩ ⟨by decide, by decide⟩] at h8
      exact h8
    refine LA1 e77_13 ?_
    refine LI2 e77_14 ?_
    refine I2l e77_15 ?_
    rw [nI_oI (n := u) (by omega)]
    refine LI3 e77_16 ?_
    refine I2l e77_17 ?_
    rw [nI_oI (n := v) (by omega)]
    refine Cv2 e77_18 c77_20 ha.1 (Nat.le_of_ble_eq_true rfl) (Nat.le_of_ble_eq_true rfl) ((p_worth ha hp hPB h5 (by omega) (by omega))) ?_
    refine K0 e77_21 ?_
    refine D_ne e77_22 e77_23 t77_23 (fun h22 => ?_) (fun h22 => ?_)
    · have hz : ¬ hv p (u : Int) (v : Int) = 0 := fun z => h22 (by rw [z]; rfl)
      exact q_try32 hR ha hp hB hs h5 hu1 hu9 hf hv1 hv9 hr hg hA (hS.cg (fun e he => ⟨Or.inl, fun q => q.elim id (fun q => by subst q; exact (hz (he.root hs)).elim)⟩)) (fun I' F n q1 q2 q3 => ⟨rfl, rfl, rfl, q1, F, n, q2, q3⟩)
    · have hz : hv p (u : Int) (v : Int) = 0 := by
        rw [oI_0, oI_eq hvb ⟨by decide, by decide⟩] at h22
        exact Decidable.not_not.mp h22
      have fq : FrQ p ((u : Int), (v : Int)) := Or.inr ⟨by show (u : Int) ≠ 0; omega, ⟨⟨by show -999 ≤ (u : Int); omega, by show (u : Int) ≤ 999; omega⟩, by show 1 ≤ (v : Int); omega, by show (v : Int) ≤ 999; omega⟩, by show (p (lw p)).tmod ((u : Int).natAbs : Nat) = 0; rw [Int.natAbs_natCast]; exact hf, hr, Int.ofNat_inj.mp hg, hz⟩
      refine LA0 e77_26 ?_
      refine LI2 e77_27 ?_
      refine LI3 e77_28 ?_
      refine Cv2p e77_29 c77_78 (o138 L) (Nat.le_of_ble_eq_true rfl) (Nat.le_of_ble_eq_true rfl) (q_ins (a := ((u : Int), (v : Int))) hR fq.b.1 hS.1 (hS.lt3 hs h5 fq nd) hA) ?_
      rintro _ I1 J1 R1 ⟨rfl, hJ1, hR1, hF1, m, hm, hA1⟩
      subst hJ1
      subst hR1
      exact q_try32 hR ha hp hB hs h5 hu1 hu9 hf hv1 hv9 hr hg hA1 (hS.ins fq nd hm) (fun I' F n q1 q2 q3 => ⟨rfl, rfl, rfl, hF1.tr q1, F, n, q2, q3⟩)
  · exact Rvd e77_12 rt77 (by
    refine ⟨rfl, rfl, rfl, FrF.rf, F, n, hA, hS.step (fun e he h1 h2 => h8 ?_)⟩
    have hg : gd (u : Int) (v : Int) = 1 := by
      have h4 := he.b.2
      rw [h1, h2, Int.natAbs_natCast] at h4
      unfold gd
      rw [Int.natAbs_natCast, Int.natAbs_natCast, h4]
      rfl
    rw [hg]
    rfl)
end FIND
