/-! fractions: find, what it answers (printed by wip/whole/t51.py) -/
theorem FrQ.e0 {p : Po} {e : Int × Int} (h : FrQ p e) (h0 : e.1 = 0) : e = (0, 1) ∧ 0 < lw p := by
  rcases h with h | h
  · exact h
  · exact absurd h0 h.1
theorem FrSt.none {p : Po} {F : Fq} : FrSt p (fun _ => False) F 0 := ⟨fun k hk => absurd hk (Nat.not_lt_zero _), fun i j _ hj => absurd hj (Nat.not_lt_zero _), fun e => ⟨fun ⟨k, hk, _⟩ => absurd hk (Nat.not_lt_zero _), fun q => q.2.elim⟩⟩
theorem FrSt.st0 {p : Po} {F : Fq} (h : lw p = 0) : FrSt p (Dn 1 1) F 0 := FrSt.none.cg (fun e he => ⟨False.elim, fun q => by
  have h0 : e.1 = 0 := by
    have := he.b.1.2.1
    unfold Dn at q
    omega
  have := (he.e0 h0).2
  omega⟩)
theorem FrSt.st1 {p : Po} {F : Fq} {m : Nat} (h : 0 < lw p) (hm : InsAt F 0 m (0, 1)) : FrSt p (Dn 1 1) (insF F m (0, 1)) 1 := (FrSt.none.ins (Or.inl ⟨rfl, h⟩) id hm).cg (fun e he => ⟨fun q => by
  rcases q with q | q
  · exact q.elim
  · subst q; exact Or.inl rfl, fun q => by
  have h0 : e.1 = 0 := by
    have := he.b.1.2.1
    unfold Dn at q
    omega
  exact Or.inr (he.e0 h0).1⟩)
theorem FrSt.next {p : Po} {F : Fq} {n u : Nat} (h : FrSt p (Dn u 1000) F n) : FrSt p (Dn (u + 1) 1) F n := h.cg (fun e he => by
  have := he.b.1.2
  unfold Dn
  omega)
theorem FrSt.skip {p : Po} {F : Fq} {n u : Nat} (h : FrSt p (Dn u 1) F n) (hu : 1 ≤ u) (hno : ¬ (p (lw p)).tmod (u : Int) = 0) : FrSt p (Dn (u + 1) 1) F n := h.cg (fun e he => by
  have hb := he.b.1.2
  have : e.1.natAbs = u → False := fun q => by
    rcases he with ⟨z, -⟩ | z
    · subst z
      have q2 : (0 : Int).natAbs = u := q
      omega
    · have := z.2.2.1
      rw [q] at this
      exact hno this
  have h2 : e.1.natAbs ≠ u := this
  unfold Dn
  omega)
theorem FrSt.all {p : Po} {F : Fq} {n : Nat} (h : FrSt p (Dn 1000 1) F n) : FrSt p (fun _ => True) F n := h.cg (fun e he => by
  have := he.b.1
  unfold frB at this
  unfold Dn
  constructor
  · intro _; trivial
  · intro _; omega)
section FIND2
variable {L : Nat} {I : amI} {J : amJ} {R : amR} {Q : amQ} {a u v n k : Nat} {F : Fq} {p : Po} {H : Int}
set_option maxHeartbeats 2000000 in
theorem q_under (hR : amRok R) (ha : amPO (amSH L) R a) (hp : JP J (a + 1) p) (hB : PB 999 p) (hs : 0 < sz p) (h5 : sz p ≤ 5) (hu1 : 1 ≤ u) (hu9 : u ≤ 999) (hf : (p (lw p)).tmod (u : Int) = 0) (hA : FA I F n) (hS : FrSt p (Dn u 1) F n) : Cl 77 [.ref 138, .ref a, .int (nI u), .long (oI (hd p))] (amSH L) I J R (fun v I' J' R' => v = none ∧ J' = J ∧ R' = R ∧ FrF I I' ∧ ∃ F n, FA I' F n ∧ FrSt p (Dn (u + 1) 1) F n) := by
  show Ex 77 0 [some (.ref 138), some (.ref a), some (.int (nI u)), some (.long (oI (hd p))), none, none] [] (amSH L) I J R _
  refine Ki e77_0 kiconst_1 ?_
  refine SI5 e77_1 rfl ?_
  exact q_und_lp hR ha hp hB hs h5 hu1 hu9 hf rfl 999 1 _ F n rfl (by omega) hA hS (fun I' F n q1 q2 q3 => ⟨rfl, rfl, rfl, q1, F, n, q2, q3.next⟩)
set_option maxHeartbeats 2000000 in
theorem q_low (hR : amRok R) (ha : amPO (amSH L) R a) (hp : JP J (a + 1) p) (hB : PB 999 p) (hs : 0 < sz p) (h5 : sz p ≤ 5) : ∀ (f k : Nat), k + f = 4 → Ex 76 28 [some (.ref 138), some (.ref a), some (.int (nI (lwN p f k))), none, none, none, none, none] [] (amSH L) I J R Q → Ex 76 7 [some (.ref 138), some (.ref a), some (.int (nI k)), none, none, none, none, none] [] (amSH L) I J R Q := by
  have hPB := hB.mono (C := 4000000000000000000) (by decide)
  intro f
  induction f with
  | zero =>
    intro k hk hQ
    rw [lwN] at hQ
    refine LI2 e76_7 ?_
    refine Ki e76_8 kiconst_4 ?_
    refine CN_ge (a := k) (b := 4) e76_9 t76_9 rfl (by decide) (by omega) (by omega) (fun _ => ?_) (fun q => by omega)
    exact hQ
  | succ f ih =>
    intro k hk hQ
    rw [lwN] at hQ
    have hi := hPB.iB (by decide) (k := k) (by omega)
    refine LI2 e76_7 ?_
    refine Ki e76_8 kiconst_4 ?_
    refine CN_ge (a := k) (b := 4) e76_9 t76_9 rfl (by decide) (by omega) (by omega) (fun q => absurd q (by omega)) (fun _ => ?_)
    refine LA1 e76_12 ?_
    refine LI2 e76_13 ?_
    refine Cv1 e76_14 c76_3 ha.1 (Nat.le_of_ble_eq_true rfl) (Nat.le_of_ble_eq_true rfl) ((p_at ha _)) ?_
    rw [atv_n (by omega), hp k (by omega)]
    refine K0 e76_17 ?_
    refine D_ne e76_18 e76_19 t76_19 (fun h18 => ?_) (fun h18 => ?_)
    · rw [if_neg (fun z => h18 (by rw [z]; rfl))] at hQ
      exact hQ
    · refine IncN2 (m := k) e76_22 rfl ?_
      refine Go e76_25 t76_25 ?_
      rw [oI_0, oI_eq hi ⟨by decide, by decide⟩] at h18
      rw [if_pos (Decidable.not_not.mp h18)] at hQ
      exact ih (k + 1) (by omega) hQ
set_option maxHeartbeats 2000000 in
theorem q_find_lp (hR : amRok R) (ha : amPO (amSH L) R a) (hp : JP J (a + 1) p) (hB : PB 999 p) (hs : 0 < sz p) (h5 : sz p ≤ 5) : ∀ (m u : Nat) (I : amI) (F : Fq) (n : Nat), u + m = 1000 → 1 ≤ u → FA I F n → FrSt p (Dn u 1) F n → (∀ I' F n, FrF I I' → FA I' F n → FrSt p (fun _ => True) F n → Q none I' J R) → Ex 76 53 [some (.ref 138), some (.ref a), some (.int (nI (lw p))), some (.long (oI (p (lw p)))), none, some (.long (oI (hd p))), none, some (.int (nI u))] [] (amSH L) I J R Q := by
  have hPB := hB.mono (C := 4000000000000000000) (by decide)
  have hl := lwN_le (p := p) (f := 4) (k := 0)
  have hl4 : lw p ≤ 4 := hl.2
  have hfB := hPB.iB (by decide) (k := lw p) (by omega)
  intro m
  induction m with
  | zero =>
    intro u I F n hu hu1 hA hS hQ
    have eu : u = 1000 := by omega
    subst eu
    refine LI7 e76_53 ?_
    refine Ki e76_55 ksipush_999 ?_
    refine CN_gt (a := 1000) (b := 999) e76_58 t76_58 rfl (by decide) (by omega) (by omega) (fun _ => ?_) (fun q => by omega)
    exact Rvd e76_86 rt76 (hQ _ _ _ FrF.rf hA hS.all)
  | succ m ih =>
    intro u I F n hu hu1 hA hS hQ
    have htb : iB ((p (lw p)).tmod (u : Int)) := by
      have h3 : ((p (lw p)).tmod (u : Int)).natAbs = (p (lw p)).natAbs % (u : Int).natAbs := Int.natAbs_tmod _ _
      have h2 : (p (lw p)).natAbs % (u : Int).natAbs ≤ (p (lw p)).natAbs := Nat.mod_le _ _
      have h4 := hfB
      unfold iB at h4 ⊢
      omega
    refine LI7 e76_53 ?_
    refine Ki e76_55 ksipush_999 ?_
    refine CN_gt (a := u) (b := 999) e76_58 t76_58 rfl (by decide) (by omega) (by omega) (fun q => absurd q (by omega)) (fun _ => ?_)
    refine LJ3 e76_61 ?_
    refine LI7 e76_62 ?_
    refine I2l e76_64 ?_
    rw [nI_oI (n := u) (by omega)]
    refine Lrem e76_65 (fun z => by rw [oI_0, oI_eq ⟨by omega, by omega⟩ ⟨by decide, by decide⟩] at z; omega) ?_
    rw [oI_rem hfB ⟨by omega, by omega⟩]
    refine K0 e76_66 ?_
    refine D_ne e76_67 e76_68 t76_68 (fun h67 => ?_) (fun h67 => ?_)
    · refine IncN7 (m := u) e76_80 rfl ?_
      refine Go e76_83 t76_83 ?_
      exact ih (u + 1) _ _ _ (by omega) (by omega) hA (hS.skip hu1 (fun z => h67 (by rw [z]; rfl))) hQ
    · have hf : (p (lw p)).tmod (u : Int) = 0 := by
        rw [oI_0, oI_eq htb ⟨by decide, by decide⟩] at h67
        exact Decidable.not_not.mp h67
      refine LA0 e76_71 ?_
      refine LA1 e76_72 ?_
      refine LI7 e76_73 ?_
      refine LJ5 e76_75 ?_
      refine Cv3p e76_77 c76_77 (o138 L) (Nat.le_of_ble_eq_true rfl) (Nat.le_of_ble_eq_true rfl) (q_under hR ha hp hB hs h5 hu1 (by omega) hf hA hS) ?_
      rintro _ I1 J1 R1 ⟨rfl, hJ1, hR1, hF1, F1, n1, hA1, hS1⟩
      subst hJ1
      subst hR1
      refine IncN7 (m := u) e76_80 rfl ?_
      refine Go e76_83 t76_83 ?_
      exact ih (u + 1) _ _ _ (by omega) (by omega) hA1 hS1 (fun I' F n q1 q2 q3 => hQ I' F n (hF1.tr q1) q2 q3)
set_option maxHeartbeats 2000000 in
theorem q_find (hR : amRok R) (ha : amPO (amSH L) R a) (hp : JP J (a + 1) p) (hB : PB 999 p) (hs : 0 < sz p) (h5 : sz p ≤ 5) : Cl 76 [.ref 138, .ref a] (amSH L) I J R (fun v I' J' R' => v = none ∧ J' = J ∧ R' = R ∧ FrF I I' ∧ ∃ F n, FA I' F n ∧ FrSt p (fun _ => True) F n) := by
  have hPB := hB.mono (C := 4000000000000000000) (by decide)
  have hl := lwN_le (p := p) (f := 4) (k := 0)
  have hl4 : lw p ≤ 4 := hl.2
  show Ex 76 0 [some (.ref 138), some (.ref a), none, none, none, none, none, none] [] (amSH L) I J R _
  refine LA0 e76_0 ?_
  refine Ki e76_1 kiconst_0 ?_
  refine Pi e76_2 (o138 L) f194 ?_
  refine Ki e76_5 kiconst_0 ?_
  refine SI2 e76_6 rfl ?_
  refine q_low hR ha hp hB hs h5 4 0 rfl ?_
  show Ex 76 28 [some (.ref 138), some (.ref a), some (.int (nI (lw p))), none, none, none, none, none] [] (amSH L) (amU I 138 2 0) J R _
  refine LI2 e76_28 ?_
  refine B_le e76_29 t76_29 (fun h29 => ?_) (fun h29 => ?_)
  · refine LA1 e76_38 ?_
    refine LI2 e76_39 ?_
    refine Cv1 e76_40 c76_3 ha.1 (Nat.le_of_ble_eq_true rfl) (Nat.le_of_ble_eq_true rfl) ((p_at ha _)) ?_
    rw [atv_n (by omega), hp (lw p) (by omega)]
    refine SJ3 e76_43 rfl ?_
    refine LA1 e76_44 ?_
    refine Cv0 e76_45 c76_6 ha.1 (Nat.le_of_ble_eq_true rfl) (Nat.le_of_ble_eq_true rfl) ((p_head ha hp hPB)) ?_
    refine SJ5 e76_48 rfl ?_
    refine Ki e76_50 kiconst_1 ?_
    refine SI7 e76_51 rfl ?_
    exact q_find_lp hR ha hp hB hs h5 999 1 _ (fun _ => (0, 1)) 0 rfl (by omega) ⟨amU_same, fun k hk => absurd hk (Nat.not_lt_zero _)⟩ (FrSt.st0 (by rw [i32le, nI_toInt (by omega), show (0 : Int32).toInt = 0 from rfl] at h29; omega)) (fun I' F n q1 q2 q3 => ⟨rfl, rfl, rfl, (FrF.up FrF.rf (by decide)).tr q1, F, n, q2, q3⟩)
  · refine LA0 e76_32 ?_
    refine Ki e76_33 kiconst_0 ?_
    refine Ki e76_34 kiconst_1 ?_
    show Ex 76 35 [some (.ref 138), some (.ref a), some (.int (nI (lw p))), none, none, none, none, none] [.int (iI 1), .int (iI 0), .ref 138] (amSH L) (amU I 138 2 0) J R _
    refine Cv2p e76_35 c76_78 (o138 L) (Nat.le_of_ble_eq_true rfl) (Nat.le_of_ble_eq_true rfl) (q_ins (a := (0, 1)) (n := 0) (F := fun _ => (0, 1)) hR ⟨⟨by decide, by decide⟩, by decide, by decide⟩ (fun k hk => absurd hk (Nat.not_lt_zero _)) (by decide) ⟨amU_same, fun k hk => absurd hk (Nat.not_lt_zero _)⟩) ?_
    rintro _ I1 J1 R1 ⟨rfl, hJ1, hR1, hF1, m, hm, hA1⟩
    subst hJ1
    subst hR1
    refine LA1 e76_38 ?_
    refine LI2 e76_39 ?_
    refine Cv1 e76_40 c76_3 ha.1 (Nat.le_of_ble_eq_true rfl) (Nat.le_of_ble_eq_true rfl) ((p_at ha _)) ?_
    rw [atv_n (by omega), hp (lw p) (by omega)]
    refine SJ3 e76_43 rfl ?_
    refine LA1 e76_44 ?_
    refine Cv0 e76_45 c76_6 ha.1 (Nat.le_of_ble_eq_true rfl) (Nat.le_of_ble_eq_true rfl) ((p_head ha hp hPB)) ?_
    refine SJ5 e76_48 rfl ?_
    refine Ki e76_50 kiconst_1 ?_
    refine SI7 e76_51 rfl ?_
    exact q_find_lp hR ha hp hB hs h5 999 1 _ _ _ rfl (by omega) hA1 (FrSt.st1 (by rw [i32le, nI_toInt (by omega), show (0 : Int32).toInt = 0 from rfl] at h29; omega) hm) (fun I' F n q1 q2 q3 => ⟨rfl, rfl, rfl, (FrF.up FrF.rf (by decide)).tr (hF1.tr q1), F, n, q2, q3⟩)
theorem q_size (hA : FA I F n) : Rv 73 [.ref 138] (amSH L) I J R (.int (nI n)) := by
  intro Q hQ
  show Ex 73 0 [some (.ref 138)] [] (amSH L) I J R _
  refine LA0 e73_0 ?_
  refine Gi e73_1 (o138 L) (amGi_of f194 (by decide)) ?_
  rw [hA.1]
  exact Ri e73_4 rt73 (hQ)
theorem q_over (hR : amRok R) (hA : FA I F n) (hn : n ≤ 4) (hk : k < n) : Rv 74 [.ref 138, .int (nI k)] (amSH L) I J R (.int (iI (F k).1)) := by
  intro Q hQ
  show Ex 74 0 [some (.ref 138), some (.int (nI k))] [] (amSH L) I J R _
  refine LI1 e74_0 ?_
  refine B_lt e74_1 t74_1 (fun q => absurd q (nI_pos (by omega))) (fun _ => ?_)
  refine LI1 e74_4 ?_
  refine Ki e74_5 kiconst_4 ?_
  refine CN_ge (a := k) (b := 4) e74_6 t74_6 rfl (by decide) (by omega) (by omega) (fun q => absurd q (by omega)) (fun _ => ?_)
  refine LA0 e74_9 ?_
  refine Gr e74_10 (o138 L) (hR 138 0 139 rfl) f192 ?_
  refine LI1 e74_13 ?_
  refine AiN (k := k) e74_14 (o139 L) rfl (by omega) (by decide) ?_
  rw [(hA.2 k hk).1]
  refine Go e74_15 t74_15 ?_
  exact Ri e74_19 rt74 (hQ)
theorem q_undr (hR : amRok R) (hA : FA I F n) (hn : n ≤ 4) (hk : k < n) : Rv 75 [.ref 138, .int (nI k)] (amSH L) I J R (.int (iI (F k).2)) := by
  intro Q hQ
  show Ex 75 0 [some (.ref 138), some (.int (nI k))] [] (amSH L) I J R _
  refine LI1 e75_0 ?_
  refine B_lt e75_1 t75_1 (fun q => absurd q (nI_pos (by omega))) (fun _ => ?_)
  refine LI1 e75_4 ?_
  refine Ki e75_5 kiconst_4 ?_
  refine CN_ge (a := k) (b := 4) e75_6 t75_6 rfl (by decide) (by omega) (by omega) (fun q => absurd q (by omega)) (fun _ => ?_)
  refine LA0 e75_9 ?_
  refine Gr e75_10 (o138 L) (hR 138 1 140 rfl) f193 ?_
  refine LI1 e75_13 ?_
  refine AiN (k := k) e75_14 (o140 L) rfl (by omega) (by decide) ?_
  rw [(hA.2 k hk).2]
  refine Go e75_15 t75_15 ?_
  exact Ri e75_19 rt75 (hQ)
end FIND2
