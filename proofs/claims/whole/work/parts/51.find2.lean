/-! fractions: find, what it answers (printed by wip/whole/t51.py) -/
theorem FrQ.e0 {p : Po} {e : Int × Int} (h : FrQ p e) (h0 : e.1 = 0) : e = (0, 1) ∧ 0 < lw p := by
  rcases h with h | h
  · exact h
  · exact absurd h0 h.1
theorem FrSt.none {p : Po} {F : Fq} : FrSt p (fun _ => False) F 0 := ⟨fun k hk => absurd hk (Nat.not_lt_zero _), fun i j _ hj => absurd hj (Nat.not_lt_zero _), fun e => ⟨fun ⟨k, hk, _⟩ => absurd hk (Nat.not_lt_zero _), fun q => q.2.elim⟩⟩
theorem FrSt.st0 {p : Po} {F : Fq} (h : lw p = 0) : FrSt p (Dn 1 1) F 0 := FrSt.none.cg (fun e he => ⟨False.elim, fun q => by
  have h0 : e.1 = 0 := by
    have := he.b.1.2.1
    unfold Dn at q
    omega
  have := (he.e0 h0).2
  omega⟩)
theorem FrSt.st1 {p : Po} {F : Fq} {m : Nat} (h : 0 < lw p) (hm : InsAt F 0 m (0, 1)) : FrSt p (Dn 1 1) (insF F m (0, 1)) 1 := (FrSt.none.ins (Or.inl ⟨rfl, h⟩) id hm).cg (fun e he => ⟨fun q => by
  rcases q with q | q
  · exact q.elim
  · subst q; exact Or.inl rfl, fun q => by
  have h0 : e.1 = 0 := by
    have := he.b.1.2.1
    unfold Dn at q
    omega
  exact Or.inr (he.e0 h0).1⟩)
theorem FrSt.next {p : Po} {F : Fq} {n u : Nat} (h : FrSt p (Dn u 1000) F n) : FrSt p (Dn (u + 1) 1) F n := h.cg (fun e he => by
  have := he.b.1.2
  unfold Dn
  omega)
theorem FrSt.skip {p : Po} {F : Fq} {n u : Nat} (h : FrSt p (Dn u 1) F n) (hu : 1 ≤ u) (hno : ¬ (p (lw p)).tmod (u : Int) = 0) : FrSt p (Dn (u + 1) 1) F n := h.cg (fun e he => by
  have hb := he.b.1.2
  have : e.1.natAbs = u → False := fun q => by
    rcases he with ⟨z, -⟩ | z
    · subst z
      have q2 : (0 : Int).natAbs = u := q
      omega
    · have := z.2.2.1
      rw [q] at this
      exact hno this
  have h2 : e.1.natAbs ≠ u := this
  unfold Dn
  omega)
theorem FrSt.all {p : Po} {F : Fq} {n : Nat} (h : FrSt p (Dn 1000 1) F n) : FrSt p (fun _ => True) F n := h.cg (fun e he => by
  have := he.b.1
  unfold frB at this
  unfold Dn
  constructor
  · intro _; trivial
  · intro _; omega)
/-- find's frame -/
def FrG (I I' : amI) : Prop := ∀ y, (y < 138 ∨ 143 ≤ y) → I' y = I y
theorem FrF.g {I I' : amI} (h : FrF I I') : FrG I I' := fun y hy => h y (by omega) (by omega) (by omega)
theorem FrG.rf {I : amI} : FrG I I := fun _ _ => rfl
theorem FrG.tr {I I1 I2 : amI} (h1 : FrG I I1) (h2 : FrG I1 I2) : FrG I I2 := fun y a => (h2 y a).trans (h1 y a)
theorem FrG.row {I I1 : amI} {b : Nat} (hb : b = 141 ∨ b = 142) (h : ∀ y, y ≠ b → I1 y = I y) : FrG I I1 := fun y a => h y (by omega)
theorem FA.cg {I I' : amI} {F : Fq} {n : Nat} (h : FA I F n) (h1 : I' 138 = I 138) (h2 : I' 139 = I 139) (h3 : I' 140 = I 140) : FA I' F n := ⟨by rw [h1]; exact h.1, fun k hk => by rw [h2, h3]; exact h.2 k hk⟩
theorem FrSt.nov {p : Po} {F : Fq} {n u v : Nat} (h : FrSt p (Dn u v) F n) (hno : ¬ (hd p).tmod (v : Int) = 0) (hu : 1 ≤ u) : FrSt p (Dn u (v + 1)) F n := h.step (fun e he h1 h2 => by
  rcases he with ⟨z, -⟩ | z
  · subst z
    have q2 : (0 : Int).natAbs = u := h1
    omega
  · have := z.2.2.2.1
    rw [h2] at this
    exact hno this)
theorem lwN_ne {p : Po} : ∀ {f k : Nat}, lwN p f k < k + f → p (lwN p f k) ≠ 0
  | 0, k, h => absurd h (Nat.lt_irrefl _)
  | f + 1, k, h => by
    unfold lwN at h ⊢
    split at h
    · rename_i g
      rw [if_pos g]
      exact lwN_ne (by omega)
    · rename_i g
      rw [if_neg g]
      exact g
theorem lw_ne {p : Po} (hs : 0 < sz p) (h5 : sz p ≤ 5) : p (lw p) ≠ 0 := fun z => by
  have hl := lwN_le (p := p) (f := 4) (k := 0)
  have h1 : ¬ lw p < 0 + 4 := fun g => lwN_ne (f := 4) (k := 0) g z
  have h4 : lw p = 4 := by
    have : lw p ≤ 4 := hl.2
    omega
  have hh := sz_head hs
  by_cases e : sz p - 1 = 4
  · rw [e, ← h4] at hh
    exact hh z
  · exact hh (lwN_zero (f := 4) (k := 0) (Nat.zero_le _) (by show sz p - 1 < lw p; omega))
theorem hd_ne {p : Po} (hs : 0 < sz p) : hd p ≠ 0 := by
  unfold hd
  rw [if_neg (by omega)]
  exact sz_head hs
theorem nab999 {p : Po} (hB : PB 999 p) {k : Nat} (hk : k < 9) : (p k).natAbs ≤ 999 := by
  have := hB k hk
  omega
theorem hd999 {p : Po} (hB : PB 999 p) : (hd p).natAbs ≤ 999 := by
  unfold hd
  split
  · decide
  · have := sz_le p
    exact nab999 hB (by omega)
section FIND2
variable {L : Nat} {I : amI} {J : amJ} {R : amR} {Q : amQ} {a u v n k i : Nat} {F : Fq} {p : Po} {H : Int}
set_option maxHeartbeats 2000000 in
theorem q_low (hR : amRok R) (ha : amPO (amSH L) R a) (hp : JP J (a + 1) p) (hB : PB 999 p) (hs : 0 < sz p) (h5 : sz p ≤ 5) : ∀ (f k : Nat), k + f = 4 → Ex 76 28 [some (.ref 138), some (.ref a), some (.int (nI (lwN p f k))), none, none, none, none] [] (amSH L) I J R Q → Ex 76 7 [some (.ref 138), some (.ref a), some (.int (nI k)), none, none, none, none] [] (amSH L) I J R Q := by
  have hPB := hB.mono (C := 4000000000000000000) (by decide)
  intro f
  induction f with
  | zero =>
    intro k hk hQ
    rw [lwN] at hQ
    refine LI2 e76_7 ?_
    refine Ki e76_8 kiconst_4 ?_
    refine CN_ge (a := k) (b := 4) e76_9 t76_9 rfl (by decide) (by omega) (by omega) (fun _ => ?_) (fun q => by omega)
    exact hQ
  | succ f ih =>
    intro k hk hQ
    rw [lwN] at hQ
    have hi := hPB.iB (by decide) (k := k) (by omega)
    refine LI2 e76_7 ?_
    refine Ki e76_8 kiconst_4 ?_
    refine CN_ge (a := k) (b := 4) e76_9 t76_9 rfl (by decide) (by omega) (by omega) (fun q => absurd q (by omega)) (fun _ => ?_)
    refine LA1 e76_12 ?_
    refine LI2 e76_13 ?_
    refine Cv1 e76_14 c76_3 ha.1 (Nat.le_of_ble_eq_true rfl) (Nat.le_of_ble_eq_true rfl) ((p_at ha _)) ?_
    rw [atv_n (by omega), hp k (by omega)]
    refine K0 e76_17 ?_
    refine D_ne e76_18 e76_19 t76_19 (fun h18 => ?_) (fun h18 => ?_)
    · rw [if_neg (fun z => h18 (by rw [z]; rfl))] at hQ
      exact hQ
    · refine IncN2 (m := k) e76_22 rfl ?_
      refine Go e76_25 t76_25 ?_
      rw [oI_0, oI_eq hi ⟨by decide, by decide⟩] at h18
      rw [if_pos (Decidable.not_not.mp h18)] at hQ
      exact ih (k + 1) (by omega) hQ
set_option maxHeartbeats 2000000 in
theorem q_in_lp (hR : amRok R) (ha : amPO (amSH L) R a) (hp : JP J (a + 1) p) (hB : PB 999 p) (hs : 0 < sz p) (h5 : sz p ≤ 5) (hi : i < (dvs (p (lw p)).natAbs).length) (hui : (dvs (p (lw p)).natAbs).getD i 0 = u) (hu1 : 1 ≤ u) (hu9 : u ≤ 999) (hf : (p (lw p)).tmod (u : Int) = 0) : ∀ (f v m : Nat) (I : amI) (F : Fq) (n : Nat), v + f = 1000 → 1 ≤ v → m ≤ (dvs (hd p).natAbs).length → (dvs (hd p).natAbs).drop m = dvF (hd p).natAbs f v → DvR I 141 (dvs (p (lw p)).natAbs) → DvR I 142 (dvs (hd p).natAbs) → FA I F n → FrSt p (Dn u v) F n → (∀ I' F n x, FrF I I' → FA I' F n → FrSt p (Dn u 1000) F n → Ex 76 122 [some (.ref 138), some (.ref a), some (.int (nI (lw p))), some (.int (nI (dvs (p (lw p)).natAbs).length)), some (.int (nI (dvs (hd p).natAbs).length)), some (.int (nI i)), x] [] (amSH L) I' J R Q) → Ex 76 83 [some (.ref 138), some (.ref a), some (.int (nI (lw p))), some (.int (nI (dvs (p (lw p)).natAbs).length)), some (.int (nI (dvs (hd p).natAbs).length)), some (.int (nI i)), some (.int (nI m))] [] (amSH L) I J R Q := by
  have o32 : (dvs (p (lw p)).natAbs).length ≤ 32 := dvs_32 (by have := lw_ne hs h5; omega) (nab999 hB (by have := (lwN_le (p := p) (f := 4) (k := 0)).2; unfold lw; omega))
  have u32 : (dvs (hd p).natAbs).length ≤ 32 := dvs_32 (by have := hd_ne hs; omega) (hd999 hB)
  have i32 : i < 32 := by omega
  intro f
  induction f with
  | zero =>
    intro v m I F n hvf hv1 hm hdd h1 h2 hA hS hQ
    have ev : v = 1000 := by omega
    subst ev
    have em := drop_no hm hdd
    subst em
    refine LI6 e76_83 ?_
    refine LI4 e76_85 ?_
    refine CN_ge (a := (dvs (hd p).natAbs).length) (b := (dvs (hd p).natAbs).length) e76_87 t76_87 rfl rfl (by omega) (by omega) (fun _ => ?_) (fun q => by omega)
    exact hQ _ _ _ _ FrF.rf hA hS
  | succ f ih =>
    intro v m I F n hvf hv1 hm hdd h1 h2 hA hS hQ
    rw [dvF] at hdd
    by_cases hr : (hd p).tmod (v : Int) = 0
    · rw [if_pos (tmod_nat.mp hr)] at hdd
      obtain ⟨hml, hmv, hdr⟩ := drop_at hdd
      have m32 : m < 32 := by omega
      have r1 : I 141 i = nI u := by rw [h1 i hi, hui]
      have r2 : I 142 m = nI v := by rw [h2 m hml, hmv]
      refine LI6 e76_83 ?_
      refine LI4 e76_85 ?_
      refine CN_ge (a := m) (b := (dvs (hd p).natAbs).length) e76_87 t76_87 rfl rfl (by omega) (by omega) (fun q => absurd q (by omega)) (fun _ => ?_)
      refine LI6 e76_90 ?_
      refine Ki e76_92 kbipush_32 ?_
      refine CN_ge (a := m) (b := 32) e76_94 t76_94 rfl (by decide) (by omega) (by omega) (fun q => absurd q (by omega)) (fun _ => ?_)
      refine LA0 e76_97 ?_
      refine LA1 e76_98 ?_
      refine LA0 e76_99 ?_
      refine Gr e76_100 (o138 L) (hR 138 2 141 rfl) f194 ?_
      refine LI5 e76_103 ?_
      refine AiN (k := i) e76_105 (o141 L) rfl (by omega) (by decide) ?_
      rw [r1]
      refine LA0 e76_106 ?_
      refine Gr e76_107 (o138 L) (hR 138 3 142 rfl) f195 ?_
      refine LI6 e76_110 ?_
      refine AiN (k := m) e76_112 (o142 L) rfl (by omega) (by decide) ?_
      rw [r2]
      refine Cv3p e76_113 c76_77 (o138 L) (Nat.le_of_ble_eq_true rfl) (Nat.le_of_ble_eq_true rfl) (q_try hR ha hp hB hs h5 hu1 hu9 hf hv1 (by omega) hr hA hS) ?_
      rintro _ I1 J1 R1 ⟨rfl, hJ1, hR1, hF1, F1, n1, hA1, hS1⟩
      subst hJ1
      subst hR1
      refine IncN6 (m := m) e76_116 rfl ?_
      refine Go e76_119 t76_119 ?_
      exact ih (v + 1) (m + 1) I1 F1 n1 (by omega) (by omega) (by omega) hdr (h1.cg (hF1 _ (by decide) (by decide) (by decide))) (h2.cg (hF1 _ (by decide) (by decide) (by decide))) hA1 hS1 (fun I' F n x q1 q2 q3 => hQ I' F n x (hF1.tr q1) q2 q3)
    · rw [if_neg (fun z => hr (tmod_nat.mpr z))] at hdd
      exact ih (v + 1) m I F n (by omega) (by omega) hm hdd h1 h2 hA (hS.nov hr hu1) hQ
set_option maxHeartbeats 2000000 in
theorem q_out_lp (hR : amRok R) (ha : amPO (amSH L) R a) (hp : JP J (a + 1) p) (hB : PB 999 p) (hs : 0 < sz p) (h5 : sz p ≤ 5) : ∀ (f u i : Nat) (x : Option Value) (I : amI) (F : Fq) (n : Nat), u + f = 1000 → 1 ≤ u → i ≤ (dvs (p (lw p)).natAbs).length → (dvs (p (lw p)).natAbs).drop i = dvF (p (lw p)).natAbs f u → DvR I 141 (dvs (p (lw p)).natAbs) → DvR I 142 (dvs (hd p).natAbs) → FA I F n → FrSt p (Dn u 1) F n → (∀ I' F n, FrF I I' → FA I' F n → FrSt p (fun _ => True) F n → Q none I' J R) → Ex 76 67 [some (.ref 138), some (.ref a), some (.int (nI (lw p))), some (.int (nI (dvs (p (lw p)).natAbs).length)), some (.int (nI (dvs (hd p).natAbs).length)), some (.int (nI i)), x] [] (amSH L) I J R Q := by
  have o32 : (dvs (p (lw p)).natAbs).length ≤ 32 := dvs_32 (by have := lw_ne hs h5; omega) (nab999 hB (by have := (lwN_le (p := p) (f := 4) (k := 0)).2; unfold lw; omega))
  intro f
  induction f with
  | zero =>
    intro u i x I F n hu hu1 hi hdd h1 h2 hA hS hQ
    have eu : u = 1000 := by omega
    subst eu
    have ei := drop_no hi hdd
    subst ei
    refine LI5 e76_67 ?_
    refine LI3 e76_69 ?_
    refine CN_ge (a := (dvs (p (lw p)).natAbs).length) (b := (dvs (p (lw p)).natAbs).length) e76_70 t76_70 rfl rfl (by omega) (by omega) (fun _ => ?_) (fun q => by omega)
    exact Rvd e76_128 rt76 (hQ _ _ _ FrF.rf hA hS.all)
  | succ f ih =>
    intro u i x I F n hu hu1 hi hdd h1 h2 hA hS hQ
    rw [dvF] at hdd
    by_cases hf : (p (lw p)).tmod (u : Int) = 0
    · rw [if_pos (tmod_nat.mp hf)] at hdd
      obtain ⟨hil, hiv, hdr⟩ := drop_at hdd
      have i32 : i < 32 := by omega
      refine LI5 e76_67 ?_
      refine LI3 e76_69 ?_
      refine CN_ge (a := i) (b := (dvs (p (lw p)).natAbs).length) e76_70 t76_70 rfl rfl (by omega) (by omega) (fun q => absurd q (by omega)) (fun _ => ?_)
      refine LI5 e76_73 ?_
      refine Ki e76_75 kbipush_32 ?_
      refine CN_ge (a := i) (b := 32) e76_77 t76_77 rfl (by decide) (by omega) (by omega) (fun q => absurd q (by omega)) (fun _ => ?_)
      refine Ki e76_80 kiconst_0 ?_
      refine SI6 e76_81 rfl ?_
      refine q_in_lp hR ha hp hB hs h5 hil hiv hu1 (by omega) hf 999 1 0 I F n rfl (by omega) (Nat.zero_le _) rfl h1 h2 hA hS (fun I' F n y q1 q2 q3 => ?_)
      refine IncN5 (m := i) e76_122 rfl ?_
      refine Go e76_125 t76_125 ?_
      exact ih (u + 1) (i + 1) y I' F n (by omega) (by omega) (by omega) hdr (h1.cg (q1 _ (by decide) (by decide) (by decide))) (h2.cg (q1 _ (by decide) (by decide) (by decide))) q2 q3.next (fun I'' F n z1 z2 z3 => hQ I'' F n (q1.tr z1) z2 z3)
    · rw [if_neg (fun z => hf (tmod_nat.mpr z))] at hdd
      exact ih (u + 1) i x I F n (by omega) (by omega) hi hdd h1 h2 hA (hS.skip hu1 hf) hQ
set_option maxHeartbeats 2000000 in
theorem q_find38 (hR : amRok R) (ha : amPO (amSH L) R a) (hp : JP J (a + 1) p) (hB : PB 999 p) (hs : 0 < sz p) (h5 : sz p ≤ 5) {I0 : amI} (hA : FA I F n) (hS : FrSt p (Dn 1 1) F n) (hG : FrG I0 I) : Ex 76 38 [some (.ref 138), some (.ref a), some (.int (nI (lw p))), none, none, none, none] [] (amSH L) I J R (fun v I' J' R' => v = none ∧ J' = J ∧ R' = R ∧ FrG I0 I' ∧ ∃ F n, FA I' F n ∧ FrSt p (fun _ => True) F n) := by
  have hPB := hB.mono (C := 4000000000000000000) (by decide)
  have hl := lwN_le (p := p) (f := 4) (k := 0)
  have hl4 : lw p ≤ 4 := hl.2
  have n1 := lw_ne hs h5
  have n2 := hd_ne hs
  have b1 := nab999 hB (k := lw p) (by omega)
  have b2 := hd999 hB
  refine LA1 e76_38 ?_
  refine LI2 e76_39 ?_
  refine Cv1 e76_40 c76_3 ha.1 (Nat.le_of_ble_eq_true rfl) (Nat.le_of_ble_eq_true rfl) ((p_at ha _)) ?_
  rw [atv_n (by omega), hp (lw p) (by omega)]
  refine LA0 e76_43 ?_
  refine Gr e76_44 (o138 L) (hR 138 2 141 rfl) f194 ?_
  refine Cs2p e76_47 c76_250 (Nat.le_of_ble_eq_true rfl) (Nat.le_of_ble_eq_true rfl) (q_dvs (H := p (lw p)) (o141 L) (by omega) b1) ?_
  rintro _ I1 J1 R1 ⟨rfl, hJ1, hR1, g1, d1⟩
  subst hJ1
  subst hR1
  refine SI3 e76_50 rfl ?_
  refine LA1 e76_51 ?_
  refine Cv0 e76_52 c76_6 ha.1 (Nat.le_of_ble_eq_true rfl) (Nat.le_of_ble_eq_true rfl) ((p_head ha hp hPB)) ?_
  refine LA0 e76_55 ?_
  refine Gr e76_56 (o138 L) (hR 138 3 142 rfl) f195 ?_
  refine Cs2p e76_59 c76_250 (Nat.le_of_ble_eq_true rfl) (Nat.le_of_ble_eq_true rfl) (q_dvs (H := hd p) (o142 L) (by omega) b2) ?_
  rintro _ I2 J2 R2 ⟨rfl, hJ2, hR2, g2, d2⟩
  subst hJ2
  subst hR2
  refine SI4 e76_62 rfl ?_
  refine Ki e76_64 kiconst_0 ?_
  refine SI5 e76_65 rfl ?_
  exact q_out_lp hR ha hp hB hs h5 999 1 0 _ _ F n rfl (by omega) (Nat.zero_le _) rfl (d1.cg (g2 _ (by decide))) d2 ((hA.cg (g1 _ (by decide)) (g1 _ (by decide)) (g1 _ (by decide))).cg (g2 _ (by decide)) (g2 _ (by decide)) (g2 _ (by decide))) hS (fun I' F n q1 q2 q3 => ⟨rfl, rfl, rfl, ((hG.tr (FrG.row (Or.inl rfl) g1)).tr (FrG.row (Or.inr rfl) g2)).tr q1.g, F, n, q2, q3⟩)
set_option maxHeartbeats 2000000 in
theorem q_find (hR : amRok R) (ha : amPO (amSH L) R a) (hp : JP J (a + 1) p) (hB : PB 999 p) (hs : 0 < sz p) (h5 : sz p ≤ 5) : Cl 76 [.ref 138, .ref a] (amSH L) I J R (fun v I' J' R' => v = none ∧ J' = J ∧ R' = R ∧ FrG I I' ∧ ∃ F n, FA I' F n ∧ FrSt p (fun _ => True) F n) := by
  have hl := lwN_le (p := p) (f := 4) (k := 0)
  have hl4 : lw p ≤ 4 := hl.2
  show Ex 76 0 [some (.ref 138), some (.ref a), none, none, none, none, none] [] (amSH L) I J R _
  refine LA0 e76_0 ?_
  refine Ki e76_1 kiconst_0 ?_
  refine Pi e76_2 (o138 L) f196 ?_
  refine Ki e76_5 kiconst_0 ?_
  refine SI2 e76_6 rfl ?_
  refine q_low hR ha hp hB hs h5 4 0 rfl ?_
  show Ex 76 28 [some (.ref 138), some (.ref a), some (.int (nI (lw p))), none, none, none, none] [] (amSH L) (amU I 138 4 0) J R _
  refine LI2 e76_28 ?_
  refine B_le e76_29 t76_29 (fun h29 => ?_) (fun h29 => ?_)
  · exact q_find38 hR ha hp hB hs h5 (F := fun _ => (0, 1)) (n := 0) ⟨amU_same, fun k hk => absurd hk (Nat.not_lt_zero _)⟩ (FrSt.st0 (by rw [i32le, nI_toInt (by omega), show (0 : Int32).toInt = 0 from rfl] at h29; omega)) (FrF.up FrF.rf (by decide)).g
  · refine LA0 e76_32 ?_
    refine Ki e76_33 kiconst_0 ?_
    refine Ki e76_34 kiconst_1 ?_
    show Ex 76 35 [some (.ref 138), some (.ref a), some (.int (nI (lw p))), none, none, none, none] [.int (iI 1), .int (iI 0), .ref 138] (amSH L) (amU I 138 4 0) J R _
    refine Cv2p e76_35 c76_78 (o138 L) (Nat.le_of_ble_eq_true rfl) (Nat.le_of_ble_eq_true rfl) (q_ins (a := (0, 1)) (n := 0) (F := fun _ => (0, 1)) hR ⟨⟨by decide, by decide⟩, by decide, by decide⟩ (fun k hk => absurd hk (Nat.not_lt_zero _)) (by decide) ⟨amU_same, fun k hk => absurd hk (Nat.not_lt_zero _)⟩) ?_
    rintro _ I1 J1 R1 ⟨rfl, hJ1, hR1, hF1, m, hm, hA1⟩
    subst hJ1
    subst hR1
    exact q_find38 hR ha hp hB hs h5 hA1 (FrSt.st1 (by rw [i32le, nI_toInt (by omega), show (0 : Int32).toInt = 0 from rfl] at h29; omega) hm) ((FrF.up FrF.rf (by decide)).tr hF1).g
theorem q_size (hA : FA I F n) : Rv 73 [.ref 138] (amSH L) I J R (.int (nI n)) := by
  intro Q hQ
  show Ex 73 0 [some (.ref 138)] [] (amSH L) I J R _
  refine LA0 e73_0 ?_
  refine Gi e73_1 (o138 L) (amGi_of f196 (by decide)) ?_
  rw [hA.1]
  exact Ri e73_4 rt73 (hQ)
theorem q_over (hR : amRok R) (hA : FA I F n) (hn : n ≤ 4) (hk : k < n) : Rv 74 [.ref 138, .int (nI k)] (amSH L) I J R (.int (iI (F k).1)) := by
  intro Q hQ
  show Ex 74 0 [some (.ref 138), some (.int (nI k))] [] (amSH L) I J R _
  refine LI1 e74_0 ?_
  refine B_lt e74_1 t74_1 (fun q => absurd q (nI_pos (by omega))) (fun _ => ?_)
  refine LI1 e74_4 ?_
  refine Ki e74_5 kiconst_4 ?_
  refine CN_ge (a := k) (b := 4) e74_6 t74_6 rfl (by decide) (by omega) (by omega) (fun q => absurd q (by omega)) (fun _ => ?_)
  refine LA0 e74_9 ?_
  refine Gr e74_10 (o138 L) (hR 138 0 139 rfl) f192 ?_
  refine LI1 e74_13 ?_
  refine AiN (k := k) e74_14 (o139 L) rfl (by omega) (by decide) ?_
  rw [(hA.2 k hk).1]
  refine Go e74_15 t74_15 ?_
  exact Ri e74_19 rt74 (hQ)
theorem q_undr (hR : amRok R) (hA : FA I F n) (hn : n ≤ 4) (hk : k < n) : Rv 75 [.ref 138, .int (nI k)] (amSH L) I J R (.int (iI (F k).2)) := by
  intro Q hQ
  show Ex 75 0 [some (.ref 138), some (.int (nI k))] [] (amSH L) I J R _
  refine LI1 e75_0 ?_
  refine B_lt e75_1 t75_1 (fun q => absurd q (nI_pos (by omega))) (fun _ => ?_)
  refine LI1 e75_4 ?_
  refine Ki e75_5 kiconst_4 ?_
  refine CN_ge (a := k) (b := 4) e75_6 t75_6 rfl (by decide) (by omega) (by omega) (fun q => absurd q (by omega)) (fun _ => ?_)
  refine LA0 e75_9 ?_
  refine Gr e75_10 (o138 L) (hR 138 1 140 rfl) f193 ?_
  refine LI1 e75_13 ?_
  refine AiN (k := k) e75_14 (o140 L) rfl (by omega) (by decide) ?_
  rw [(hA.2 k hk).2]
  refine Go e75_15 t75_15 ?_
  exact Ri e75_19 rt75 (hQ)
end FIND2
