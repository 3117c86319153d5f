/-! calls: lots (printed by wip/whole/t62.py) -/
def nxZ (z : Int32) : Int32 := z * 1103515245 + 12345
def dvZ (m : Nat) (z : Int32) : Int32 := ((z &&& 2147483647) / 65536 - (z &&& 2147483647) / 65536 / nI (2 * m + 1) * nI (2 * m + 1)) - nI m
/-- numbers by lot -/
def lozP (m : Nat) : Nat → Nat → Int32 → Po → Int32 × Po
  | 0, _, z, p => (z, p)
  | f + 1, k, z, p => lozP m f (k + 1) (nxZ z) (pU p k (dvZ m (nxZ z)).toInt)
def lozH (d : Nat) (p : Po) : Po := if p d = 0 then pU p d 1 else p
/-- f steps, as long as there is one -/
def itN {α : Type} (s : α → Option α) : Nat → α → Option α
  | 0, a => some a
  | f + 1, a => match s a with
    | none => none
    | some b => itN s f b
theorem itN_no {α : Type} {s : α → Option α} {f : Nat} {a : α} (h : s a = none) : itN s (f + 1) a = none := by rw [itN, h]
theorem itN_yes {α : Type} {s : α → Option α} {f : Nat} {a b : α} (h : s a = some b) : itN s (f + 1) a = itN s f b := by rw [itN, h]
/-- one polynomial by lot more: the seed, how many roots so far -/
noncomputable def lozS (m d : Nat) (r : Int32 × Int32) : Option (Int32 × Int32) := match chn (lozH d (lozP m (d + 1) 0 r.1 (fun _ => 0)).2) with
  | none => none
  | some l => some ((lozP m (d + 1) 0 r.1 (fun _ => 0)).1, r.2 + (nI (tB l) - nI (tU l)))
theorem lozS_no {m d : Nat} {z a : Int32} (h : chn (lozH d (lozP m (d + 1) 0 z (fun _ => 0)).2) = none) : lozS m d (z, a) = none := by
  unfold lozS
  dsimp only
  rw [h]
theorem lozS_yes {m d : Nat} {z a : Int32} {l : List Po} (h : chn (lozH d (lozP m (d + 1) 0 z (fun _ => 0)).2) = some l) : lozS m d (z, a) = some ((lozP m (d + 1) 0 z (fun _ => 0)).1, a + (nI (tB l) - nI (tU l))) := by
  unfold lozS
  dsimp only
  rw [h]
def lozA : Option (Int32 × Int32) → Int32
  | none => -3
  | some r => r.2
noncomputable def sLots (n d m z : Int32) : Int32 := if (1 ≤ n.toInt ∧ n.toInt ≤ 12) ∧ (1 ≤ d.toInt ∧ d.toInt ≤ 3) ∧ 1 ≤ m.toInt ∧ m.toInt ≤ 9 then lozA (itN (lozS m.toInt.toNat d.toInt.toNat) n.toInt.toNat (z, 0)) else -1
theorem rem32 {x b : Int32} (hb : 1 ≤ b.toInt) : (x - x / b * b).toInt = x.toInt.tmod b.toInt := by
  have h1 := Int32.le_toInt x
  have h2 := Int32.toInt_lt x
  have hb1 : b ≠ -1 := fun e => by
    rw [e] at hb
    exact absurd hb (by decide)
  have hd := Int32.toInt_div_of_ne_right x b hb1
  have hn : (x.toInt.tmod b.toInt).natAbs = x.toInt.natAbs % b.toInt.natAbs := Int.natAbs_tmod _ _
  have hn2 : x.toInt.natAbs % b.toInt.natAbs ≤ x.toInt.natAbs := Nat.mod_le _ _
  have hn3 : x.toInt.natAbs % b.toInt.natAbs < b.toInt.natAbs := Nat.mod_lt _ (by omega)
  have e : x - x / b * b = Int32.ofInt (x.toInt.tmod b.toInt) := by
    have e1 : x / b = Int32.ofInt (x.toInt.tdiv b.toInt) := by rw [← hd, Int32.ofInt_toInt]
    rw [e1]
    have e2 : x = Int32.ofInt x.toInt := (Int32.ofInt_toInt x).symm
    have e3 : b = Int32.ofInt b.toInt := (Int32.ofInt_toInt b).symm
    have e4 : Int32.ofInt x.toInt - Int32.ofInt (x.toInt.tdiv b.toInt) * Int32.ofInt b.toInt = Int32.ofInt (x.toInt - x.toInt.tdiv b.toInt * b.toInt) := by rw [Int32.ofInt_sub, Int32.ofInt_mul]
    rw [← e2, ← e3] at e4
    rw [e4]
    congr 1
    rw [Int.tmod_def, Int.mul_comm]
  have h5 := Int32.toInt_lt b
  rw [e]
  exact Int32.toInt_ofInt_of_le (by omega) (by omega)
theorem dvZ_b {m : Nat} {z : Int32} (h : m ≤ 9) : -999 ≤ (dvZ m z).toInt ∧ (dvZ m z).toInt ≤ 999 := by
  have hb : (nI (2 * m + 1)).toInt = 2 * (m : Int) + 1 := by rw [nI_toInt (by omega)]; omega
  have h1 := rem32 (x := (z &&& 2147483647) / 65536) (b := nI (2 * m + 1)) (by omega)
  have hn3 : (((z &&& 2147483647) / 65536).toInt.tmod (nI (2 * m + 1)).toInt).natAbs < (nI (2 * m + 1)).toInt.natAbs := by
    have e : (((z &&& 2147483647) / 65536).toInt.tmod (nI (2 * m + 1)).toInt).natAbs = ((z &&& 2147483647) / 65536).toInt.natAbs % (nI (2 * m + 1)).toInt.natAbs := Int.natAbs_tmod _ _
    rw [e]
    exact Nat.mod_lt _ (by omega)
  unfold dvZ
  generalize (z &&& 2147483647) / 65536 - (z &&& 2147483647) / 65536 / nI (2 * m + 1) * nI (2 * m + 1) = r at *
  have e2 : r - nI m = iI (r.toInt - (m : Int)) := by
    rw [nI_iI]
    unfold iI
    rw [Int32.ofInt_sub, Int32.ofInt_toInt]
  rw [e2, iI_t (by omega)]
  omega
theorem lozP_hi {m : Nat} : ∀ {f k : Nat} {z : Int32} {p : Po} {i : Nat}, k + f ≤ i → (lozP m f k z p).2 i = p i
  | 0, _, _, _, _, _ => rfl
  | f + 1, k, z, p, i, h => by
    rw [lozP, lozP_hi (by omega)]
    unfold pU
    rw [if_neg (by omega)]
theorem lozP_PB {m : Nat} (hm : m ≤ 9) : ∀ {f k : Nat} {z : Int32} {p : Po}, PB 999 p → PB 999 (lozP m f k z p).2
  | 0, _, _, _, h => h
  | f + 1, k, z, p, h => by
    rw [lozP]
    exact lozP_PB hm (pU_PB h (dvZ_b hm))
theorem lozH_PB {d : Nat} {p : Po} (h : PB 999 p) : PB 999 (lozH d p) := by
  unfold lozH
  split
  · exact pU_PB h ⟨by decide, by decide⟩
  · exact h
theorem lozH_sz {m d : Nat} {z : Int32} (hd : d ≤ 3) : sz (lozH d (lozP m (d + 1) 0 z (fun _ => 0)).2) = d + 1 := by
  refine sz_of (by omega) (fun k g1 g2 => ?_) (Or.inr ?_)
  · have e := lozP_hi (m := m) (f := d + 1) (k := 0) (z := z) (p := fun _ => 0) (i := k) (by omega)
    unfold lozH
    split
    · unfold pU
      rw [if_neg (by omega)]
      exact e
    · exact e
  · rw [Nat.add_sub_cancel]
    unfold lozH
    split
    · unfold pU
      rw [if_pos rfl]
      decide
    · rename_i g
      exact g
section LOTS
variable {L : Nat} {I : amI} {J : amJ} {R : amR} {Q : amQ} {σ : PS} {l : List Po}
set_option maxHeartbeats 2000000 in
theorem loz_in {n d m t : Nat} {z0 acc : Int32} (hR : amRok R) (hd : d ≤ 3) (hm9 : m ≤ 9) : ∀ (f k : Nat) (z : Int32) (p : Po) (J : amJ), k + f = d + 1 → JP J (38 + 1) p → (∀ J', Fr J J' (38 + 1) → JP J' (38 + 1) (lozP m f k z p).2 → Ex 134 112 [some (.ref 1), some (.int (nI n)), some (.int (nI d)), some (.int (nI m)), some (.int z0), some (.int ((lozP m f k z p).1)), some (.int acc), some (.int (nI t)), some (.int (nI (d + 1)))] [] (amSH L) I J' R Q) → Ex 134 60 [some (.ref 1), some (.int (nI n)), some (.int (nI d)), some (.int (nI m)), some (.int z0), some (.int z), some (.int acc), some (.int (nI t)), some (.int (nI k))] [] (amSH L) I J R Q := by
  intro f
  induction f with
  | zero =>
    intro k z p J hk hP hQ
    have ek : k = d + 1 := by omega
    subst ek
    refine LI8 e134_60 ?_
    refine LI2 e134_62 ?_
    refine CN_gt (a := (d + 1)) (b := d) e134_63 t134_63 rfl rfl (by omega) (by omega) (fun _ => ?_) (fun q => by omega)
    exact hQ J Fr.rf hP
  | succ f ih =>
    intro k z p J hk hP hQ
    rw [lozP] at hQ
    refine LI8 e134_60 ?_
    refine LI2 e134_62 ?_
    refine CN_gt (a := k) (b := d) e134_63 t134_63 rfl rfl (by omega) (by omega) (fun q => absurd q (by omega)) (fun _ => ?_)
    refine LI5 e134_66 ?_
    refine Kw e134_68 ki0 ?_
    refine Imul e134_71 ?_
    refine Ki e134_72 ksipush_12345 ?_
    refine Iadd e134_75 ?_
    refine SI5 e134_76 rfl ?_
    rw [show z * 1103515245 + 12345 = nxZ z from rfl]
    refine LA0 e134_78 ?_
    refine Gr e134_79 (o1 L) (hR 1 3 38 rfl) f707 ?_
    refine LI8 e134_82 ?_
    refine LI5 e134_84 ?_
    refine Kw e134_86 ki1 ?_
    refine Iand e134_89 ?_
    refine Kw e134_90 ki2 ?_
    refine Idiv e134_93 (by decide) ?_
    refine Ki e134_94 kiconst_2 ?_
    refine LI3 e134_95 ?_
    refine ImulN (a := 2) (b := m) e134_96 (by decide) rfl ?_
    refine Ki e134_97 kiconst_1 ?_
    refine IaddN (a := (2 * m)) (b := 1) e134_98 rfl (by decide) ?_
    refine Irem e134_99 (fun z => by have := congrArg Int32.toInt z; rw [nI_toInt (by omega), show (0 : Int32).toInt = 0 from rfl] at this; omega) ?_
    refine LI3 e134_100 ?_
    refine Isub e134_101 ?_
    rw [show (((((nxZ z) &&& 2147483647) / 65536) - (((nxZ z) &&& 2147483647) / 65536) / (nI ((2 * m) + 1)) * (nI ((2 * m) + 1))) - (nI m) : Int32) = dvZ m (nxZ z) from rfl]
    refine I2l e134_102 ?_
    rw [i2l_oI (dvZ m (nxZ z))]
    refine Cv2p e134_103 c134_4 (o38 L) (Nat.le_of_ble_eq_true rfl) (Nat.le_of_ble_eq_true rfl) (p_put (k := k) (v := (dvZ m (nxZ z)).toInt) (po38 hR) hP (by omega)) ?_
    rintro _ I1 J1 R1 ⟨rfl, hI1, hR1, hF1, hP1⟩
    subst hI1
    subst hR1
    refine IncN8 (m := k) e134_106 rfl ?_
    refine Go e134_109 t134_109 ?_
    exact ih (k + 1) (nxZ z) _ J1 (by omega) hP1 (fun J' g1 g2 => hQ J' (hF1.tr g1) g2)
set_option maxHeartbeats 2000000 in
theorem loz_b {n d m t x y : Nat} {z0 z1 acc : Int32} {p1 : Po} (hd : d ≤ 3) (hPB0 : PB 999 p1) (hsz : sz (lozH d p1) = d + 1) (hR : amRok R) (hC : CO R x y) (hP1 : JP J (38 + 1) p1) (hno : chn (lozH d p1) = none → ∀ I' J' R', FrK I I' J J' → amRok R' → RC R R' → (∃ x y, CO R' x y) → Q (some (.int (-3))) I' J' R') (hyes : ∀ l, chn (lozH d p1) = some l → ∀ I' J' R' x y, FrK I I' J J' → amRok R' → RC R R' → CO R' x y → Ex 134 44 [some (.ref 1), some (.int (nI n)), some (.int (nI d)), some (.int (nI m)), some (.int z0), some (.int z1), some (.int (acc + (nI (tB l) - nI (tU l)))), some (.int (nI (t + 1))), some (.int (nI (d + 1)))] [] (amSH L) I' J' R' Q) : Ex 134 112 [some (.ref 1), some (.int (nI n)), some (.int (nI d)), some (.int (nI m)), some (.int z0), some (.int z1), some (.int acc), some (.int (nI t)), some (.int (nI (d + 1)))] [] (amSH L) I J R Q := by
  refine LA0 e134_112 ?_
  refine Gr e134_113 (o1 L) (hR 1 3 38 rfl) f707 ?_
  refine LI2 e134_116 ?_
  refine Cv1 e134_117 c134_3 (o38 L) (Nat.le_of_ble_eq_true rfl) (Nat.le_of_ble_eq_true rfl) ((p_at (po38 hR) (nI d))) ?_
  rw [atv_n (by omega), hP1 d (by omega)]
  refine K0 e134_120 ?_
  refine D_ne e134_121 e134_122 t134_122 (fun h121 => ?_) (fun h121 => ?_)
  · have hP2 : JP J (38 + 1) (lozH d p1) := by
      unfold lozH
      rw [if_neg (fun z => h121 (by rw [z]; rfl))]
      exact hP1
    have hF2 : Fr J J (38 + 1) := Fr.rf
    have hPB1 := lozH_PB (d := d) hPB0
    have hg0 : 0 < sz (lozH d p1) := by omega
    have hg5 : sz (lozH d p1) ≤ 5 := by omega
    refine LA0 e134_134 ?_
    refine Gr e134_135 (o1 L) (hR 1 7 64 rfl) f711 ?_
    refine LA0 e134_138 ?_
    refine Gr e134_139 (o1 L) (hR 1 3 38 rfl) f707 ?_
    refine Cv1p e134_142 c134_29 (o64 L) (Nat.le_of_ble_eq_true rfl) (Nat.le_of_ble_eq_true rfl) (h_build ch64 hR hC (po38 hR) (by decide) hP2 (hPB1.mono (by decide)) (fr_ok hg5)) ?_
    rintro v3 I3 J3 R3 hBu
    obtain ⟨hfi, hfb, hR, hrc, ⟨x, y, hC⟩, hD⟩ := id hBu
    have hK2 := FrK.tr ⟨fun _ _ => rfl, fun y hy => hF2 y (by omega)⟩ (BuP.k ch64 hBu)
    rcases hD with ⟨l, hl, rfl, hI⟩ | ⟨hl, rfl⟩
    · have hZl := chn_LZ hl hg0 hg5
      refine B_ne e134_145 t134_145 (fun _ => ?_) (fun q => absurd (by decide) q)
      refine LI6 e134_151 ?_
      refine LA0 e134_153 ?_
      refine Gr e134_154 (o1 L) (hR 1 7 64 rfl) f711 ?_
      refine Cv0 e134_157 c134_39 (o64 L) (Nat.le_of_ble_eq_true rfl) (Nat.le_of_ble_eq_true rfl) ((h_total ch64 hI)) ?_
      refine Iadd e134_160 ?_
      refine SI6 e134_161 rfl ?_
      refine IncN7 (m := t) e134_163 rfl ?_
      refine Go e134_166 t134_166 ?_
      exact hyes l hl _ _ _ _ _ hK2 hR hrc hC
    · skip
      refine B_ne e134_145 t134_145 (fun q => absurd q (fun z => z rfl)) (fun _ => ?_)
      refine Ki e134_148 kbipush_m3 ?_
      exact Ri e134_150 rt134 (hno hl _ _ _ hK2 hR hrc ⟨_, _, hC⟩)
  · refine LA0 e134_125 ?_
    refine Gr e134_126 (o1 L) (hR 1 3 38 rfl) f707 ?_
    refine LI2 e134_129 ?_
    refine K1 e134_130 ?_
    refine Cv2p e134_131 c134_4 (o38 L) (Nat.le_of_ble_eq_true rfl) (Nat.le_of_ble_eq_true rfl) (p_put (k := d) (v := 1) (po38 hR) hP1 (by omega)) ?_
    rintro _ I2 J2 R2 ⟨rfl, hI2, hR2, hFx, hPx⟩
    subst hI2
    subst hR2
    have h121x : p1 d = 0 := by
      rw [oI_0, oI_eq (hPB0.iB (by decide) (by omega)) ⟨by decide, by decide⟩] at h121
      exact Decidable.not_not.mp h121
    have hP2 : JP J2 (38 + 1) (lozH d p1) := by
      unfold lozH
      rw [if_pos h121x]
      exact hPx
    have hF2 : Fr J J2 (38 + 1) := hFx
    have hPB1 := lozH_PB (d := d) hPB0
    have hg0 : 0 < sz (lozH d p1) := by omega
    have hg5 : sz (lozH d p1) ≤ 5 := by omega
    refine LA0 e134_134 ?_
    refine Gr e134_135 (o1 L) (hR 1 7 64 rfl) f711 ?_
    refine LA0 e134_138 ?_
    refine Gr e134_139 (o1 L) (hR 1 3 38 rfl) f707 ?_
    refine Cv1p e134_142 c134_29 (o64 L) (Nat.le_of_ble_eq_true rfl) (Nat.le_of_ble_eq_true rfl) (h_build ch64 hR hC (po38 hR) (by decide) hP2 (hPB1.mono (by decide)) (fr_ok hg5)) ?_
    rintro v3 I3 J3 R3 hBu
    obtain ⟨hfi, hfb, hR, hrc, ⟨x, y, hC⟩, hD⟩ := id hBu
    have hK2 := FrK.tr ⟨fun _ _ => rfl, fun y hy => hF2 y (by omega)⟩ (BuP.k ch64 hBu)
    rcases hD with ⟨l, hl, rfl, hI⟩ | ⟨hl, rfl⟩
    · have hZl := chn_LZ hl hg0 hg5
      refine B_ne e134_145 t134_145 (fun _ => ?_) (fun q => absurd (by decide) q)
      refine LI6 e134_151 ?_
      refine LA0 e134_153 ?_
      refine Gr e134_154 (o1 L) (hR 1 7 64 rfl) f711 ?_
      refine Cv0 e134_157 c134_39 (o64 L) (Nat.le_of_ble_eq_true rfl) (Nat.le_of_ble_eq_true rfl) ((h_total ch64 hI)) ?_
      refine Iadd e134_160 ?_
      refine SI6 e134_161 rfl ?_
      refine IncN7 (m := t) e134_163 rfl ?_
      refine Go e134_166 t134_166 ?_
      exact hyes l hl _ _ _ _ _ hK2 hR hrc hC
    · skip
      refine B_ne e134_145 t134_145 (fun q => absurd q (fun z => z rfl)) (fun _ => ?_)
      refine Ki e134_148 kbipush_m3 ?_
      exact Ri e134_150 rt134 (hno hl _ _ _ hK2 hR hrc ⟨_, _, hC⟩)
set_option maxHeartbeats 2000000 in
theorem loz_lp {n d m : Nat} {z0 : Int32} (hn : n ≤ 12) (hd : d ≤ 3) (hm9 : m ≤ 9) : ∀ (f t : Nat) (z acc : Int32) (l8 : Option Value) (x y : Nat) (I : amI) (J : amJ) (R : amR), t + f = n → amRok R → CO R x y → Ex 134 44 [some (.ref 1), some (.int (nI n)), some (.int (nI d)), some (.int (nI m)), some (.int z0), some (.int z), some (.int acc), some (.int (nI t)), l8] [] (amSH L) I J R (KPr I J R (.int (lozA (itN (lozS m d) f (z, acc))))) := by
  intro f
  induction f with
  | zero =>
    intro t z acc l8 x y I J R ht hR hC
    refine LI7 e134_44 ?_
    refine LI1 e134_46 ?_
    refine CN_ge (a := t) (b := n) e134_47 t134_47 rfl rfl (by omega) (by omega) (fun _ => ?_) (fun q => by omega)
    refine LI6 e134_169 ?_
    exact Ri e134_171 rt134 (⟨rfl, FrK.rf, hR, RC.rf, _, _, hC⟩)
  | succ f ih =>
    intro t z acc l8 x y I J R ht hR hC
    have hsz := lozH_sz (m := m) (z := z) hd
    have hPB0 : PB 999 (lozP m (d + 1) 0 z (fun _ => 0)).2 := lozP_PB hm9 (fun _ _ => ⟨by decide, by decide⟩)
    refine LI7 e134_44 ?_
    refine LI1 e134_46 ?_
    refine CN_ge (a := t) (b := n) e134_47 t134_47 rfl rfl (by omega) (by omega) (fun q => absurd q (by omega)) (fun _ => ?_)
    refine LA0 e134_50 ?_
    refine Gr e134_51 (o1 L) (hR 1 3 38 rfl) f707 ?_
    refine Cv0p e134_54 c134_7 (o38 L) (Nat.le_of_ble_eq_true rfl) (Nat.le_of_ble_eq_true rfl) (p_clear (po38 hR)) ?_
    rintro _ I0 J0 R0 ⟨rfl, hI0, hR0, hF0, hP0⟩
    subst hI0
    subst hR0
    refine Ki e134_57 kiconst_0 ?_
    refine SI8 e134_58 rfl ?_
    refine loz_in hR hd hm9 (d + 1) 0 z _ _ (by omega) hP0 (fun J1 hF1 hP1 => ?_)
    have hF1 := hF0.tr hF1
    have hk0 : FrK I0 I0 J J1 := ⟨fun _ _ => rfl, fun y hy => hF1 y (by omega)⟩
    refine loz_b hd hPB0 hsz hR hC hP1 (fun hl I' J' R' q1 q2 q3 q4 => ?_) (fun l hl I' J' R' x y q1 q2 q3 q4 => ?_)
    · rw [itN_no (lozS_no hl)]
      exact ⟨rfl, hk0.tr q1, q2, q3, q4⟩
    · rw [itN_yes (lozS_yes hl)]
      exact (ih (t + 1) _ _ _ _ _ _ _ _ (by omega) q2 q4).mono (fun v I' J' R' q => q.tr (hk0.tr q1) q3)
set_option maxHeartbeats 2000000 in
theorem k_lots {n d m z : Int32} (h : CSt I J R σ) : Cl 134 [.ref 1, .int n, .int d, .int m, .int z] (amSH L) I J R (CP I J R σ (.int (sLots n d m z))) := by
  obtain ⟨hR, ⟨x, y, hC⟩, hS, hK, hT, hW, hZ, hO⟩ := id h
  have h8 := hO.1.1
  have h0 := h
  have hfk : FrK I I J J := FrK.rf
  have hrk : RC R R := RC.rf
  unfold sLots
  show Ex 134 0 [some (.ref 1), some (.int n), some (.int d), some (.int m), some (.int z), none, none, none, none] [] (amSH L) I J R _
  by_cases g : (1 ≤ n.toInt ∧ n.toInt ≤ 12) ∧ (1 ≤ d.toInt ∧ d.toInt ≤ 3) ∧ 1 ≤ m.toInt ∧ m.toInt ≤ 9
  · rw [if_pos g]
    obtain ⟨n', hn1, hn2, rfl⟩ : ∃ n' : Nat, 1 ≤ n' ∧ n' ≤ 12 ∧ n = nI n' := ⟨n.toInt.toNat, by omega, by omega, by rw [← Int32.toInt_inj, nI_toInt (by omega)]; omega⟩
    have en : (nI n').toInt.toNat = n' := by rw [nI_toInt (by omega)]; omega
    obtain ⟨d', hd1, hd2, rfl⟩ : ∃ d' : Nat, 1 ≤ d' ∧ d' ≤ 3 ∧ d = nI d' := ⟨d.toInt.toNat, by omega, by omega, by rw [← Int32.toInt_inj, nI_toInt (by omega)]; omega⟩
    have ed : (nI d').toInt.toNat = d' := by rw [nI_toInt (by omega)]; omega
    obtain ⟨m', hm1, hm2, rfl⟩ : ∃ m' : Nat, 1 ≤ m' ∧ m' ≤ 9 ∧ m = nI m' := ⟨m.toInt.toNat, by omega, by omega, by rw [← Int32.toInt_inj, nI_toInt (by omega)]; omega⟩
    have em : (nI m').toInt.toNat = m' := by rw [nI_toInt (by omega)]; omega
    rw [en, ed, em]
    refine LI1 e134_0 ?_
    refine Ki e134_1 kiconst_1 ?_
    refine CN_lt (a := n') (b := 1) e134_2 t134_2 rfl (by decide) (by omega) (by omega) (fun q => absurd q (by omega)) (fun _ => ?_)
    refine LI1 e134_5 ?_
    refine Ki e134_6 kbipush_12 ?_
    refine CN_gt (a := n') (b := 12) e134_8 t134_8 rfl (by decide) (by omega) (by omega) (fun q => absurd q (by omega)) (fun _ => ?_)
    refine LI2 e134_11 ?_
    refine Ki e134_12 kiconst_1 ?_
    refine CN_lt (a := d') (b := 1) e134_13 t134_13 rfl (by decide) (by omega) (by omega) (fun q => absurd q (by omega)) (fun _ => ?_)
    refine LI2 e134_16 ?_
    refine Ki e134_17 kiconst_3 ?_
    refine CN_gt (a := d') (b := 3) e134_18 t134_18 rfl (by decide) (by omega) (by omega) (fun q => absurd q (by omega)) (fun _ => ?_)
    refine LI3 e134_21 ?_
    refine Ki e134_22 kiconst_1 ?_
    refine CN_lt (a := m') (b := 1) e134_23 t134_23 rfl (by decide) (by omega) (by omega) (fun q => absurd q (by omega)) (fun _ => ?_)
    refine LI3 e134_26 ?_
    refine Ki e134_27 kbipush_9 ?_
    refine CN_le (a := m') (b := 9) e134_29 t134_29 rfl (by decide) (by omega) (by omega) (fun _ => ?_) (fun q => by omega)
    refine LI4 e134_34 ?_
    refine SI5 e134_36 rfl ?_
    refine Ki e134_38 kiconst_0 ?_
    refine SI6 e134_39 rfl ?_
    refine Ki e134_41 kiconst_0 ?_
    refine SI7 e134_42 rfl ?_
    exact (loz_lp hn2 hd2 hm2 n' 0 _ _ _ _ _ _ _ _ (Nat.zero_add _) hR hC).mono (fun v I' J' R' ⟨q1, q2, q3, q4, _, _, q5⟩ => q1 ▸ CP.k h0 q2 q3 ⟨_, _, q5⟩ q4)
  · rw [if_neg g]
    refine LI1 e134_0 ?_
    refine Ki e134_1 kiconst_1 ?_
    refine C_lt e134_2 t134_2 (fun hh2 => ?_) (fun hh2 => ?_)
    · refine Ki e134_32 kiconst_m1 ?_
      exact Ri e134_33 rt134 (CP.rf h)
    · refine LI1 e134_5 ?_
      refine Ki e134_6 kbipush_12 ?_
      refine C_gt e134_8 t134_8 (fun hh8 => ?_) (fun hh8 => ?_)
      · refine Ki e134_32 kiconst_m1 ?_
        exact Ri e134_33 rt134 (CP.rf h)
      · refine LI2 e134_11 ?_
        refine Ki e134_12 kiconst_1 ?_
        refine C_lt e134_13 t134_13 (fun hh13 => ?_) (fun hh13 => ?_)
        · refine Ki e134_32 kiconst_m1 ?_
          exact Ri e134_33 rt134 (CP.rf h)
        · refine LI2 e134_16 ?_
          refine Ki e134_17 kiconst_3 ?_
          refine C_gt e134_18 t134_18 (fun hh18 => ?_) (fun hh18 => ?_)
          · refine Ki e134_32 kiconst_m1 ?_
            exact Ri e134_33 rt134 (CP.rf h)
          · refine LI3 e134_21 ?_
            refine Ki e134_22 kiconst_1 ?_
            refine C_lt e134_23 t134_23 (fun hh23 => ?_) (fun hh23 => ?_)
            · refine Ki e134_32 kiconst_m1 ?_
              exact Ri e134_33 rt134 (CP.rf h)
            · refine LI3 e134_26 ?_
              refine Ki e134_27 kbipush_9 ?_
              refine C_le e134_29 t134_29 (fun hh29 => ?_) (fun hh29 => ?_)
              · exact (g (by simp only [i32lt, i32le, show (1 : Int32).toInt = 1 from rfl, show (12 : Int32).toInt = 12 from rfl, show (3 : Int32).toInt = 3 from rfl, show (9 : Int32).toInt = 9 from rfl] at hh2 hh8 hh13 hh18 hh23 hh29; omega)).elim
              · refine Ki e134_32 kiconst_m1 ?_
                exact Ri e134_33 rt134 (CP.rf h)
end LOTS
