/-! MAKING: Maker.form (printed by wip/whole/t38.py) -/
/-- what MAKING comes to; none: it doesn't fit -/
noncomputable def mkF (t : Nat) (p q : Po) (k : Int) : Option Po := match t with
  | 0 => some (fun i => p i + q i * 1)
  | 1 => some (cv p q)
  | 2 => some (fun i => p i + q i * (-1))
  | 3 => com p q
  | 4 => some (der p)
  | 5 => some (strP p (-1) 5)
  | 6 => some (shO k 4 0 p)
  | 7 => some (strP p k 5)
  | 8 => some (revN p (sz p))
  | 9 => fre p
  | 10 => rem p q
  | _ => match spl p with
    | none => none
    | some l => pfm l k.toNat
/-- what a making may change -/
def FrM (J J' : amJ) : Prop := ∀ y, y ≠ 39 → y ≠ 42 → y ≠ 44 → y ≠ 46 → y ≠ 50 → (y < 51 ∨ 63 ≤ y) → J' y = J y
theorem FrM.tr {J J1 J2 : amJ} (h1 : FrM J J1) (h2 : FrM J1 J2) : FrM J J2 := fun y a b c d e f => (h2 y a b c d e f).trans (h1 y a b c d e f)
theorem Fr.mm {J J1 : amJ} (hf : Fr J J1 (38 + 1)) : FrM J J1 := fun y a _ _ _ _ _ => hf y a
theorem FrP.mm {J J1 : amJ} (hf : FrP J J1) : FrM J J1 := fun y _ b c _ _ f => hf y b c f
theorem FrL.mm {l : List Nat} {J J1 : amJ} (hf : FrL l J J1) (hl : ∀ y, y ∈ l → y = 39 ∨ y = 42 ∨ y = 44 ∨ y = 46 ∨ y = 50) : FrM J J1 := fun y a b c d e _ => hf y (fun z => by have := hl y z; omega)
def MkP (J : amJ) (R : amR) (o : Option Po) (v : Option Value) (J' : amJ) (R' : amR) : Prop := FrM J J' ∧ amRok R' ∧ RC R R' ∧ (∃ x y, CO R' x y) ∧ ((∃ g, o = some g ∧ v = some (.int 1) ∧ JP J' (38 + 1) g) ∨ (o = none ∧ v = some (.int 0)))
section MFORM
variable {L : Nat} {I : amI} {J : amJ} {R : amR} {Q : amQ} {a b c x y m : Nat} {p q : Po} {k : Int32}

theorem hb01 : (1 : Int32) = 0 ∨ (1 : Int32) = 1 := by decide
theorem hb00 : (0 : Int32) = 0 ∨ (0 : Int32) = 1 := by decide
theorem form_end182 {l1 l3 l4 : Option Value} {f : Int32} (hf : f = 0 ∨ f = 1) (hQ : Q (some (.int f)) I J R) : Ex 48 182 [some (.ref 63), l1, some (.ref a), l3, l4, some (.ref 38), some (.int 1)] [.int f] (amSH L) I J R Q := by
  refine SI6 e48_182 rfl ?_
  refine Go e48_184 t48_184 ?_
  refine LI6 e48_230 ?_
  exact Rz e48_232 rt48 hf (hQ)
theorem form_end193 {l1 l3 l4 : Option Value} {f : Int32} (hf : f = 0 ∨ f = 1) (hQ : Q (some (.int f)) I J R) : Ex 48 193 [some (.ref 63), l1, some (.ref a), l3, l4, some (.ref 38), some (.int 1)] [.int f] (amSH L) I J R Q := by
  refine SI6 e48_193 rfl ?_
  refine Go e48_195 t48_195 ?_
  refine LI6 e48_230 ?_
  exact Rz e48_232 rt48 hf (hQ)
set_option maxHeartbeats 2000000 in
theorem form_com {f : Int32} (hf : f = 0 ∨ f = 1) (hR : amRok R) (hC : CO R x y) (hp : JP J (x + 1) p) (hQ : ∀ J', Fr J J' (38 + 1) → JP J' (38 + 1) p → Q (some (.int f)) I J' R) : Ex 48 109 [some (.ref 63), some (.int 3), some (.ref a), some (.ref b), some (.int k), some (.ref 38), some (.int 1)] [.int f] (amSH L) I J R Q := by
  have hx := hC.2.2
  refine SI6 e48_109 rfl ?_
  refine LA5 e48_111 ?_
  refine LA0 e48_113 ?_
  refine Gr e48_114 (o63 L) (hR 63 0 40 rfl) f256 ?_
  refine Cv0 e48_117 c48_25 (o40 L) (Nat.le_of_ble_eq_true rfl) (Nat.le_of_ble_eq_true rfl) ((c_result hC)) ?_
  refine Cv1p e48_120 c48_8 (o38 L) (Nat.le_of_ble_eq_true rfl) (Nat.le_of_ble_eq_true rfl) (p_copy (po38 hR) (hC.px hR) (by omega) hp) ?_
  rintro _ I1 J1 R1 ⟨rfl, hI1, hR1, hF1, hP1⟩
  subst hI1
  subst hR1
  refine Go e48_123 t48_123 ?_
  refine LI6 e48_230 ?_
  exact Rz e48_232 rt48 hf (hQ _ hF1 hP1)
set_option maxHeartbeats 2000000 in
theorem m_form0 (hR : amRok R) (hC : CO R x y) (ha : amPO (amSH L) R a) (hb : amPO (amSH L) R b) (ha38 : a + 1 < 38) (hb38 : b + 1 < 38) (hp : JP J (a + 1) p) (hpB : PB 4000000000000000000 p) (hq : JP J (b + 1) q) : Cl 48 [.ref 63, .int 0, .ref a, .ref b, .int k, .ref 38] (amSH L) I J R (fun v I' J' R' => I' = I ∧ MkP J R (mkF 0 p q k.toInt) v J' R') := by
  show Ex 48 0 [some (.ref 63), some (.int 0), some (.ref a), some (.ref b), some (.int k), some (.ref 38), none] [] (amSH L) I J R _
  refine LA5 e48_0 ?_
  refine LA2 e48_2 ?_
  refine Cv1p e48_3 c48_8 (o38 L) (Nat.le_of_ble_eq_true rfl) (Nat.le_of_ble_eq_true rfl) (p_copy (po38 hR) ha (by omega) hp) ?_
  rintro _ I1 J1 R1 ⟨rfl, hI1, hR1, hF1, hP1⟩
  subst hI1
  subst hR1
  refine Ki e48_6 kiconst_1 ?_
  refine SI6 e48_7 rfl ?_
  refine LI1 e48_9 ?_
  refine Tin e48_10 0 rfl (by decide) rfl (show amTg 10 58 = some 68 from by decide) ?_
  refine LA5 e48_68 ?_
  refine LA3 e48_70 ?_
  refine K1 e48_71 ?_
  refine Cv2p e48_72 c48_14 (o38 L) (Nat.le_of_ble_eq_true rfl) (Nat.le_of_ble_eq_true rfl) (p_add (t := 1) (po38 hR) hb (by omega) hP1 (hq.fr hF1 (by omega))) ?_
  rintro _ I2 J2 R2 ⟨rfl, hI2, hR2, hF2, hP2⟩
  subst hI2
  subst hR2
  refine Go e48_75 t48_75 ?_
  refine LI6 e48_230 ?_
  exact Rz e48_232 rt48 (by decide) (⟨rfl, Fr.mm (hF1.tr hF2), hR, RC.rf, ⟨_, _, hC⟩, Or.inl ⟨_, rfl, rfl, hP2⟩⟩)
  
set_option maxHeartbeats 2000000 in
theorem m_form1 (hR : amRok R) (hC : CO R x y) (ha : amPO (amSH L) R a) (hb : amPO (amSH L) R b) (ha38 : a + 1 < 38) (hb38 : b + 1 < 38) (hp : JP J (a + 1) p) (hpB : PB 4000000000000000000 p) (hq : JP J (b + 1) q) : Cl 48 [.ref 63, .int 1, .ref a, .ref b, .int k, .ref 38] (amSH L) I J R (fun v I' J' R' => I' = I ∧ MkP J R (mkF 1 p q k.toInt) v J' R') := by
  show Ex 48 0 [some (.ref 63), some (.int 1), some (.ref a), some (.ref b), some (.int k), some (.ref 38), none] [] (amSH L) I J R _
  refine LA5 e48_0 ?_
  refine LA2 e48_2 ?_
  refine Cv1p e48_3 c48_8 (o38 L) (Nat.le_of_ble_eq_true rfl) (Nat.le_of_ble_eq_true rfl) (p_copy (po38 hR) ha (by omega) hp) ?_
  rintro _ I1 J1 R1 ⟨rfl, hI1, hR1, hF1, hP1⟩
  subst hI1
  subst hR1
  refine Ki e48_6 kiconst_1 ?_
  refine SI6 e48_7 rfl ?_
  refine LI1 e48_9 ?_
  refine Tin e48_10 1 rfl (by decide) rfl (show amTg 10 68 = some 78 from by decide) ?_
  refine LA5 e48_78 ?_
  refine LA2 e48_80 ?_
  refine LA3 e48_81 ?_
  refine Cv2p e48_82 c48_15 (o38 L) (Nat.le_of_ble_eq_true rfl) (Nat.le_of_ble_eq_true rfl) (p_product (po38 hR) ha hb (by omega) (by omega) (hp.fr hF1 (by omega)) (hq.fr hF1 (by omega))) ?_
  rintro _ I2 J2 R2 ⟨rfl, hI2, hR2, hF2, hP2⟩
  subst hI2
  subst hR2
  refine Go e48_85 t48_85 ?_
  refine LI6 e48_230 ?_
  exact Rz e48_232 rt48 (by decide) (⟨rfl, Fr.mm (hF1.tr hF2), hR, RC.rf, ⟨_, _, hC⟩, Or.inl ⟨_, rfl, rfl, hP2⟩⟩)
  
set_option maxHeartbeats 2000000 in
theorem m_form2 (hR : amRok R) (hC : CO R x y) (ha : amPO (amSH L) R a) (hb : amPO (amSH L) R b) (ha38 : a + 1 < 38) (hb38 : b + 1 < 38) (hp : JP J (a + 1) p) (hpB : PB 4000000000000000000 p) (hq : JP J (b + 1) q) : Cl 48 [.ref 63, .int 2, .ref a, .ref b, .int k, .ref 38] (amSH L) I J R (fun v I' J' R' => I' = I ∧ MkP J R (mkF 2 p q k.toInt) v J' R') := by
  show Ex 48 0 [some (.ref 63), some (.int 2), some (.ref a), some (.ref b), some (.int k), some (.ref 38), none] [] (amSH L) I J R _
  refine LA5 e48_0 ?_
  refine LA2 e48_2 ?_
  refine Cv1p e48_3 c48_8 (o38 L) (Nat.le_of_ble_eq_true rfl) (Nat.le_of_ble_eq_true rfl) (p_copy (po38 hR) ha (by omega) hp) ?_
  rintro _ I1 J1 R1 ⟨rfl, hI1, hR1, hF1, hP1⟩
  subst hI1
  subst hR1
  refine Ki e48_6 kiconst_1 ?_
  refine SI6 e48_7 rfl ?_
  refine LI1 e48_9 ?_
  refine Tin e48_10 2 rfl (by decide) rfl (show amTg 10 78 = some 88 from by decide) ?_
  refine LA5 e48_88 ?_
  refine LA3 e48_90 ?_
  refine Kd e48_91 kj2 ?_
  rw [show (-1 : Int64) = oI (-1) from by decide]
  refine Cv2p e48_94 c48_14 (o38 L) (Nat.le_of_ble_eq_true rfl) (Nat.le_of_ble_eq_true rfl) (p_add (t := -1) (po38 hR) hb (by omega) hP1 (hq.fr hF1 (by omega))) ?_
  rintro _ I2 J2 R2 ⟨rfl, hI2, hR2, hF2, hP2⟩
  subst hI2
  subst hR2
  refine Go e48_97 t48_97 ?_
  refine LI6 e48_230 ?_
  exact Rz e48_232 rt48 (by decide) (⟨rfl, Fr.mm (hF1.tr hF2), hR, RC.rf, ⟨_, _, hC⟩, Or.inl ⟨_, rfl, rfl, hP2⟩⟩)
  
set_option maxHeartbeats 2000000 in
theorem m_form3 (hR : amRok R) (hC : CO R x y) (ha : amPO (amSH L) R a) (hb : amPO (amSH L) R b) (ha38 : a + 1 < 38) (hb38 : b + 1 < 38) (hp : JP J (a + 1) p) (hpB : PB 4000000000000000000 p) (hq : JP J (b + 1) q) (hqB : PB 4000000000000000000 q) : Cl 48 [.ref 63, .int 3, .ref a, .ref b, .int k, .ref 38] (amSH L) I J R (fun v I' J' R' => I' = I ∧ MkP J R (mkF 3 p q k.toInt) v J' R') := by
  show Ex 48 0 [some (.ref 63), some (.int 3), some (.ref a), some (.ref b), some (.int k), some (.ref 38), none] [] (amSH L) I J R _
  refine LA5 e48_0 ?_
  refine LA2 e48_2 ?_
  refine Cv1p e48_3 c48_8 (o38 L) (Nat.le_of_ble_eq_true rfl) (Nat.le_of_ble_eq_true rfl) (p_copy (po38 hR) ha (by omega) hp) ?_
  rintro _ I1 J1 R1 ⟨rfl, hI1, hR1, hF1, hP1⟩
  subst hI1
  subst hR1
  refine Ki e48_6 kiconst_1 ?_
  refine SI6 e48_7 rfl ?_
  refine LI1 e48_9 ?_
  refine Tin e48_10 3 rfl (by decide) rfl (show amTg 10 90 = some 100 from by decide) ?_
  refine LA0 e48_100 ?_
  refine Gr e48_101 (o63 L) (hR 63 0 40 rfl) f256 ?_
  refine LA2 e48_104 ?_
  refine LA3 e48_105 ?_
  refine Cv2p e48_106 c48_26 (o40 L) (Nat.le_of_ble_eq_true rfl) (Nat.le_of_ble_eq_true rfl) (c_find hR hC ha hb ⟨by omega, by omega⟩ ⟨by omega, by omega⟩ ⟨by omega, by omega⟩ (hp.fr hF1 (by omega)) (hq.fr hF1 (by omega)) hpB hqB) ?_
  rintro v I2 J2 R2 ⟨hI2, hF2, hR2, hRC2, x2, y2, hC2, hD⟩
  subst hI2
  have hm := (Fr.mm hF1).tr (hF2.mm (by simp))
  rcases hD with ⟨r, hr, rfl, hP2⟩ | ⟨hr, rfl⟩
  · exact form_com hb01 hR2 hC2 hP2 (fun J' g1 g2 => ⟨rfl, hm.tr g1.mm, hR2, hRC2, ⟨_, _, hC2⟩, Or.inl ⟨_, hr, rfl, g2⟩⟩)
  · exact form_com (p := fun k => (J2 (x2 + 1) k).toInt) hb00 hR2 hC2 JP.any (fun J' g1 g2 => ⟨rfl, hm.tr g1.mm, hR2, hRC2, ⟨_, _, hC2⟩, Or.inr ⟨hr, rfl⟩⟩)
set_option maxHeartbeats 2000000 in
theorem m_form4 (hR : amRok R) (hC : CO R x y) (ha : amPO (amSH L) R a) (hb : amPO (amSH L) R b) (ha38 : a + 1 < 38) (hb38 : b + 1 < 38) (hp : JP J (a + 1) p) (hpB : PB 4000000000000000000 p) (hq : JP J (b + 1) q) : Cl 48 [.ref 63, .int 4, .ref a, .ref b, .int k, .ref 38] (amSH L) I J R (fun v I' J' R' => I' = I ∧ MkP J R (mkF 4 p q k.toInt) v J' R') := by
  show Ex 48 0 [some (.ref 63), some (.int 4), some (.ref a), some (.ref b), some (.int k), some (.ref 38), none] [] (amSH L) I J R _
  refine LA5 e48_0 ?_
  refine LA2 e48_2 ?_
  refine Cv1p e48_3 c48_8 (o38 L) (Nat.le_of_ble_eq_true rfl) (Nat.le_of_ble_eq_true rfl) (p_copy (po38 hR) ha (by omega) hp) ?_
  rintro _ I1 J1 R1 ⟨rfl, hI1, hR1, hF1, hP1⟩
  subst hI1
  subst hR1
  refine Ki e48_6 kiconst_1 ?_
  refine SI6 e48_7 rfl ?_
  refine LI1 e48_9 ?_
  refine Tin e48_10 4 rfl (by decide) rfl (show amTg 10 116 = some 126 from by decide) ?_
  refine LA5 e48_126 ?_
  refine Cv0p e48_128 c48_16 (o38 L) (Nat.le_of_ble_eq_true rfl) (Nat.le_of_ble_eq_true rfl) (p_derive (po38 hR) hP1) ?_
  rintro _ I2 J2 R2 ⟨rfl, hI2, hR2, hF2, hP2⟩
  subst hI2
  subst hR2
  refine Go e48_131 t48_131 ?_
  refine LI6 e48_230 ?_
  exact Rz e48_232 rt48 (by decide) (⟨rfl, Fr.mm (hF1.tr hF2), hR, RC.rf, ⟨_, _, hC⟩, Or.inl ⟨_, rfl, rfl, hP2⟩⟩)
  
set_option maxHeartbeats 2000000 in
theorem m_form5 (hR : amRok R) (hC : CO R x y) (ha : amPO (amSH L) R a) (hb : amPO (amSH L) R b) (ha38 : a + 1 < 38) (hb38 : b + 1 < 38) (hp : JP J (a + 1) p) (hpB : PB 4000000000000000000 p) (hq : JP J (b + 1) q) : Cl 48 [.ref 63, .int 5, .ref a, .ref b, .int k, .ref 38] (amSH L) I J R (fun v I' J' R' => I' = I ∧ MkP J R (mkF 5 p q k.toInt) v J' R') := by
  show Ex 48 0 [some (.ref 63), some (.int 5), some (.ref a), some (.ref b), some (.int k), some (.ref 38), none] [] (amSH L) I J R _
  refine LA5 e48_0 ?_
  refine LA2 e48_2 ?_
  refine Cv1p e48_3 c48_8 (o38 L) (Nat.le_of_ble_eq_true rfl) (Nat.le_of_ble_eq_true rfl) (p_copy (po38 hR) ha (by omega) hp) ?_
  rintro _ I1 J1 R1 ⟨rfl, hI1, hR1, hF1, hP1⟩
  subst hI1
  subst hR1
  refine Ki e48_6 kiconst_1 ?_
  refine SI6 e48_7 rfl ?_
  refine LI1 e48_9 ?_
  refine Tin e48_10 5 rfl (by decide) rfl (show amTg 10 124 = some 134 from by decide) ?_
  refine LA5 e48_134 ?_
  refine Ki e48_136 kiconst_m1 ?_
  refine Cs2p e48_137 c48_49 (Nat.le_of_ble_eq_true rfl) (Nat.le_of_ble_eq_true rfl) (m_stretch (k := -1) (po38 hR) hP1) ?_
  rintro _ I2 J2 R2 ⟨rfl, hI2, hR2, hF2, hP2⟩
  subst hI2
  subst hR2
  refine Go e48_140 t48_140 ?_
  refine LI6 e48_230 ?_
  exact Rz e48_232 rt48 (by decide) (⟨rfl, Fr.mm (hF1.tr hF2), hR, RC.rf, ⟨_, _, hC⟩, Or.inl ⟨_, rfl, rfl, hP2⟩⟩)
  
set_option maxHeartbeats 2000000 in
theorem m_form6 (hR : amRok R) (hC : CO R x y) (ha : amPO (amSH L) R a) (hb : amPO (amSH L) R b) (ha38 : a + 1 < 38) (hb38 : b + 1 < 38) (hp : JP J (a + 1) p) (hpB : PB 4000000000000000000 p) (hq : JP J (b + 1) q) : Cl 48 [.ref 63, .int 6, .ref a, .ref b, .int k, .ref 38] (amSH L) I J R (fun v I' J' R' => I' = I ∧ MkP J R (mkF 6 p q k.toInt) v J' R') := by
  show Ex 48 0 [some (.ref 63), some (.int 6), some (.ref a), some (.ref b), some (.int k), some (.ref 38), none] [] (amSH L) I J R _
  refine LA5 e48_0 ?_
  refine LA2 e48_2 ?_
  refine Cv1p e48_3 c48_8 (o38 L) (Nat.le_of_ble_eq_true rfl) (Nat.le_of_ble_eq_true rfl) (p_copy (po38 hR) ha (by omega) hp) ?_
  rintro _ I1 J1 R1 ⟨rfl, hI1, hR1, hF1, hP1⟩
  subst hI1
  subst hR1
  refine Ki e48_6 kiconst_1 ?_
  refine SI6 e48_7 rfl ?_
  refine LI1 e48_9 ?_
  refine Tin e48_10 6 rfl (by decide) rfl (show amTg 10 133 = some 143 from by decide) ?_
  refine LA5 e48_143 ?_
  refine LI4 e48_145 ?_
  refine Cs2p e48_147 c48_50 (Nat.le_of_ble_eq_true rfl) (Nat.le_of_ble_eq_true rfl) (m_shift (po38 hR) hP1) ?_
  rintro _ I2 J2 R2 ⟨rfl, hI2, hR2, hF2, hP2⟩
  subst hI2
  subst hR2
  refine Go e48_150 t48_150 ?_
  refine LI6 e48_230 ?_
  exact Rz e48_232 rt48 (by decide) (⟨rfl, Fr.mm (hF1.tr hF2), hR, RC.rf, ⟨_, _, hC⟩, Or.inl ⟨_, rfl, rfl, hP2⟩⟩)
  
set_option maxHeartbeats 2000000 in
theorem m_form7 (hR : amRok R) (hC : CO R x y) (ha : amPO (amSH L) R a) (hb : amPO (amSH L) R b) (ha38 : a + 1 < 38) (hb38 : b + 1 < 38) (hp : JP J (a + 1) p) (hpB : PB 4000000000000000000 p) (hq : JP J (b + 1) q) : Cl 48 [.ref 63, .int 7, .ref a, .ref b, .int k, .ref 38] (amSH L) I J R (fun v I' J' R' => I' = I ∧ MkP J R (mkF 7 p q k.toInt) v J' R') := by
  show Ex 48 0 [some (.ref 63), some (.int 7), some (.ref a), some (.ref b), some (.int k), some (.ref 38), none] [] (amSH L) I J R _
  refine LA5 e48_0 ?_
  refine LA2 e48_2 ?_
  refine Cv1p e48_3 c48_8 (o38 L) (Nat.le_of_ble_eq_true rfl) (Nat.le_of_ble_eq_true rfl) (p_copy (po38 hR) ha (by omega) hp) ?_
  rintro _ I1 J1 R1 ⟨rfl, hI1, hR1, hF1, hP1⟩
  subst hI1
  subst hR1
  refine Ki e48_6 kiconst_1 ?_
  refine SI6 e48_7 rfl ?_
  refine LI1 e48_9 ?_
  refine Tin e48_10 7 rfl (by decide) rfl (show amTg 10 143 = some 153 from by decide) ?_
  refine LA5 e48_153 ?_
  refine LI4 e48_155 ?_
  refine Cs2p e48_157 c48_49 (Nat.le_of_ble_eq_true rfl) (Nat.le_of_ble_eq_true rfl) (m_stretch (po38 hR) hP1) ?_
  rintro _ I2 J2 R2 ⟨rfl, hI2, hR2, hF2, hP2⟩
  subst hI2
  subst hR2
  refine Go e48_160 t48_160 ?_
  refine LI6 e48_230 ?_
  exact Rz e48_232 rt48 (by decide) (⟨rfl, Fr.mm (hF1.tr hF2), hR, RC.rf, ⟨_, _, hC⟩, Or.inl ⟨_, rfl, rfl, hP2⟩⟩)
  
set_option maxHeartbeats 2000000 in
theorem m_form8 (hR : amRok R) (hC : CO R x y) (ha : amPO (amSH L) R a) (hb : amPO (amSH L) R b) (ha38 : a + 1 < 38) (hb38 : b + 1 < 38) (hp : JP J (a + 1) p) (hpB : PB 4000000000000000000 p) (hq : JP J (b + 1) q) : Cl 48 [.ref 63, .int 8, .ref a, .ref b, .int k, .ref 38] (amSH L) I J R (fun v I' J' R' => I' = I ∧ MkP J R (mkF 8 p q k.toInt) v J' R') := by
  show Ex 48 0 [some (.ref 63), some (.int 8), some (.ref a), some (.ref b), some (.int k), some (.ref 38), none] [] (amSH L) I J R _
  refine LA5 e48_0 ?_
  refine LA2 e48_2 ?_
  refine Cv1p e48_3 c48_8 (o38 L) (Nat.le_of_ble_eq_true rfl) (Nat.le_of_ble_eq_true rfl) (p_copy (po38 hR) ha (by omega) hp) ?_
  rintro _ I1 J1 R1 ⟨rfl, hI1, hR1, hF1, hP1⟩
  subst hI1
  subst hR1
  refine Ki e48_6 kiconst_1 ?_
  refine SI6 e48_7 rfl ?_
  refine LI1 e48_9 ?_
  refine Tin e48_10 8 rfl (by decide) rfl (show amTg 10 153 = some 163 from by decide) ?_
  refine LA2 e48_163 ?_
  refine LA5 e48_164 ?_
  refine Cs2p e48_166 c48_51 (Nat.le_of_ble_eq_true rfl) (Nat.le_of_ble_eq_true rfl) (m_reverse (po38 hR) ha (by omega) hP1 (hp.fr hF1 (by omega)) hpB) ?_
  rintro _ I2 J2 R2 ⟨rfl, hI2, hR2, hF2, hP2⟩
  subst hI2
  subst hR2
  refine Go e48_169 t48_169 ?_
  refine LI6 e48_230 ?_
  exact Rz e48_232 rt48 (by decide) (⟨rfl, Fr.mm (hF1.tr hF2), hR, RC.rf, ⟨_, _, hC⟩, Or.inl ⟨_, rfl, rfl, hP2⟩⟩)
  
set_option maxHeartbeats 2000000 in
theorem m_form9 (hR : amRok R) (hC : CO R x y) (ha : amPO (amSH L) R a) (hb : amPO (amSH L) R b) (ha38 : a + 1 < 38) (hb38 : b + 1 < 38) (hp : JP J (a + 1) p) (hpB : PB 4000000000000000000 p) (hq : JP J (b + 1) q) (hok : FrOk p) : Cl 48 [.ref 63, .int 9, .ref a, .ref b, .int k, .ref 38] (amSH L) I J R (fun v I' J' R' => I' = I ∧ MkP J R (mkF 9 p q k.toInt) v J' R') := by
  show Ex 48 0 [some (.ref 63), some (.int 9), some (.ref a), some (.ref b), some (.int k), some (.ref 38), none] [] (amSH L) I J R _
  refine LA5 e48_0 ?_
  refine LA2 e48_2 ?_
  refine Cv1p e48_3 c48_8 (o38 L) (Nat.le_of_ble_eq_true rfl) (Nat.le_of_ble_eq_true rfl) (p_copy (po38 hR) ha (by omega) hp) ?_
  rintro _ I1 J1 R1 ⟨rfl, hI1, hR1, hF1, hP1⟩
  subst hI1
  subst hR1
  refine Ki e48_6 kiconst_1 ?_
  refine SI6 e48_7 rfl ?_
  refine LI1 e48_9 ?_
  refine Tin e48_10 9 rfl (by decide) rfl (show amTg 10 162 = some 172 from by decide) ?_
  refine LA0 e48_172 ?_
  refine Gr e48_173 (o63 L) (hR 63 0 40 rfl) f256 ?_
  refine LA2 e48_176 ?_
  refine LA5 e48_177 ?_
  refine Cv2p e48_179 c48_27 (o40 L) (Nat.le_of_ble_eq_true rfl) (Nat.le_of_ble_eq_true rfl) (c_free hR hC ha (po38 hR) (by omega) ⟨by decide, by decide, by decide⟩ ⟨by decide, by decide, by decide⟩ (by decide) (hp.fr hF1 (by omega)) hpB hok) ?_
  rintro v I2 J2 R2 ⟨hI2, hF2, hR2, hRC2, hC2, hD⟩
  subst hI2
  have hm := (Fr.mm hF1).tr (hF2.mm (by simp))
  rcases hD with ⟨r, hr, rfl, hP2⟩ | ⟨hr, rfl⟩
  · exact form_end182 hb01 ⟨rfl, hm, hR2, hRC2, hC2, Or.inl ⟨_, hr, rfl, hP2⟩⟩
  · exact form_end182 hb00 ⟨rfl, hm, hR2, hRC2, hC2, Or.inr ⟨hr, rfl⟩⟩
set_option maxHeartbeats 2000000 in
theorem m_form10 (hR : amRok R) (hC : CO R x y) (ha : amPO (amSH L) R a) (hb : amPO (amSH L) R b) (ha38 : a + 1 < 38) (hb38 : b + 1 < 38) (hp : JP J (a + 1) p) (hpB : PB 4000000000000000000 p) (hq : JP J (b + 1) q) (hqB : PB 1000000 q) (hq0 : 0 < sz q) : Cl 48 [.ref 63, .int 10, .ref a, .ref b, .int k, .ref 38] (amSH L) I J R (fun v I' J' R' => I' = I ∧ MkP J R (mkF 10 p q k.toInt) v J' R') := by
  show Ex 48 0 [some (.ref 63), some (.int 10), some (.ref a), some (.ref b), some (.int k), some (.ref 38), none] [] (amSH L) I J R _
  refine LA5 e48_0 ?_
  refine LA2 e48_2 ?_
  refine Cv1p e48_3 c48_8 (o38 L) (Nat.le_of_ble_eq_true rfl) (Nat.le_of_ble_eq_true rfl) (p_copy (po38 hR) ha (by omega) hp) ?_
  rintro _ I1 J1 R1 ⟨rfl, hI1, hR1, hF1, hP1⟩
  subst hI1
  subst hR1
  refine Ki e48_6 kiconst_1 ?_
  refine SI6 e48_7 rfl ?_
  refine LI1 e48_9 ?_
  refine Tin e48_10 10 rfl (by decide) rfl (show amTg 10 177 = some 187 from by decide) ?_
  refine LA5 e48_187 ?_
  refine LA3 e48_189 ?_
  refine Cv1p e48_190 c48_18 (o38 L) (Nat.le_of_ble_eq_true rfl) (Nat.le_of_ble_eq_true rfl) (p_reduce (po38 hR) hb (by omega) hP1 hpB (hq.fr hF1 (by omega)) hqB hq0) ?_
  rintro v I2 J2 R2 ⟨hI2, hR2, hF2, hD⟩
  subst hI2
  subst hR2
  rcases hD with ⟨r, hr, rfl, hP2⟩ | ⟨hr, rfl, -⟩
  · exact form_end193 hb01 ⟨rfl, Fr.mm (hF1.tr hF2), hR, RC.rf, ⟨_, _, hC⟩, Or.inl ⟨_, hr, rfl, hP2⟩⟩
  · exact form_end193 hb00 ⟨rfl, Fr.mm (hF1.tr hF2), hR, RC.rf, ⟨_, _, hC⟩, Or.inr ⟨hr, rfl⟩⟩
theorem form_no (hQ : Q (some (.int 0)) I J R) : Ex 48 206 [some (.ref 63), some (.int 11), some (.ref a), some (.ref b), some (.int (nI m)), some (.ref 38), some (.int 1)] [.int 0] (amSH L) I J R Q := by
  refine B_eq e48_206 t48_206 (fun _ => ?_) (fun q => absurd (rfl) q)
  refine Ki e48_227 kiconst_0 ?_
  refine SI6 e48_228 rfl ?_
  refine LI6 e48_230 ?_
  exact Rz e48_232 rt48 (by decide) (hQ)
theorem form_y (hQ : Q (some (.int 1)) I J R) : Ex 48 220 [some (.ref 63), some (.int 11), some (.ref a), some (.ref b), some (.int (nI m)), some (.ref 38), some (.int 1)] [.int 1] (amSH L) I J R Q := by
  refine B_eq e48_220 t48_220 (fun q => absurd q (by decide)) (fun _ => ?_)
  refine Ki e48_223 kiconst_1 ?_
  refine Go e48_224 t48_224 ?_
  refine SI6 e48_228 rfl ?_
  refine LI6 e48_230 ?_
  exact Rz e48_232 rt48 (by decide) (hQ)
theorem form_n (hQ : Q (some (.int 0)) I J R) : Ex 48 220 [some (.ref 63), some (.int 11), some (.ref a), some (.ref b), some (.int (nI m)), some (.ref 38), some (.int 1)] [.int 0] (amSH L) I J R Q := by
  refine B_eq e48_220 t48_220 (fun _ => ?_) (fun q => absurd (rfl) q)
  refine Ki e48_227 kiconst_0 ?_
  refine SI6 e48_228 rfl ?_
  refine LI6 e48_230 ?_
  exact Rz e48_232 rt48 (by decide) (hQ)
set_option maxHeartbeats 2000000 in
theorem form_part {l : List Po} (hR : amRok R) (hl : l.length = 6) (hM : DM J l) (hB : LPb l) (hm1 : 1 ≤ m) (hm4 : m ≤ 4) (hok : PfOk l m) (hQ : ∀ v J', FrL [50, 39] J J' → ((∃ g, pfm l m = some g ∧ v = some (.int 1) ∧ JP J' (38 + 1) g) ∨ (pfm l m = none ∧ v = some (.int 0))) → Q v I J' R) : Ex 48 206 [some (.ref 63), some (.int 11), some (.ref a), some (.ref b), some (.int (nI m)), some (.ref 38), some (.int 1)] [.int 1] (amSH L) I J R Q := by
  refine B_eq e48_206 t48_206 (fun q => absurd q (by decide)) (fun _ => ?_)
  refine LA0 e48_209 ?_
  refine Gr e48_210 (o63 L) (hR 63 1 47 rfl) f257 ?_
  refine LI4 e48_213 ?_
  refine LA5 e48_215 ?_
  refine Cv2p e48_217 c48_46 (o47 L) (Nat.le_of_ble_eq_true rfl) (Nat.le_of_ble_eq_true rfl) (d_form hR (po38 hR) (by decide) hl hM hB hm1 hm4 hok) ?_
  rintro v I2 J2 R2 ⟨hI2, hR2, hF2, hD⟩
  subst hI2
  subst hR2
  rcases hD with ⟨g, hg, rfl, hP⟩ | ⟨hg, rfl⟩
  · exact form_y (hQ _ _ hF2 (Or.inl ⟨g, hg, rfl, hP⟩))
  · exact form_n (hQ _ _ hF2 (Or.inr ⟨hg, rfl⟩))
set_option maxHeartbeats 2000000 in
theorem m_form11 (hR : amRok R) (hC : CO R x y) (ha : amPO (amSH L) R a) (hb : amPO (amSH L) R b) (ha38 : a + 1 < 38) (hb38 : b + 1 < 38) (hp : JP J (a + 1) p) (hpB : PB 4000000000000000000 p) (hq : JP J (b + 1) q) (hm1 : 1 ≤ m) (hm4 : m ≤ 4) (hok : ∀ l, spl p = some l → PfOk l m) : Cl 48 [.ref 63, .int 11, .ref a, .ref b, .int (nI m), .ref 38] (amSH L) I J R (fun v I' J' R' => I' = I ∧ MkP J R (mkF 11 p q (m : Int)) v J' R') := by
  have em : mkF 11 p q (m : Int) = (match spl p with | none => none | some l => pfm l m) := rfl
  rw [em]
  show Ex 48 0 [some (.ref 63), some (.int 11), some (.ref a), some (.ref b), some (.int (nI m)), some (.ref 38), none] [] (amSH L) I J R _
  refine LA5 e48_0 ?_
  refine LA2 e48_2 ?_
  refine Cv1p e48_3 c48_8 (o38 L) (Nat.le_of_ble_eq_true rfl) (Nat.le_of_ble_eq_true rfl) (p_copy (po38 hR) ha (by omega) hp) ?_
  rintro _ I1 J1 R1 ⟨rfl, hI1, hR1, hF1, hP1⟩
  subst hI1
  subst hR1
  refine Ki e48_6 kiconst_1 ?_
  refine SI6 e48_7 rfl ?_
  refine LI1 e48_9 ?_
  refine Tout e48_10 (show amTg 10 188 = some 198 from by decide) (by decide) ?_
  refine LA0 e48_198 ?_
  refine Gr e48_199 (o63 L) (hR 63 1 47 rfl) f257 ?_
  refine LA2 e48_202 ?_
  refine Cv1p e48_203 c48_44 (o47 L) (Nat.le_of_ble_eq_true rfl) (Nat.le_of_ble_eq_true rfl) (d_split hR hC ha (by omega) (hp.fr hF1 (by omega)) hpB) ?_
  rintro v I2 J2 R2 ⟨hI2, hF2, hR2, hRC2, hC2, hD⟩
  subst hI2
  have hmm := (Fr.mm hF1).tr hF2.mm
  rcases hD with ⟨l, hl, rfl, hl6, hDM, hLP⟩ | ⟨hl, rfl⟩
  · rw [hl]
    exact form_part hR2 hl6 hDM hLP hm1 hm4 (hok l hl) (fun v J' g1 g2 => ⟨rfl, hmm.tr (g1.mm (by simp)), hR2, hRC2, hC2, g2⟩)
  · rw [hl]
    exact form_no ⟨rfl, hmm, hR2, hRC2, hC2, Or.inr ⟨rfl, rfl⟩⟩
end MFORM
