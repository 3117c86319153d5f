/-! calls: times, sign, which (printed by wip/whole/t59.py) -/
/-- times: of D from m on -/
noncomputable def tmN (D : List Po) (s : Fs) : Nat → Nat → Nat → Int32
  | 0, _, c => nI c
  | f + 1, m, c => match chn (D.getD m zP) with
    | none => -3
    | some l => tmN D s f (m + 1) (if 0 < fHo l s then c + 1 else c)
noncomputable def sTimes (ps : List Po) (p k : Int32) : Int32 := if inP ps p then (match chn (plP ps p) with
    | none => -3
    | some l => if hasR l k then (match fnc l k 0 with
      | none => -3
      | some s => match spl (plP ps p) with
        | none => -3
        | some D => tmN D s 5 1 1) else -1) else -1
/-- the sign of q outside, by fences of l from h on -/
def sgN (l lq : List Po) (k : Int32) (q : Po) : Nat → Nat → Fs → Int64
  | 0, _, _ => NOv
  | f + 1, t, s => match fnN l k t 100 s with
    | none => NOv
    | some s' => if fHo lq s' = 0 then (sgl (oI (hv q (feU s') (feV s')))).toInt64 else sgN l lq k q f (t + 1) s'
noncomputable def sSign (ps : List Po) (p k q : Int32) : Int64 := if inP ps p then (if inP ps q then (match chn (plP ps p) with
    | none => NOv
    | some l => if hasR l k then (match fnc l k 0 with
      | none => NOv
      | some s => match com (plP ps p) (plP ps q) with
        | none => NOv
        | some g => match chn g with
          | none => NOv
          | some lg => if 0 < fHo lg s then 0 else match chn (plP ps q) with
            | none => NOv
            | some lq => sgN l lq k (plP ps q) 10 0 s) else NOv) else NOv) else NOv
/-- which is the greater -/
def orN (l lq : List Po) (i j : Int32) : Nat → Nat → Fs → Fs → Int64
  | 0, _, _, _ => NOv
  | f + 1, t, s, z => match fnN l i t 100 s with
    | none => NOv
    | some s' => match fnN lq j t 100 z with
      | none => NOv
      | some z' => if s'.2.1 * z'.2.2.1 ≤ z'.1 * s'.2.2.1 then -1 else if z'.2.1 * s'.2.2.1 ≤ s'.1 * z'.2.2.1 then 1 else orN l lq i j f (t + 1) s' z'
/-- alike, by the chain of what both have -/
abbrev alK (lg : List Po) (s z : Fs) : Prop := ¬ fHo lg s = 0 ∧ ¬ fHo lg z = 0 ∧ tA lg (feU s) (feV s) = tA lg (feU z) (feV z)
noncomputable def sWhich (ps : List Po) (p i q j : Int32) : Int64 := if inP ps p then (if inP ps q then (match chn (plP ps p) with
    | none => NOv
    | some l => match chn (plP ps q) with
      | none => NOv
      | some lq => if hasR l i ∧ hasR lq j then (match fnc l i 0 with
        | none => NOv
        | some s => match fnc lq j 0 with
          | none => NOv
          | some z => match com (plP ps p) (plP ps q) with
            | none => NOv
            | some g => match chn g with
              | none => NOv
              | some lg => if alK lg s z then 0 else orN l lq i j 10 0 s z) else NOv) else NOv) else NOv
/-- what goes on below: the answer, nothing of the state -/
def KP (I : amI) (J : amJ) (R : amR) (val : Value) (v : Option Value) (I' : amI) (J' : amJ) (R' : amR) : Prop := v = some val ∧ FrK I I' J J' ∧ R' = R
theorem KP.tr {I I1 I' : amI} {J J1 J' : amJ} {R R' : amR} {val : Value} {v : Option Value} (h : KP I1 J1 R val v I' J' R') (h1 : FrK I I1 J J1) : KP I J R val v I' J' R' := ⟨h.1, h1.tr h.2.1, h.2.2⟩
section CALLS5
variable {L : Nat} {I : amI} {J : amJ} {R : amR} {Q : amQ} {σ : PS} {l lq lg : List Po} {s z : Fs} {a : Nat} {q : Po}
set_option maxHeartbeats 2000000 in
theorem sg_lp {k : Int32} (hR : amRok R) (ha : amPO (amSH L) R a) (ha38 : a + 1 < 39) (hqB : PB 4000000000000000000 q) (hq5 : sz q ≤ 5) (hZl : LZ l) (hZq : LZ lq) (hl9 : l.length ≤ 9) : ∀ (f t : Nat) (s : Fs) (I : amI) (J : amJ), t + f = 10 → CI I J 64 l → CI I J 88 lq → FI s → FSm I J 136 s → JP J (a + 1) q → Ex 147 2 [some (.ref 1), some (.int k), some (.ref a), some (.int (nI t))] [] (amSH L) I J R (KP I J R (.long (sgN l lq k q f t s))) := by
  intro f
  induction f with
  | zero =>
    intro t s I J ht hI hIq hF hM hP
    refine LI3 e147_2 ?_
    refine Ki e147_3 kbipush_9 ?_
    refine CN_gt (a := t) (b := 9) e147_5 t147_5 rfl (by decide) (by omega) (by omega) (fun _ => ?_) (fun q => by omega)
    refine Kd e147_68 kj4 ?_
    exact Rj e147_71 rt147 (⟨rfl, FrK.rf, rfl⟩)
  | succ f ih =>
    intro t s I J ht hI hIq hF hM hP
    rw [sgN]
    refine LI3 e147_2 ?_
    refine Ki e147_3 kbipush_9 ?_
    refine CN_gt (a := t) (b := 9) e147_5 t147_5 rfl (by decide) (by omega) (by omega) (fun q => absurd q (by omega)) (fun _ => ?_)
    refine LA0 e147_8 ?_
    refine Gr e147_9 (o1 L) (hR 1 10 136 rfl) f714 ?_
    refine LA0 e147_12 ?_
    refine Gr e147_13 (o1 L) (hR 1 7 64 rfl) f711 ?_
    refine LI1 e147_16 ?_
    refine LI3 e147_17 ?_
    refine Cv3p e147_18 c147_62 (o136 L) (Nat.le_of_ble_eq_true rfl) (Nat.le_of_ble_eq_true rfl) (f_narrow fx136 ch64 hR hI hZl (by omega) hF hM) ?_
    rintro v I1 J1 R1 hHv
    obtain ⟨hRe, hfi, hfj, hD⟩ := id hHv
    subst hRe
    have hk1 := HvP.k fx136 hHv
    have hI := hI.fx ch64 fx136 hfi hfj
    have hIq := hIq.fx ch88 fx136 hfi hfj
    have hP := hP.fr hfj (by omega)
    rcases hD with ⟨s', hfs, rfl, hM1⟩ | ⟨hfs, rfl⟩
    · rw [hfs]
      dsimp only
      have hF1 := fnN_FI hfs hl9 hF
      have hp := pt_b hF1
      have e3 := iI_t (a := feU s') (by omega)
      have e4 := iI_t (a := feV s') (by omega)
      refine B_ne e147_21 t147_21 (fun _ => ?_) (fun q => absurd (by decide) q)
      refine LA0 e147_28 ?_
      refine Gr e147_29 (o1 L) (hR 1 10 136 rfl) f714 ?_
      refine LA0 e147_32 ?_
      refine Gr e147_33 (o1 L) (hR 1 8 88 rfl) f712 ?_
      refine Cv1 e147_36 c147_68 (o136 L) (Nat.le_of_ble_eq_true rfl) (Nat.le_of_ble_eq_true rfl) ((f_holds fx136 ch88 hR hIq hZq hF1 hM1)) ?_
      refine B_ne e147_39 t147_39 (fun h39 => ?_) (fun h39 => ?_)
      · refine IncN3 (m := t) e147_62 rfl ?_
        refine Go e147_65 t147_65 ?_
        rw [if_neg h39]
        exact (ih (t + 1) s' _ _ (by omega) hI hIq hF1 hM1 hP).mono (fun v I' J' R' q => q.tr hk1)
      · refine LA2 e147_42 ?_
        refine LA0 e147_43 ?_
        refine Gr e147_44 (o1 L) (hR 1 10 136 rfl) f714 ?_
        refine Cv0 e147_47 c147_66 (o136 L) (Nat.le_of_ble_eq_true rfl) (Nat.le_of_ble_eq_true rfl) ((f_endU fx136 hF1 hM1)) ?_
        refine LA0 e147_50 ?_
        refine Gr e147_51 (o1 L) (hR 1 10 136 rfl) f714 ?_
        refine Cv0 e147_54 c147_67 (o136 L) (Nat.le_of_ble_eq_true rfl) (Nat.le_of_ble_eq_true rfl) ((f_endV fx136 hF1 hM1)) ?_
        refine Cv2 e147_57 c147_21 ha.1 (Nat.le_of_ble_eq_true rfl) (Nat.le_of_ble_eq_true rfl) ((p_signAt (u := iI (feU s')) (v := iI (feV s')) ha hP hqB hq5 (by rw [e4]; omega) (by rw [e4]; omega))) ?_
        rw [e3, e4]
        refine I2l e147_60 ?_
        exact Rj e147_61 rt147 (by
        rw [if_pos (Decidable.not_not.mp h39)]
        exact ⟨rfl, hk1, rfl⟩)
    · rw [hfs]
      refine B_ne e147_21 t147_21 (fun q => absurd q (fun z => z rfl)) (fun _ => ?_)
      refine Kd e147_24 kj4 ?_
      exact Rj e147_27 rt147 (⟨rfl, hk1, rfl⟩)
set_option maxHeartbeats 2000000 in
theorem k_sgOut {k : Int32} (hR : amRok R) (ha : amPO (amSH L) R a) (ha38 : a + 1 < 39) (hqB : PB 4000000000000000000 q) (hq5 : sz q ≤ 5) (hZl : LZ l) (hZq : LZ lq) (hI : CI I J 64 l) (hIq : CI I J 88 lq) (hF : FI s) (hM : FSm I J 136 s) (hP : JP J (a + 1) q) : Cl 147 [.ref 1, .int k, .ref a] (amSH L) I J R (KP I J R (.long (sgN l lq k q 10 0 s))) := by
  show Ex 147 0 [some (.ref 1), some (.int k), some (.ref a), none] [] (amSH L) I J R _
  refine Ki e147_0 kiconst_0 ?_
  refine SI3 e147_1 rfl ?_
  exact sg_lp hR ha ha38 hqB hq5 hZl hZq hI.2.2.2.1 10 0 s I J rfl hI hIq hF hM hP
set_option maxHeartbeats 2000000 in
theorem or_lp {i j : Int32} (hR : amRok R) (hZl : LZ l) (hZq : LZ lq) (hl9 : l.length ≤ 9) (hq9 : lq.length ≤ 9) : ∀ (f t : Nat) (s z : Fs) (I : amI) (J : amJ), t + f = 10 → CI I J 64 l → CI I J 88 lq → FI s → FSm I J 136 s → FI z → FSm I J 137 z → Ex 149 2 [some (.ref 1), some (.int i), some (.int j), some (.int (nI t))] [] (amSH L) I J R (KP I J R (.long (orN l lq i j f t s z))) := by
  intro f
  induction f with
  | zero =>
    intro t s z I J ht hI hIq hF hM hG hN
    refine LI3 e149_2 ?_
    refine Ki e149_3 kbipush_9 ?_
    refine CN_gt (a := t) (b := 9) e149_5 t149_5 rfl (by decide) (by omega) (by omega) (fun _ => ?_) (fun q => by omega)
    refine Kd e149_84 kj4 ?_
    exact Rj e149_87 rt149 (⟨rfl, FrK.rf, rfl⟩)
  | succ f ih =>
    intro t s z I J ht hI hIq hF hM hG hN
    rw [orN]
    refine LI3 e149_2 ?_
    refine Ki e149_3 kbipush_9 ?_
    refine CN_gt (a := t) (b := 9) e149_5 t149_5 rfl (by decide) (by omega) (by omega) (fun q => absurd q (by omega)) (fun _ => ?_)
    refine LA0 e149_8 ?_
    refine Gr e149_9 (o1 L) (hR 1 10 136 rfl) f714 ?_
    refine LA0 e149_12 ?_
    refine Gr e149_13 (o1 L) (hR 1 7 64 rfl) f711 ?_
    refine LI1 e149_16 ?_
    refine LI3 e149_17 ?_
    refine Cv3p e149_18 c149_62 (o136 L) (Nat.le_of_ble_eq_true rfl) (Nat.le_of_ble_eq_true rfl) (f_narrow fx136 ch64 hR hI hZl (by omega) hF hM) ?_
    rintro v I1 J1 R1 hHv
    obtain ⟨hRe, hfi, hfj, hD⟩ := id hHv
    subst hRe
    have hk1 := HvP.k fx136 hHv
    have hI := hI.fx ch64 fx136 hfi hfj
    have hIq := hIq.fx ch88 fx136 hfi hfj
    have hN := hN.fxx (by decide) hfi hfj
    rcases hD with ⟨s', hfs, rfl, hM1⟩ | ⟨hfs, rfl⟩
    · rw [hfs]
      dsimp only
      have hF1 := fnN_FI hfs hl9 hF
      refine B_eq e149_21 t149_21 (fun q => absurd q (by decide)) (fun _ => ?_)
      refine LA0 e149_24 ?_
      refine Gr e149_25 (o1 L) (hR 1 11 137 rfl) f715 ?_
      refine LA0 e149_28 ?_
      refine Gr e149_29 (o1 L) (hR 1 8 88 rfl) f712 ?_
      refine LI2 e149_32 ?_
      refine LI3 e149_33 ?_
      refine Cv3p e149_34 c149_62 (o137 L) (Nat.le_of_ble_eq_true rfl) (Nat.le_of_ble_eq_true rfl) (f_narrow fx137 ch88 hR hIq hZq (by omega) hG hN) ?_
      rintro v I2 J2 R2 hHv
      obtain ⟨hRe, hfi, hfj, hD⟩ := id hHv
      subst hRe
      have hk2 := HvP.k fx137 hHv
      have hI := hI.fx ch64 fx137 hfi hfj
      have hIq := hIq.fx ch88 fx137 hfi hfj
      have hM1 := hM1.fxx (by decide) hfi hfj
      rcases hD with ⟨z', hfz, rfl, hN1⟩ | ⟨hfz, rfl⟩
      · rw [hfz]
        dsimp only
        have hG1 := fnN_FI hfz hq9 hG
        refine B_ne e149_37 t149_37 (fun _ => ?_) (fun q => absurd (by decide) q)
        refine LA0 e149_44 ?_
        refine Gr e149_45 (o1 L) (hR 1 10 136 rfl) f714 ?_
        refine LA0 e149_48 ?_
        refine Gr e149_49 (o1 L) (hR 1 11 137 rfl) f715 ?_
        refine Cv1 e149_52 c149_69 (o136 L) (Nat.le_of_ble_eq_true rfl) (Nat.le_of_ble_eq_true rfl) ((f_before fx136 fx137 hF1 hM1 hG1 hN1)) ?_
        refine B_eq e149_55 t149_55 (fun h55 => ?_) (fun h55 => ?_)
        · refine LA0 e149_62 ?_
          refine Gr e149_63 (o1 L) (hR 1 11 137 rfl) f715 ?_
          refine LA0 e149_66 ?_
          refine Gr e149_67 (o1 L) (hR 1 10 136 rfl) f714 ?_
          refine Cv1 e149_70 c149_69 (o137 L) (Nat.le_of_ble_eq_true rfl) (Nat.le_of_ble_eq_true rfl) ((f_before fx137 fx136 hG1 hN1 hF1 hM1)) ?_
          refine B_eq e149_73 t149_73 (fun h73 => ?_) (fun h73 => ?_)
          · refine IncN3 (m := t) e149_78 rfl ?_
            refine Go e149_81 t149_81 ?_
            rw [if_neg (bI_z h55), if_neg (bI_z h73)]
            exact (ih (t + 1) s' z' _ _ (by omega) hI hIq hF1 hM1 hG1 hN1).mono (fun v I' J' R' q => q.tr (hk1.tr hk2))
          · refine K1 e149_76 ?_
            exact Rj e149_77 rt149 (by
            rw [if_neg (bI_z h55), if_pos (bI_t h73)]
            exact ⟨rfl, hk1.tr hk2, rfl⟩)
        · refine Kd e149_58 kj2 ?_
          exact Rj e149_61 rt149 (by
          rw [if_pos (bI_t h55)]
          exact ⟨rfl, hk1.tr hk2, rfl⟩)
      · rw [hfz]
        refine B_ne e149_37 t149_37 (fun q => absurd q (fun z => z rfl)) (fun _ => ?_)
        refine Kd e149_40 kj4 ?_
        exact Rj e149_43 rt149 (⟨rfl, hk1.tr hk2, rfl⟩)
    · rw [hfs]
      refine B_eq e149_21 t149_21 (fun _ => ?_) (fun q => absurd (rfl) q)
      refine Kd e149_40 kj4 ?_
      exact Rj e149_43 rt149 (⟨rfl, hk1, rfl⟩)
set_option maxHeartbeats 2000000 in
theorem k_order {i j : Int32} (hR : amRok R) (hZl : LZ l) (hZq : LZ lq) (hI : CI I J 64 l) (hIq : CI I J 88 lq) (hF : FI s) (hM : FSm I J 136 s) (hG : FI z) (hN : FSm I J 137 z) : Cl 149 [.ref 1, .int i, .int j] (amSH L) I J R (KP I J R (.long (orN l lq i j 10 0 s z))) := by
  show Ex 149 0 [some (.ref 1), some (.int i), some (.int j), none] [] (amSH L) I J R _
  refine Ki e149_0 kiconst_0 ?_
  refine SI3 e149_1 rfl ?_
  exact or_lp hR hZl hZq hI.2.2.2.1 hIq.2.2.2.1 10 0 s z I J rfl hI hIq hF hM hG hN
set_option maxHeartbeats 2000000 in
theorem k_alike (hR : amRok R) (hZg : LZ lg) (hIg : CI I J 112 lg) (hF : FI s) (hM : FSm I J 136 s) (hG : FI z) (hN : FSm I J 137 z) : Rv 148 [.ref 1] (amSH L) I J R (.int (bI (decide (alK lg s z)))) := by
  intro Q hQ
  have hp := pt_b hF
  have hq := pt_b hG
  have e3 := iI_t (a := feU s) (by omega)
  have e4 := iI_t (a := feV s) (by omega)
  have e5 := iI_t (a := feU z) (by omega)
  have e6 := iI_t (a := feV z) (by omega)
  have hta : tA lg (feU s) (feV s) ≤ 9 := Nat.le_trans (tA_le _ _ _) hIg.2.2.2.1
  have htb : tA lg (feU z) (feV z) ≤ 9 := Nat.le_trans (tA_le _ _ _) hIg.2.2.2.1
  show Ex 148 0 [some (.ref 1)] [] (amSH L) I J R _
  refine LA0 e148_0 ?_
  refine Gr e148_1 (o1 L) (hR 1 10 136 rfl) f714 ?_
  refine LA0 e148_4 ?_
  refine Gr e148_5 (o1 L) (hR 1 9 112 rfl) f713 ?_
  refine Cv1 e148_8 c148_68 (o136 L) (Nat.le_of_ble_eq_true rfl) (Nat.le_of_ble_eq_true rfl) ((f_holds fx136 ch112 hR hIg hZg hF hM)) ?_
  refine B_eq e148_11 t148_11 (fun h11 => ?_) (fun h11 => ?_)
  · refine Ki e148_28 kiconst_0 ?_
    exact Rz e148_29 rt148 (by decide) (by
    have e : bI (decide (alK lg s z)) = 0 := by
      rw [decide_eq_false]
      · rfl
      · exact fun q => by first | exact q.1 (Decidable.not_not.mp h11) | exact q.1 h11 | exact h25 q.2.1 | exact q.2.1 (Decidable.not_not.mp h25)
    rw [e] at hQ
    exact hQ)
  · refine LA0 e148_14 ?_
    refine Gr e148_15 (o1 L) (hR 1 11 137 rfl) f715 ?_
    refine LA0 e148_18 ?_
    refine Gr e148_19 (o1 L) (hR 1 9 112 rfl) f713 ?_
    refine Cv1 e148_22 c148_68 (o137 L) (Nat.le_of_ble_eq_true rfl) (Nat.le_of_ble_eq_true rfl) ((f_holds fx137 ch112 hR hIg hZg hG hN)) ?_
    refine B_ne e148_25 t148_25 (fun h25 => ?_) (fun h25 => ?_)
    · refine LA0 e148_30 ?_
      refine Gr e148_31 (o1 L) (hR 1 9 112 rfl) f713 ?_
      refine LA0 e148_34 ?_
      refine Gr e148_35 (o1 L) (hR 1 10 136 rfl) f714 ?_
      refine Cv0 e148_38 c148_66 (o136 L) (Nat.le_of_ble_eq_true rfl) (Nat.le_of_ble_eq_true rfl) ((f_endU fx136 hF hM)) ?_
      refine LA0 e148_41 ?_
      refine Gr e148_42 (o1 L) (hR 1 10 136 rfl) f714 ?_
      refine Cv0 e148_45 c148_67 (o136 L) (Nat.le_of_ble_eq_true rfl) (Nat.le_of_ble_eq_true rfl) ((f_endV fx136 hF hM)) ?_
      refine Cv2 e148_48 c148_34 (o112 L) (Nat.le_of_ble_eq_true rfl) (Nat.le_of_ble_eq_true rfl) ((h_turnsAt ch112 hR hIg.2.2.2.2.1 (by have := hIg.2.2.2.1; omega) hIg.1 hIg.2.1.lb hZg (by rw [e4]; omega) (by rw [e4]; omega))) ?_
      rw [e3, e4]
      refine LA0 e148_51 ?_
      refine Gr e148_52 (o1 L) (hR 1 9 112 rfl) f713 ?_
      refine LA0 e148_55 ?_
      refine Gr e148_56 (o1 L) (hR 1 11 137 rfl) f715 ?_
      refine Cv0 e148_59 c148_66 (o137 L) (Nat.le_of_ble_eq_true rfl) (Nat.le_of_ble_eq_true rfl) ((f_endU fx137 hG hN)) ?_
      refine LA0 e148_62 ?_
      refine Gr e148_63 (o1 L) (hR 1 11 137 rfl) f715 ?_
      refine Cv0 e148_66 c148_67 (o137 L) (Nat.le_of_ble_eq_true rfl) (Nat.le_of_ble_eq_true rfl) ((f_endV fx137 hG hN)) ?_
      refine Cv2 e148_69 c148_34 (o112 L) (Nat.le_of_ble_eq_true rfl) (Nat.le_of_ble_eq_true rfl) ((h_turnsAt ch112 hR hIg.2.2.2.2.1 (by have := hIg.2.2.2.1; omega) hIg.1 hIg.2.1.lb hZg (by rw [e6]; omega) (by rw [e6]; omega))) ?_
      rw [e5, e6]
      refine CN_ne (a := (tA lg (feU s) (feV s))) (b := (tA lg (feU z) (feV z))) e148_72 t148_72 rfl rfl (by omega) (by omega) (fun h72 => ?_) (fun h72 => ?_)
      · refine Ki e148_79 kiconst_0 ?_
        exact Rz e148_80 rt148 (by decide) (by
        have e : bI (decide (alK lg s z)) = 0 := by
          rw [decide_eq_false]
          · rfl
          · exact fun q => by have := q.2.2; omega
        rw [e] at hQ
        exact hQ)
      · refine Ki e148_75 kiconst_1 ?_
        refine Go e148_76 t148_76 ?_
        exact Rz e148_80 rt148 (by decide) (by
        have e : bI (decide (alK lg s z)) = 1 := by
          rw [decide_eq_true]
          · rfl
          · exact ⟨h11, h25, by omega⟩
        rw [e] at hQ
        exact hQ)
    · refine Ki e148_28 kiconst_0 ?_
      exact Rz e148_29 rt148 (by decide) (by
      have e : bI (decide (alK lg s z)) = 0 := by
        rw [decide_eq_false]
        · rfl
        · exact fun q => by first | exact q.1 (Decidable.not_not.mp h11) | exact q.1 h11 | exact h25 q.2.1 | exact q.2.1 (Decidable.not_not.mp h25)
      rw [e] at hQ
      exact hQ)
end CALLS5
