/-! the reference: chains (printed by wip/whole/t70.py) -/
/-- the list stands in the block B -/
def MW (I : amI) (J : amJ) (B : Nat) (l : List Po) : Prop := I 184 B = nI l.length ∧ 1 ≤ l.length ∧ l.length ≤ 5 ∧ (∀ k, k < l.length → JP J (166 + (6 * B + k)) (l.getD k zP)) ∧ LPb l ∧ (∀ k, k < l.length → 0 < sz (l.getD k zP))
theorem MW.mi {I : amI} {J : amJ} {B : Nat} {l : List Po} (h : MW I J B l) (hz : LZ l) : MI I J B l := ⟨h.1, h.2.1, h.2.2.1, h.2.2.2.1, h.2.2.2.2.1, h.2.2.2.2.2, hz⟩
def GoF (B : Nat) (I I' : amI) : Prop := ∀ y i, ¬ (y = 152 ∧ i = 9) → ¬ (y = 184 ∧ i = B) → I' y i = I y i
theorem GoF.rf {B : Nat} {I : amI} : GoF B I I := fun _ _ _ _ => rfl
theorem GoF.tr {B : Nat} {I I1 I2 : amI} (h1 : GoF B I I1) (h2 : GoF B I1 I2) : GoF B I I2 := fun y i a b => (h2 y i a b).trans (h1 y i a b)
theorem FlI.go {B : Nat} {I I1 : amI} (h : FlI I I1) : GoF B I I1 := fun y i a _ => h y i a
theorem GoF.up {B : Nat} {I I1 : amI} {v : Int32} (h : GoF B I I1) : GoF B I (amU I1 184 B v) := fun y i a b => by
  rw [← h y i a b]
  unfold amU
  rw [if_neg b]
/-- the block's rows -/
def FrMb (B : Nat) (J J' : amJ) : Prop := ∀ y, y < 166 + 6 * B ∨ 166 + 6 * B + 6 ≤ y → J' y = J y
theorem FrMb.rf {B : Nat} {J : amJ} : FrMb B J J := fun _ _ => rfl
theorem FrMb.tr {B : Nat} {J J1 J2 : amJ} (h1 : FrMb B J J1) (h2 : FrMb B J1 J2) : FrMb B J J2 := fun y a => (h2 y a).trans (h1 y a)
theorem Fr.mb {B k : Nat} {J J1 : amJ} (h : Fr J J1 (166 + (6 * B + k))) (hk : k < 6) : FrMb B J J1 := fun y a => h y (by omega)
def GoP (I : amI) (J : amJ) (B : Nat) (o : Option (List Po)) (I' : amI) (J' : amJ) : Prop := GoF B I I' ∧ FrMb B J J' ∧ ((∃ t, o = some t ∧ I' 152 9 = 0 ∧ MW I' J' B t) ∨ (o = none ∧ I' 152 9 = 1))
theorem GoP.tr {I I1 I' : amI} {J J1 J' : amJ} {B : Nat} {o : Option (List Po)} (h : GoP I1 J1 B o I' J') (h1 : GoF B I I1) (h2 : FrMb B J J1) : GoP I J B o I' J' := ⟨h1.tr h.1, h2.tr h.2.1, h.2.2⟩
section REF7
variable {L : Nat} {I : amI} {J : amJ} {R : amR} {Q : amQ} {a B : Nat} {p f : Po} {l : List Po}
set_option maxHeartbeats 2000000 in
theorem m_goes_lp (hR : amRok R) (hB3 : B < 3) : ∀ (m n : Nat) (l : List Po) (b : Po) (I : amI) (J : amJ) (l3 : Option Value), sz b < m → l.length = n → 1 ≤ n → n + sz b ≤ 5 → MW I J B (l ++ [b]) → I 152 9 = 0 → Ex 183 5 [some (.ref 152), some (.int (nI B)), some (.int (nI (6 * B))), l3] [] (amSH L) I J R (fun v I' J' R' => v = none ∧ R' = R ∧ GoP I J B ((exN m (l.getD (n - 1) zP) b).map (l ++ ·)) I' J') := by
  intro m
  induction m with
  | zero => intro n l b I J l3 h; omega
  | succ m ih =>
    intro n l b I J l3 hm hn h1 h5 hM hf
    obtain ⟨g1, g2, g3, g4, g5, g6⟩ := hM
    have hln : (l ++ [b]).length = n + 1 := by rw [List.length_append, List.length_singleton, hn]
    rw [hln] at g1 g2 g3 g4 g6
    have ga : (l ++ [b]).getD (n - 1) zP = l.getD (n - 1) zP := gd_l (by omega)
    have gb : (l ++ [b]).getD n zP = b := by rw [← hn]; exact gd_r
    have ha := g4 (n - 1) (by omega)
    have hb := g4 n (by omega)
    have haB := g5 (n - 1) (by omega)
    have hbB := g5 n (by omega)
    have h0 := g6 n (by omega)
    rw [ga] at ha haB
    rw [gb] at hb hbB h0
    refine LA0 e183_5 ?_
    refine Gi e183_6 (o152 L) (amGi_of f777 (by decide)) ?_
    rw [hf]
    refine B_ne e183_9 t183_9 (fun q => absurd q ((fun z => z rfl))) (fun _ => ?_)
    refine LA0 e183_12 ?_
    refine Gr e183_13 (o152 L) (hR 152 17 184 rfl) f785 ?_
    refine LI1 e183_16 ?_
    refine AiN (k := B) e183_17 (o184 L) rfl (by omega) (by decide) ?_
    rw [g1]
    refine SI3 e183_18 rfl ?_
    refine LA0 e183_19 ?_
    refine LA0 e183_20 ?_
    refine Gr e183_21 (o152 L) (hR 152 16 165 rfl) f784 ?_
    refine LI2 e183_24 ?_
    refine LI3 e183_25 ?_
    refine IaddN (a := (6 * B)) (b := (n + 1)) e183_26 rfl rfl ?_
    refine Ki e183_27 kiconst_2 ?_
    refine IsubN (a := ((6 * B) + (n + 1))) (b := 2) e183_28 rfl (by decide) (by omega) ?_
    refine ArN (k := 6 * B + (n - 1)) e183_29 (o165 L) (by decide) (by rw [show 6 * B + (n + 1) - 2 = 6 * B + (n - 1) from by omega]) (by omega) (by decide) (mrow hR (6 * B + (n - 1)) (by omega)) ?_
    refine LA0 e183_30 ?_
    refine Gr e183_31 (o152 L) (hR 152 16 165 rfl) f784 ?_
    refine LI2 e183_34 ?_
    refine LI3 e183_35 ?_
    refine IaddN (a := (6 * B)) (b := (n + 1)) e183_36 rfl rfl ?_
    refine Ki e183_37 kiconst_1 ?_
    refine IsubN (a := ((6 * B) + (n + 1))) (b := 1) e183_38 rfl (by decide) (by omega) ?_
    refine ArN (k := 6 * B + (n)) e183_39 (o165 L) (by decide) (by rw [show 6 * B + (n + 1) - 1 = 6 * B + n from by omega]) (by omega) (by decide) (mrow hR (6 * B + (n)) (by omega)) ?_
    refine LA0 e183_40 ?_
    refine Gr e183_41 (o152 L) (hR 152 16 165 rfl) f784 ?_
    refine LI2 e183_44 ?_
    refine LI3 e183_45 ?_
    refine IaddN (a := (6 * B)) (b := (n + 1)) e183_46 rfl rfl ?_
    refine ArN (k := 6 * B + (n + 1)) e183_47 (o165 L) (by decide) (by first | rfl | rw [show 6 * B + (n + 1) = 6 * B + (n + 1) from rfl]) (by omega) (by decide) (mrow hR (6 * B + (n + 1)) (by omega)) ?_
    refine Cv3p e183_48 c183_179 (o152 L) (Nat.le_of_ble_eq_true rfl) (Nat.le_of_ble_eq_true rfl) (m_remainder (mo (6 * B + (n - 1)) (by omega)) (mo (6 * B + n) (by omega)) (mo (6 * B + (n + 1)) (by omega)) (by omega) (by omega) ha hb (haB.mono (by decide)) hbB h0 hf) ?_
    rintro _ I1 J1 R1 ⟨rfl, hR1, hG1, hF1, hD⟩
    subst hR1
    rcases hD with ⟨r, hr, hf1, hP1⟩ | ⟨hr, hf1, r, hrB, hP1⟩
    · skip
      refine LA0 e183_51 ?_
      refine Gi e183_52 (o152 L) (amGi_of f777 (by decide)) ?_
      rw [hf1]
      refine B_ne e183_55 t183_55 (fun q => absurd q ((fun z => z rfl))) (fun _ => ?_)
      refine LA0 e183_58 ?_
      refine Gr e183_59 (o152 L) (hR 152 16 165 rfl) f784 ?_
      refine LI2 e183_62 ?_
      refine LI3 e183_63 ?_
      refine IaddN (a := (6 * B)) (b := (n + 1)) e183_64 rfl rfl ?_
      refine ArN (k := 6 * B + (n + 1)) e183_65 (o165 L) (by decide) (by first | rfl | rw [show 6 * B + (n + 1) = 6 * B + (n + 1) from rfl]) (by omega) (by decide) (mrow hR (6 * B + (n + 1)) (by omega)) ?_
      refine Cs1 e183_66 c183_173 (Nat.le_of_ble_eq_true rfl) (Nat.le_of_ble_eq_true rfl) ((m_degree (mo (6 * B + (n + 1)) (by omega)) hP1 ((rem_PB hr).mono (by decide)))) ?_
      refine B_ge e183_69 t183_69 (fun h69 => ?_) (fun h69 => ?_)
      · refine LA0 e183_73 ?_
        refine Gr e183_74 (o152 L) (hR 152 16 165 rfl) f784 ?_
        refine LI2 e183_77 ?_
        refine LI3 e183_78 ?_
        refine IaddN (a := (6 * B)) (b := (n + 1)) e183_79 rfl rfl ?_
        refine ArN (k := 6 * B + (n + 1)) e183_80 (o165 L) (by decide) (by first | rfl | rw [show 6 * B + (n + 1) = 6 * B + (n + 1) from rfl]) (by omega) (by decide) (mrow hR (6 * B + (n + 1)) (by omega)) ?_
        refine Cs1p e183_81 c183_176 (Nat.le_of_ble_eq_true rfl) (Nat.le_of_ble_eq_true rfl) (m_turns (mo (6 * B + (n + 1)) (by omega)) hP1) ?_
        rintro _ I2 J2 R2 ⟨rfl, hI2, hR2, hF2, hP2⟩
        subst hI2
        subst hR2
        have hl1 : _ = nI (n + 1) := (hG1 184 B (by omega)).trans g1
        refine LA0 e183_84 ?_
        refine Gr e183_85 (o152 L) (hR 152 17 184 rfl) f785 ?_
        refine LI1 e183_88 ?_
        refine Dup2 e183_89 ⟨rfl, rfl⟩ ?_
        refine AiN (k := B) e183_90 (o184 L) rfl (by omega) (by decide) ?_
        rw [hl1]
        refine Ki e183_91 kiconst_1 ?_
        refine IaddN (a := (n + 1)) (b := 1) e183_92 rfl (by decide) ?_
        refine WiN (k := B) e183_93 (o184 L) rfl (by omega) (by decide) ?_
        refine Go e183_94 t183_94 ?_
        have hr1 : 0 < sz r := by
          rcases Nat.eq_zero_or_pos (sz r) with z | z
          · exfalso
            rw [z] at h69
            revert h69
            decide
          · exact z
        have hrs := rem_sz hr h0
        refine (ih (n + 1) (l ++ [b]) (ng r) _ _ _ (by rw [sz_ng]; omega) hln (by omega) (by rw [sz_ng]; omega) ⟨by rw [amU_same, List.length_append, List.length_singleton, hln], by rw [List.length_append]; omega, by rw [List.length_append, List.length_singleton, hln]; omega, fun k hk => ?_, g5.snoc (ng_PB (rem_PB hr)), fun k hk => ?_⟩ ?_).mono (fun v I' J' R' hp => ⟨hp.1, hp.2.1, ?_⟩)
        · rw [List.length_append, List.length_singleton, hln] at hk
          by_cases e : k = n + 1
          · subst e
            rw [show n + 1 = (l ++ [b]).length from hln.symm, gd_r, hln]
            exact hP2
          · rw [gd_l (by omega)]
            exact ((g4 k (by omega)).fr hF1 (by omega)).fr hF2 (by omega)
        · rw [List.length_append, List.length_singleton, hln] at hk
          by_cases e : k = n + 1
          · subst e
            rw [show n + 1 = (l ++ [b]).length from hln.symm, gd_r, sz_ng]
            exact hr1
          · rw [gd_l (by omega)]
            exact g6 k (by omega)
        · rw [amU_ne (by decide)]
          exact hf1
        · have hp2 := hp.2.2
          rw [Nat.add_sub_cancel, gb] at hp2
          have he : (exN (m + 1) (l.getD (n - 1) zP) b).map (l ++ ·) = (exN m b (ng r)).map ((l ++ [b]) ++ ·) := by
            rw [exN, if_neg (by omega), hr]
            dsimp only
            cases exN m b (ng r) with
            | none => rfl
            | some t => simp
          rw [he]
          exact hp2.tr (hG1.go.tr GoF.rf.up) ((hF1.mb (by omega)).tr (hF2.mb (by omega)))
      · exact Rvd e183_72 rt183 (by
        have hr0 : sz r = 0 := by
          rcases Nat.eq_zero_or_pos (sz r) with z | z
          · exact z
          · exact absurd (by rw [i32le, dI_toInt (by have := sz_le r; omega), show (0 : Int32).toInt = 0 from rfl]; omega) h69
        have he : (exN (m + 1) (l.getD (n - 1) zP) b).map (l ++ ·) = some (l ++ [b]) := by
          rw [exN, if_neg (by omega), hr]
          dsimp only
          have e2 : exN m b (ng r) = some [] := by
            cases m with
            | zero => rw [exN]
            | succ m => rw [exN, if_pos (by rw [sz_ng]; exact hr0)]
          rw [e2]
          rfl
        rw [he]
        exact ⟨rfl, rfl, hG1.go, hF1.mb (by omega), Or.inl ⟨_, rfl, hf1, by rw [hln]; exact (hG1 184 B (by omega)).trans g1, by omega, by omega, fun k hk => (g4 k (by omega)).fr hF1 (by omega), g5, fun k hk => g6 k (by omega)⟩⟩)
    · skip
      refine LA0 e183_51 ?_
      refine Gi e183_52 (o152 L) (amGi_of f777 (by decide)) ?_
      rw [hf1]
      refine B_ne e183_55 t183_55 (fun _ => ?_) (fun q => absurd (by decide) q)
      exact Rvd e183_72 rt183 (by
      have he : (exN (m + 1) (l.getD (n - 1) zP) b).map (l ++ ·) = none := by
        rw [exN, if_neg (by omega), hr]
        rfl
      rw [he]
      exact ⟨rfl, rfl, hG1.go, hF1.mb (by omega), Or.inr ⟨rfl, hf1⟩⟩)
set_option maxHeartbeats 2000000 in
theorem m_goesOn (hR : amRok R) (hB3 : B < 3) {n : Nat} {b : Po} (hn : l.length = n) (h1 : 1 ≤ n) (h5 : n + sz b ≤ 5) (hM : MW I J B (l ++ [b])) (hf : I 152 9 = 0) : Cl 183 [.ref 152, .int (nI B)] (amSH L) I J R (fun v I' J' R' => v = none ∧ R' = R ∧ GoP I J B ((exN 10 (l.getD (n - 1) zP) b).map (l ++ ·)) I' J') := by
  show Ex 183 0 [some (.ref 152), some (.int (nI B)), none, none] [] (amSH L) I J R _
  refine Ki e183_0 kbipush_6 ?_
  refine LI1 e183_2 ?_
  refine ImulN (a := 6) (b := B) e183_3 (by decide) rfl ?_
  refine SI2 e183_4 rfl ?_
  exact m_goes_lp hR hB3 10 n l b _ _ _ (by omega) hn h1 h5 hM hf
set_option maxHeartbeats 2000000 in
theorem m_goesFull (hf : I 152 9 = 1) (hB3 : B < 3) : Cl 183 [.ref 152, .int (nI B)] (amSH L) I J R (fun v I' J' R' => v = none ∧ R' = R ∧ I' = I ∧ J' = J) := by
  show Ex 183 0 [some (.ref 152), some (.int (nI B)), none, none] [] (amSH L) I J R _
  refine Ki e183_0 kbipush_6 ?_
  refine LI1 e183_2 ?_
  refine ImulN (a := 6) (b := B) e183_3 (by decide) rfl ?_
  refine SI2 e183_4 rfl ?_
  refine LA0 e183_5 ?_
  refine Gi e183_6 (o152 L) (amGi_of f777 (by decide)) ?_
  rw [hf]
  refine B_ne e183_9 t183_9 (fun _ => ?_) (fun q => absurd (by decide) q)
  exact Rvd e183_97 rt183 (⟨rfl, rfl, rfl, rfl⟩)
/-- what chains() leaves -/
def ChP (I : amI) (J : amJ) (B : Nat) (o : Option (List Po)) (I' : amI) (J' : amJ) : Prop := GoF B I I' ∧ (∀ y, y ∉ [159, 160, 161, 162, 163, 164] → y < 166 + 6 * B ∨ 166 + 6 * B + 6 ≤ y → J' y = J y) ∧ ((∃ t, o = some t ∧ I' 152 9 = 0 ∧ MI I' J' B t) ∨ (o = none ∧ I' 152 9 = 1))
theorem dc_sz {f : Po} (h : 1 < sz f) : sz (cln (der f)) + 1 = sz f ∧ 0 < sz (cln (der f)) := by
  have h9 := sz_le f
  have e : sz (der f) = sz f - 1 := sz_of (by omega) (fun k g1 g2 => by
    unfold der
    split
    · rw [sz_zero (p := f) (by omega) (by omega), Int.zero_mul]
    · rfl) (Or.inr (by
    unfold der
    rw [if_pos (by omega), show sz f - 1 - 1 + 1 = sz f - 1 by omega]
    intro z
    rcases Int.mul_eq_zero.mp z with z | z
    · exact sz_head (p := f) (by omega) z
    · omega))
  rw [cln_szz, e]
  omega
theorem chn_1 {p f : Po} (h : fre p = some f) (h1 : sz f = 1) : chn p = some [f] := by
  have hz : ∀ k, k < 9 → der f k = 0 := fun k hk => by
    unfold der
    split
    · rw [sz_zero (p := f) (by omega) (by omega), Int.zero_mul]
    · rfl
  have hc : sz (cln (der f)) = 0 := by
    rw [cln_szz]
    exact sz_of (m := 0) (by omega) (fun k _ g2 => hz k g2) (Or.inl rfl)
  unfold chn
  rw [h]
  dsimp only
  have hft : fit (der f) = true := fitN_iff.mpr (fun k hk => by rw [sz_zero (p := cln (der f)) (by omega) hk]; decide)
  rw [if_pos hft, exN, if_pos hc]
  rfl
set_option maxHeartbeats 2000000 in
theorem m_chains (hR : amRok R) (hB3 : B < 3) (ha : amA (amSH L) a 1 9) (ha7 : a ≠ 163) (hp : JP J a p) (hpB : PB 1000000 p) (hp0 : 0 < sz p) (hp5 : sz p ≤ 5) (hf : I 152 9 = 0) : Cl 184 [.ref 152, .int (nI B), .ref a] (amSH L) I J R (fun v I' J' R' => v = none ∧ R' = R ∧ ChP I J B (chn p) I' J') := by
  have hLZ : ∀ l, chn p = some l → LZ l := fun l h => chn_LZ h hp0 hp5
  show Ex 184 0 [some (.ref 152), some (.int (nI B)), some (.ref a), none] [] (amSH L) I J R _
  refine Ki e184_0 kbipush_6 ?_
  refine LI1 e184_2 ?_
  refine ImulN (a := 6) (b := B) e184_3 (by decide) rfl ?_
  refine SI3 e184_4 rfl ?_
  refine LA0 e184_5 ?_
  refine Gr e184_6 (o152 L) (hR 152 17 184 rfl) f785 ?_
  refine LI1 e184_9 ?_
  refine Ki e184_10 kiconst_1 ?_
  refine WiN (k := B) e184_11 (o184 L) rfl (by omega) (by decide) ?_
  refine LA0 e184_12 ?_
  refine LA2 e184_13 ?_
  refine LA0 e184_14 ?_
  refine Gr e184_15 (o152 L) (hR 152 16 165 rfl) f784 ?_
  refine LI3 e184_18 ?_
  refine ArN (k := 6 * B + 0) e184_19 (o165 L) (by decide) rfl (by omega) (by decide) (mrow hR (6 * B + 0) (by omega)) ?_
  refine Cv2p e184_20 c184_182 (o152 L) (Nat.le_of_ble_eq_true rfl) (Nat.le_of_ble_eq_true rfl) (m_frees hR ha (mo (6 * B + 0) (by omega)) ha7 ⟨by omega, by omega, by omega, by omega, by omega, by omega⟩ hp hpB (fr_ok hp5) (by rw [amU_ne (by decide)]; exact hf)) ?_
  rintro _ I1 J1 R1 ⟨rfl, hR1, hG1, hF1, hD⟩
  subst hR1
  have hGF : GoF B I I1 := GoF.rf.up.tr hG1.go
  have hFF : ∀ y, y ∉ [159, 160, 161, 162, 163, 164] → y < 166 + 6 * B ∨ 166 + 6 * B + 6 ≤ y → J1 y = J y := fun y g1 g2 => hF1 y (by simp at g1 ⊢; omega)
  have hl1 : I1 184 B = 1 := (hG1 184 B (by omega)).trans amU_same
  rcases hD with ⟨f, hr, hf1, hP1⟩ | ⟨hr, hf1⟩
  · obtain ⟨hf0, hf5⟩ := fre_sz hr hp0 hp5
    refine LA0 e184_23 ?_
    refine Gi e184_24 (o152 L) (amGi_of f777 (by decide)) ?_
    rw [hf1]
    refine B_ne e184_27 t184_27 (fun q => absurd q ((fun z => z rfl))) (fun _ => ?_)
    refine LA0 e184_30 ?_
    refine Gr e184_31 (o152 L) (hR 152 16 165 rfl) f784 ?_
    refine LI3 e184_34 ?_
    refine ArN (k := 6 * B + 0) e184_35 (o165 L) (by decide) rfl (by omega) (by decide) (mrow hR (6 * B + 0) (by omega)) ?_
    refine Cs1 e184_36 c184_173 (Nat.le_of_ble_eq_true rfl) (Nat.le_of_ble_eq_true rfl) ((m_degree (mo (6 * B + 0) (by omega)) hP1 ((fre_PB hr).mono (by decide)))) ?_
    refine Ki e184_39 kiconst_1 ?_
    refine C_ge e184_40 t184_40 (fun h40 => ?_) (fun h40 => ?_)
    · refine LA0 e184_44 ?_
      refine Gr e184_45 (o152 L) (hR 152 16 165 rfl) f784 ?_
      refine LI3 e184_48 ?_
      refine ArN (k := 6 * B + 0) e184_49 (o165 L) (by decide) rfl (by omega) (by decide) (mrow hR (6 * B + 0) (by omega)) ?_
      refine LA0 e184_50 ?_
      refine Gr e184_51 (o152 L) (hR 152 16 165 rfl) f784 ?_
      refine LI3 e184_54 ?_
      refine Ki e184_55 kiconst_1 ?_
      refine IaddN (a := (6 * B)) (b := 1) e184_56 rfl (by decide) ?_
      refine ArN (k := 6 * B + (1)) e184_57 (o165 L) (by decide) rfl (by omega) (by decide) (mrow hR (6 * B + (1)) (by omega)) ?_
      refine Cs2p e184_58 c184_178 (Nat.le_of_ble_eq_true rfl) (Nat.le_of_ble_eq_true rfl) (m_derives (mo (6 * B + 1) (by omega)) (mo (6 * B + 0) (by omega)) (by omega) hP1) ?_
      rintro _ I2 J2 R2 ⟨rfl, hI2, hR2, hF2, hP2⟩
      subst hI2
      subst hR2
      have hdB : PB 4000000000000000000 (der f) := (der_PB (fre_PB hr)).mono (by decide)
      refine LA0 e184_61 ?_
      refine LA0 e184_62 ?_
      refine Gr e184_63 (o152 L) (hR 152 16 165 rfl) f784 ?_
      refine LI3 e184_66 ?_
      refine Ki e184_67 kiconst_1 ?_
      refine IaddN (a := (6 * B)) (b := 1) e184_68 rfl (by decide) ?_
      refine ArN (k := 6 * B + (1)) e184_69 (o165 L) (by decide) rfl (by omega) (by decide) (mrow hR (6 * B + (1)) (by omega)) ?_
      refine Cv1p e184_70 c184_175 (o152 L) (Nat.le_of_ble_eq_true rfl) (Nat.le_of_ble_eq_true rfl) (m_cleans (f := false) (mo (6 * B + 1) (by omega)) hP2 hdB hf1) ?_
      rintro _ I3 J3 R3 ⟨rfl, hR3, hG3, hf3, hF3, hP3⟩
      subst hR3
      rw [Bool.false_or] at hf3
      refine LA0 e184_73 ?_
      refine Gr e184_74 (o152 L) (hR 152 17 184 rfl) f785 ?_
      refine LI1 e184_77 ?_
      refine Ki e184_78 kiconst_2 ?_
      refine WiN (k := B) e184_79 (o184 L) rfl (by omega) (by decide) ?_
      refine LA0 e184_80 ?_
      refine LI1 e184_81 ?_
      have hf9 : 1 < sz f := by
        rcases Nat.lt_or_ge 1 (sz f) with z | z
        · exact z
        · exfalso
          have e : sz f = 1 := by omega
          rw [e] at h40
          revert h40
          decide
      have hFF2 : ∀ y, y ∉ [159, 160, 161, 162, 163, 164] → y < 166 + 6 * B ∨ 166 + 6 * B + 6 ≤ y → J3 y = J y := fun y g1 g2 => by
        rw [hF3 y (by omega), hF2 y (by omega)]
        exact hFF y g1 g2
      by_cases g : fit (der f) = true
      · rw [g] at hf3
        have hch : chn p = (exN 10 f (cln (der f))).map ([f] ++ ·) := by
          unfold chn
          rw [hr]
          dsimp only
          rw [if_pos g]
        have hds : sz (cln (der f)) + 1 = sz f ∧ 0 < sz (cln (der f)) := dc_sz hf9
        have hM : MW (amU I3 184 B 2) J3 B ([f] ++ [cln (der f)]) := ⟨by rw [amU_same]; rfl, Nat.le_of_ble_eq_true rfl, Nat.le_of_ble_eq_true rfl, fun k hk => by
          have hk2 : k < 2 := hk
          rcases Nat.lt_or_ge k 1 with z | z
          · have e : k = 0 := by omega
            subst e
            exact (hP1.fr hF2 (by omega)).fr hF3 (by omega)
          · have e : k = 1 := by omega
            subst e
            exact hP3, fun k hk => by
          have hk2 : k < 2 := hk
          rcases Nat.lt_or_ge k 1 with z | z
          · have e : k = 0 := by omega
            subst e
            exact fre_PB hr
          · have e : k = 1 := by omega
            subst e
            exact fit_PB g, fun k hk => by
          have hk2 : k < 2 := hk
          rcases Nat.lt_or_ge k 1 with z | z
          · have e : k = 0 := by omega
            subst e
            exact hf0
          · have e : k = 1 := by omega
            subst e
            exact hds.2⟩
        refine Cv1p e184_82 c184_183 (o152 L) (Nat.le_of_ble_eq_true rfl) (Nat.le_of_ble_eq_true rfl) (m_goesOn (n := 1) (l := [f]) hR hB3 rfl (by decide) (by omega) hM (by rw [amU_ne (by decide)]; exact hf3)) ?_
        rintro _ I4 J4 R4 ⟨rfl, hR4, hG4, hF4, hD⟩
        subst hR4
        exact Rvd e184_85 rt184 (by
        refine ⟨rfl, rfl, (hGF.tr hG3.go).up.tr hG4, fun y g1 g2 => (hF4 y g2).trans (hFF2 y g1 g2), ?_⟩
        rw [hch]
        rcases hD with ⟨t, e1, e2, e3⟩ | ⟨e1, e2⟩
        · exact Or.inl ⟨t, e1, e2, e3.mi (hLZ _ (hch.trans e1))⟩
        · exact Or.inr ⟨e1, e2⟩)
      · rw [Bool.not_eq_true] at g
        rw [g] at hf3
        refine Cv1p e184_82 c184_183 (o152 L) (Nat.le_of_ble_eq_true rfl) (Nat.le_of_ble_eq_true rfl) (m_goesFull (by rw [amU_ne (by decide)]; exact hf3) hB3) ?_
        rintro _ I4 J4 R4 ⟨rfl, hR4, hI4, hJ4⟩
        subst hR4
        subst hI4
        subst hJ4
        exact Rvd e184_85 rt184 (by
        refine ⟨rfl, rfl, (hGF.tr hG3.go).up, hFF2, Or.inr ⟨?_, by rw [amU_ne (by decide)]; exact hf3⟩⟩
        unfold chn
        rw [hr]
        dsimp only
        rw [if_neg (by rw [g]; decide)])
    · exact Rvd e184_43 rt184 (by
      have hr0 : sz f = 1 := by
        rcases Nat.lt_or_ge 1 (sz f) with z | z
        · exact absurd (by rw [i32le, dI_toInt (by omega), show (1 : Int32).toInt = 1 from rfl]; omega) h40
        · omega
      have hc := chn_1 hr hr0
      refine ⟨rfl, rfl, hGF, hFF, Or.inl ⟨_, hc, hf1, ?_⟩⟩
      refine MW.mi ⟨hl1, Nat.le_of_ble_eq_true rfl, Nat.le_of_ble_eq_true rfl, fun k hk => ?_, fun k hk => ?_, fun k hk => ?_⟩ (hLZ _ hc)
      · have e : k = 0 := Nat.lt_one_iff.mp hk
        subst e
        exact hP1
      · have e : k = 0 := Nat.lt_one_iff.mp hk
        subst e
        exact fre_PB hr
      · have e : k = 0 := Nat.lt_one_iff.mp hk
        subst e
        exact hf0)
  · skip
    refine LA0 e184_23 ?_
    refine Gi e184_24 (o152 L) (amGi_of f777 (by decide)) ?_
    rw [hf1]
    refine B_ne e184_27 t184_27 (fun _ => ?_) (fun q => absurd (by decide) q)
    exact Rvd e184_43 rt184 (by
    refine ⟨rfl, rfl, hGF, hFF, Or.inr ⟨?_, hf1⟩⟩
    unfold chn
    rw [hr])
end REF7
