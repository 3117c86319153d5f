/-! the reference: a text (printed by wip/whole/t9d.py) -/
/-- behind a term -/
def txR (T : Nat → Int32) (f k ab : Nat) (p : Po) : Nat ⊕ (Nat × Po) := if T k = 43 ∨ T k = 45 then txN T f (k + 1) (decide (T k = 45)) ab p else .inr (k, p)
theorem txN_s {T : Nat → Int32} {f b ab : Nat} {mi : Bool} {p : Po} : txN T (f + 1) b mi ab p = match trmS T b with
    | .inl e => .inl e
    | .inr (k, r, s) => if r < ab then txR T f k r (pU p r (if mi = true then -(s : Int) else s)) else .inl b := rfl
theorem txN_e {T : Nat → Int32} {f b ab e : Nat} {mi : Bool} {p : Po} (h : trmS T b = .inl e ∨ ((∃ k r s, trmS T b = .inr (k, r, s) ∧ ¬ r < ab) ∧ e = b)) : txN T (f + 1) b mi ab p = .inl e := by
  rw [txN_s]
  rcases h with h | ⟨⟨k, r, s, h, hr⟩, rfl⟩
  · rw [h]
  · rw [h]
    dsimp only
    rw [if_neg hr]
theorem txN_k {T : Nat → Int32} {f b ab k r s : Nat} {mi : Bool} {p : Po} {c : Int} (h : trmS T b = .inr (k, r, s)) (hr : r < ab) (hc : c = if mi = true then -1 else 1) : txN T (f + 1) b mi ab p = txR T f k r (pU p r (c * (s : Int))) := by
  rw [txN_s, h]
  dsimp only
  rw [if_pos hr, hc]
  cases mi
  · rw [if_neg (by decide), if_neg (by decide), Int.one_mul]
  · rw [if_pos rfl, if_pos rfl, Int.neg_mul, Int.one_mul]
/-- what polynomial() leaves -/
def TyP (Ia : amI) (Ja : amJ) (Ra : amR) (o : Nat ⊕ (Nat × Po)) (v : Option Value) (Ia' : amI) (Ja' : amJ) (Ra' : amR) : Prop := v = none ∧ Ra' = Ra ∧ FrW Ia Ia' ∧ Fr Ja Ja' 156 ∧ ((∃ e, o = .inl e ∧ Ia' 152 38 = 1 ∧ Ia' 152 39 = nI e) ∨ ∃ k p, o = .inr (k, p) ∧ Ia' 152 38 = 0 ∧ Ia' 152 37 = nI k ∧ JP Ja' 156 p)
theorem TyP.tr {Ia Ia1 Ia' : amI} {Ja Ja1 Ja' : amJ} {Ra Ra' : amR} {o : Nat ⊕ (Nat × Po)} {v : Option Value} (h : TyP Ia1 Ja1 Ra o v Ia' Ja' Ra') (h1 : FrW Ia Ia1) (h2 : Fr Ja Ja1 156) : TyP Ia Ja Ra o v Ia' Ja' Ra' := ⟨h.1, h.2.1, h1.tr h.2.2.1, h2.tr h.2.2.2.1, h.2.2.2.2⟩
section REF37
variable {L : Nat} {Ia : amI} {Ja : amJ} {Ra : amR} {Q : amQ} {T : Nat → Int32} {n k b e s ab : Nat} {p q : Po}
set_option maxHeartbeats 2000000 in
theorem m_tx_wr {y1 y2 : Option Value} (h : Ia 152 38 = 1) (hQ : Q none Ia Ja Ra) : Ex 224 54 [some (.ref 152), y1, y2] [] (amSH L) Ia Ja Ra Q := by
  refine LA0 e224_54 ?_
  refine Gi e224_55 (o152 L) (amGi_of f806 (by decide)) ?_
  rw [h]
  refine B_ne e224_58 t224_58 (fun _ => ?_) (fun q => absurd (by decide) q)
  exact Rvd e224_112 rt224 (hQ)
set_option maxHeartbeats 2000000 in
theorem m_tx_lp {y1 : Int32} (hR : amRok Ra) : ∀ (f k ab : Nat) (p : Po) (Ia : amI) (Ja : amJ) (l2 : Option Value), ab < f → ab ≤ 5 → k ≤ n → MT Ia T n → Ia 152 38 = 0 → Ia 152 37 = nI k → Ia 152 43 = nI ab → JP Ja 156 p → Ex 224 54 [some (.ref 152), some (.int y1), l2] [] (amSH L) Ia Ja Ra (TyP Ia Ja Ra (txR T f k ab p)) := by
  intro f
  induction f with
  | zero => intro k ab p Ia Ja l2 h; omega
  | succ f ih =>
    intro k ab p Ia Ja l2 hf hab hk hT h0 ha h43 hp
    have hn := hT.2.1
    by_cases h43e : T k = 43
    · have h45 : ¬ T k = 45 := by rw [h43e]; decide
      refine LA0 e224_54 ?_
      refine Gi e224_55 (o152 L) (amGi_of f806 (by decide)) ?_
      rw [h0]
      refine B_ne e224_58 t224_58 (fun q => absurd q (fun z => z rfl)) (fun _ => ?_)
      refine LA0 e224_61 ?_
      refine Cv0 e224_62 c224_221 (o152 L) (Nat.le_of_ble_eq_true rfl) (Nat.le_of_ble_eq_true rfl) ((m_here (b := k) hR hT ha (by omega))) ?_
      refine Ki e224_65 kbipush_43 ?_
      refine C_eq e224_67 t224_67 (fun _ => ?_) (fun q => absurd (h43e) q)
      refine LA0 e224_79 ?_
      refine Cv0 e224_80 c224_221 (o152 L) (Nat.le_of_ble_eq_true rfl) (Nat.le_of_ble_eq_true rfl) ((m_here (b := k) hR hT ha (by omega))) ?_
      refine Ki e224_83 kbipush_43 ?_
      refine C_ne e224_85 t224_85 (fun q => absurd q (fun z => z h43e)) (fun _ => ?_)
      refine Ki e224_88 kiconst_1 ?_
      refine Go e224_89 t224_89 ?_
      refine SI2 e224_93 rfl ?_
      refine LA0 e224_94 ?_
      refine Dup e224_95 rfl ?_
      refine Gi e224_96 (o152 L) (amGi_of f805 (by decide)) ?_
      rw [ha]
      refine Ki e224_99 kiconst_1 ?_
      refine IaddN (a := k) (b := 1) e224_100 rfl (by decide) ?_
      refine Pi e224_101 (o152 L) f805 ?_
      refine LA0 e224_104 ?_
      refine LI2 e224_105 ?_
      refine Cv1p e224_106 c224_223 (o152 L) (Nat.le_of_ble_eq_true rfl) (Nat.le_of_ble_eq_true rfl) (m_term (b := k + 1) (ab := ab) (p := p) (c := 1) hR (hT.w (FrW.rf.up (by omega))) (by omega) amU_same (by rw [up_o (by omega)]; exact h0) (by rw [up_o (by omega)]; exact h43) hab hp (Or.inl ⟨rfl, rfl⟩)) ?_
      rintro v Ia2 Ja2 Ra2 ⟨hv, hR2, hF2, hF3, hD⟩
      subst hv
      have hR2 := hR2.symm
      subst hR2
      have hF2 := (FrW.rf.up (by omega)).tr hF2
      rcases hD with ⟨e, he, hw, hfa⟩ | ⟨k2, r, s, ht, hr, g0, ga, gb, hp2⟩
      · refine Go e224_109 t224_109 ?_
        refine m_tx_wr hw ⟨rfl, rfl, hF2, hF3, Or.inl ⟨e, ?_, hw, hfa⟩⟩
        unfold txR
        rw [if_pos (Or.inl h43e)]
        exact txN_e he
      · refine Go e224_109 t224_109 ?_
        have hk2 := trmS_r hT.2.2 (T_lt hT.2.2 (fun z => by first | (rw [z] at h43e; exact absurd h43e (by decide)) | (rw [z] at h45; exact absurd h45 (by decide)))) ht
        have e3 : txR T (f + 1) k ab p = txR T f k2 r (pU p r (1 * (s : Int))) := by
          unfold txR
          rw [if_pos (Or.inl h43e)]
          exact txN_k ht hr (by rw [decide_eq_false h45]; rfl)
        rw [e3]
        exact (ih k2 r _ Ia2 Ja2 _ (by omega) (by omega) hk2.1 (hT.w hF2) g0 ga gb hp2).mono (fun v Ia' Ja' Ra' hz => hz.tr hF2 hF3)
    · by_cases h45 : T k = 45
      · refine LA0 e224_54 ?_
        refine Gi e224_55 (o152 L) (amGi_of f806 (by decide)) ?_
        rw [h0]
        refine B_ne e224_58 t224_58 (fun q => absurd q (fun z => z rfl)) (fun _ => ?_)
        refine LA0 e224_61 ?_
        refine Cv0 e224_62 c224_221 (o152 L) (Nat.le_of_ble_eq_true rfl) (Nat.le_of_ble_eq_true rfl) ((m_here (b := k) hR hT ha (by omega))) ?_
        refine Ki e224_65 kbipush_43 ?_
        refine C_eq e224_67 t224_67 (fun q => absurd q (h43e)) (fun _ => ?_)
        refine LA0 e224_70 ?_
        refine Cv0 e224_71 c224_221 (o152 L) (Nat.le_of_ble_eq_true rfl) (Nat.le_of_ble_eq_true rfl) ((m_here (b := k) hR hT ha (by omega))) ?_
        refine Ki e224_74 kbipush_45 ?_
        refine C_ne e224_76 t224_76 (fun q => absurd q (fun z => z h45)) (fun _ => ?_)
        refine LA0 e224_79 ?_
        refine Cv0 e224_80 c224_221 (o152 L) (Nat.le_of_ble_eq_true rfl) (Nat.le_of_ble_eq_true rfl) ((m_here (b := k) hR hT ha (by omega))) ?_
        refine Ki e224_83 kbipush_43 ?_
        refine C_ne e224_85 t224_85 (fun _ => ?_) (fun q => absurd (h43e) q)
        refine Ki e224_92 kiconst_m1 ?_
        refine SI2 e224_93 rfl ?_
        refine LA0 e224_94 ?_
        refine Dup e224_95 rfl ?_
        refine Gi e224_96 (o152 L) (amGi_of f805 (by decide)) ?_
        rw [ha]
        refine Ki e224_99 kiconst_1 ?_
        refine IaddN (a := k) (b := 1) e224_100 rfl (by decide) ?_
        refine Pi e224_101 (o152 L) f805 ?_
        refine LA0 e224_104 ?_
        refine LI2 e224_105 ?_
        refine Cv1p e224_106 c224_223 (o152 L) (Nat.le_of_ble_eq_true rfl) (Nat.le_of_ble_eq_true rfl) (m_term (b := k + 1) (ab := ab) (p := p) (c := (-1)) hR (hT.w (FrW.rf.up (by omega))) (by omega) amU_same (by rw [up_o (by omega)]; exact h0) (by rw [up_o (by omega)]; exact h43) hab hp (Or.inr ⟨rfl, rfl⟩)) ?_
        rintro v Ia2 Ja2 Ra2 ⟨hv, hR2, hF2, hF3, hD⟩
        subst hv
        have hR2 := hR2.symm
        subst hR2
        have hF2 := (FrW.rf.up (by omega)).tr hF2
        rcases hD with ⟨e, he, hw, hfa⟩ | ⟨k2, r, s, ht, hr, g0, ga, gb, hp2⟩
        · refine Go e224_109 t224_109 ?_
          refine m_tx_wr hw ⟨rfl, rfl, hF2, hF3, Or.inl ⟨e, ?_, hw, hfa⟩⟩
          unfold txR
          rw [if_pos (Or.inr h45)]
          exact txN_e he
        · refine Go e224_109 t224_109 ?_
          have hk2 := trmS_r hT.2.2 (T_lt hT.2.2 (fun z => by first | (rw [z] at h43e; exact absurd h43e (by decide)) | (rw [z] at h45; exact absurd h45 (by decide)))) ht
          have e3 : txR T (f + 1) k ab p = txR T f k2 r (pU p r ((-1) * (s : Int))) := by
            unfold txR
            rw [if_pos (Or.inr h45)]
            exact txN_k ht hr (by rw [decide_eq_true h45]; rfl)
          rw [e3]
          exact (ih k2 r _ Ia2 Ja2 _ (by omega) (by omega) hk2.1 (hT.w hF2) g0 ga gb hp2).mono (fun v Ia' Ja' Ra' hz => hz.tr hF2 hF3)
      · have e3 : txR T (f + 1) k ab p = .inr (k, p) := by
          unfold txR
          rw [if_neg (fun z => z.elim h43e h45)]
        rw [e3]
        refine LA0 e224_54 ?_
        refine Gi e224_55 (o152 L) (amGi_of f806 (by decide)) ?_
        rw [h0]
        refine B_ne e224_58 t224_58 (fun q => absurd q (fun z => z rfl)) (fun _ => ?_)
        refine LA0 e224_61 ?_
        refine Cv0 e224_62 c224_221 (o152 L) (Nat.le_of_ble_eq_true rfl) (Nat.le_of_ble_eq_true rfl) ((m_here (b := k) hR hT ha (by omega))) ?_
        refine Ki e224_65 kbipush_43 ?_
        refine C_eq e224_67 t224_67 (fun q => absurd q (h43e)) (fun _ => ?_)
        refine LA0 e224_70 ?_
        refine Cv0 e224_71 c224_221 (o152 L) (Nat.le_of_ble_eq_true rfl) (Nat.le_of_ble_eq_true rfl) ((m_here (b := k) hR hT ha (by omega))) ?_
        refine Ki e224_74 kbipush_45 ?_
        refine C_ne e224_76 t224_76 (fun _ => ?_) (fun q => absurd (h45) q)
        exact Rvd e224_112 rt224 (⟨rfl, rfl, FrW.rf, Fr.rf, Or.inr ⟨k, p, rfl, h0, ha, hp⟩⟩)
set_option maxHeartbeats 2000000 in
theorem m_text (hR : amRok Ra) (hT : MT Ia T n) (hb : b ≤ n) (ha : Ia 152 37 = nI b) (h0 : Ia 152 38 = 0) : Cl 224 [.ref 152] (amSH L) Ia Ja Ra (TyP Ia Ja Ra (txtS T b)) := by
  show Ex 224 0 [some (.ref 152), none, none] [] (amSH L) Ia Ja Ra _
  have hn := hT.2.1
  by_cases h18 : T b = 45
  · refine LA0 e224_0 ?_
    refine Gr e224_1 (o152 L) (hR 152 6 156 rfl) f774 ?_
    refine Cs1p e224_4 c224_171 (Nat.le_of_ble_eq_true rfl) (Nat.le_of_ble_eq_true rfl) (m_empties (o156 L)) ?_
    rintro _ Ia1 Ja1 Ra1 ⟨rfl, hI1, hR1, hF1, hP1⟩
    have hI1 := hI1.symm
    subst hI1
    have hR1 := hR1.symm
    subst hR1
    refine LA0 e224_7 ?_
    refine Ki e224_8 kiconst_5 ?_
    refine Pi e224_9 (o152 L) f811 ?_
    refine LA0 e224_12 ?_
    refine Cv0 e224_13 c224_221 (o152 L) (Nat.le_of_ble_eq_true rfl) (Nat.le_of_ble_eq_true rfl) ((m_here (b := b) hR (hT.w (FrW.rf.up (by omega))) (by rw [up_o (by omega)]; exact ha) (by omega))) ?_
    refine Ki e224_16 kbipush_45 ?_
    refine C_ne e224_18 t224_18 (fun q => absurd q (fun z => z h18)) (fun _ => ?_)
    refine Ki e224_21 kiconst_1 ?_
    refine Go e224_22 t224_22 ?_
    refine SI1 e224_26 rfl ?_
    refine LI1 e224_27 ?_
    refine B_eq e224_28 t224_28 (fun q => absurd q (by decide)) (fun _ => ?_)
    refine LA0 e224_31 ?_
    refine Dup e224_32 rfl ?_
    refine Gi e224_33 (o152 L) (amGi_of f805 (by decide)) ?_
    rw [up_o (by omega), ha]
    refine Ki e224_36 kiconst_1 ?_
    refine IaddN (a := b) (b := 1) e224_37 rfl (by decide) ?_
    refine Pi e224_38 (o152 L) f805 ?_
    refine LA0 e224_41 ?_
    refine LI1 e224_42 ?_
    refine B_eq e224_43 t224_43 (fun q => absurd q (by decide)) (fun _ => ?_)
    refine Ki e224_46 kiconst_m1 ?_
    refine Go e224_47 t224_47 ?_
    refine Cv1p e224_51 c224_223 (o152 L) (Nat.le_of_ble_eq_true rfl) (Nat.le_of_ble_eq_true rfl) (m_term (b := b + 1) (ab := 5) (p := zP) (c := (-1)) hR (hT.w ((FrW.rf.up (k := 43) (by omega)).up (k := 37) (by omega))) (by omega) amU_same (by (repeat rw [up_o (by omega)]); exact h0) (by (repeat rw [up_o (by omega)]); exact amU_same) (by omega) hP1 (Or.inr ⟨rfl, rfl⟩)) ?_
    rintro v Ia2 Ja2 Ra2 ⟨hv, hR2, hF2, hF3, hD⟩
    subst hv
    have hR2 := hR2.symm
    subst hR2
    have hF2 := ((FrW.rf.up (k := 43) (by omega)).up (k := 37) (by omega)).tr hF2
    have hF3 := hF1.tr hF3
    rcases hD with ⟨e, he, hw, hfa⟩ | ⟨k2, r, s, ht, hr, g0, ga, gb, hp2⟩
    · refine m_tx_wr hw ⟨rfl, rfl, hF2, hF3, Or.inl ⟨e, ?_, hw, hfa⟩⟩
      unfold txtS
      rw [if_pos h18]
      exact txN_e he
    · have hk2 := trmS_r hT.2.2 (T_lt hT.2.2 (fun z => by rw [z] at h18; exact absurd h18 (by decide))) ht
      have e3 : txtS T b = txR T 5 k2 r (pU zP r ((-1) * (s : Int))) := by
        unfold txtS
        rw [if_pos h18]
        exact txN_k ht hr rfl
      rw [e3]
      exact (m_tx_lp hR 5 k2 r _ Ia2 Ja2 _ hr (by omega) hk2.1 (hT.w hF2) g0 ga gb hp2).mono (fun v Ia' Ja' Ra' hz => hz.tr hF2 hF3)
  · refine LA0 e224_0 ?_
    refine Gr e224_1 (o152 L) (hR 152 6 156 rfl) f774 ?_
    refine Cs1p e224_4 c224_171 (Nat.le_of_ble_eq_true rfl) (Nat.le_of_ble_eq_true rfl) (m_empties (o156 L)) ?_
    rintro _ Ia1 Ja1 Ra1 ⟨rfl, hI1, hR1, hF1, hP1⟩
    have hI1 := hI1.symm
    subst hI1
    have hR1 := hR1.symm
    subst hR1
    refine LA0 e224_7 ?_
    refine Ki e224_8 kiconst_5 ?_
    refine Pi e224_9 (o152 L) f811 ?_
    refine LA0 e224_12 ?_
    refine Cv0 e224_13 c224_221 (o152 L) (Nat.le_of_ble_eq_true rfl) (Nat.le_of_ble_eq_true rfl) ((m_here (b := b) hR (hT.w (FrW.rf.up (by omega))) (by rw [up_o (by omega)]; exact ha) (by omega))) ?_
    refine Ki e224_16 kbipush_45 ?_
    refine C_ne e224_18 t224_18 (fun _ => ?_) (fun q => absurd (h18) q)
    refine Ki e224_25 kiconst_0 ?_
    refine SI1 e224_26 rfl ?_
    refine LI1 e224_27 ?_
    refine B_eq e224_28 t224_28 (fun _ => ?_) (fun q => absurd (rfl) q)
    refine LA0 e224_41 ?_
    refine LI1 e224_42 ?_
    refine B_eq e224_43 t224_43 (fun _ => ?_) (fun q => absurd (rfl) q)
    refine Ki e224_50 kiconst_1 ?_
    refine Cv1p e224_51 c224_223 (o152 L) (Nat.le_of_ble_eq_true rfl) (Nat.le_of_ble_eq_true rfl) (m_term (b := b) (ab := 5) (p := zP) (c := 1) hR (hT.w (FrW.rf.up (k := 43) (by omega))) (by omega) (by rw [up_o (by omega)]; exact ha) (by (repeat rw [up_o (by omega)]); exact h0) (by (repeat rw [up_o (by omega)]); exact amU_same) (by omega) hP1 (Or.inl ⟨rfl, rfl⟩)) ?_
    rintro v Ia2 Ja2 Ra2 ⟨hv, hR2, hF2, hF3, hD⟩
    subst hv
    have hR2 := hR2.symm
    subst hR2
    have hF2 := (FrW.rf.up (k := 43) (by omega)).tr hF2
    have hF3 := hF1.tr hF3
    rcases hD with ⟨e, he, hw, hfa⟩ | ⟨k2, r, s, ht, hr, g0, ga, gb, hp2⟩
    · refine m_tx_wr hw ⟨rfl, rfl, hF2, hF3, Or.inl ⟨e, ?_, hw, hfa⟩⟩
      unfold txtS
      rw [if_neg h18]
      exact txN_e he
    · have hk2 := trmS_r hT.2.2 hb ht
      have e3 : txtS T b = txR T 5 k2 r (pU zP r (1 * (s : Int))) := by
        unfold txtS
        rw [if_neg h18]
        exact txN_k ht hr rfl
      rw [e3]
      exact (m_tx_lp hR 5 k2 r _ Ia2 Ja2 _ hr (by omega) hk2.1 (hT.w hF2) g0 ga gb hp2).mono (fun v Ia' Ja' Ra' hz => hz.tr hF2 hF3)
end REF37
