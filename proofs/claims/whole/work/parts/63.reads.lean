/-! calls: reads (printed by wip/whole/t63.py) -/
/-- the tape is empty then -/
def clrT (σ : PS) : PS := (σ.1, σ.2.1, (fun _ => 0), 0, σ.2.2.2.2)
/-- the STATEMENT at a place done: what it answers, the place behind the next one's part, the state -/
noncomputable def rdS (T : Nat → Int32) (r : Nat × PS) : Int32 × Nat × PS := match stmS T r.1 with
  | .inl e => (-1, e, r.2)
  | .inr (k, .inl p) => ((sBring r.2 p).1, k + 1, (sBring r.2 p).2)
  | .inr (k, .inr (t, i, s)) => ((sMake r.2 (nI t) (nI i) s).1, k + 1, (sMake r.2 (nI t) (nI i) s).2)
/-- f STATEMENTS done: the place of the one that brings none, or the state -/
noncomputable def rdN (T : Nat → Int32) : Nat → Nat × PS → Nat ⊕ PS
  | 0, r => .inr r.2
  | f + 1, r => if (rdS T r).1 < 0 then .inl r.1 else rdN T f (rdS T r).2
theorem rdN_no {T : Nat → Int32} {f : Nat} {r : Nat × PS} (h : (rdS T r).1 < 0) : rdN T (f + 1) r = .inl r.1 := by rw [rdN, if_pos h]
theorem rdN_yes {T : Nat → Int32} {f : Nat} {r : Nat × PS} (h : ¬ (rdS T r).1 < 0) : rdN T (f + 1) r = rdN T f (rdS T r).2 := by rw [rdN, if_neg h]
noncomputable def rdA (σ : PS) (c : Nat) : Nat ⊕ PS → Int32 × PS
  | .inl b => (-2000 - nI b, clrT σ)
  | .inr τ => (nI c, clrT τ)
noncomputable def sReads (σ : PS) : Int32 × PS := match ckN σ.2.2.1 σ.2.2.2.1 120 0 1 with
  | .inl e => (fI e, clrT σ)
  | .inr c => rdA σ c (rdN σ.2.2.1 c (0, σ))
theorem ckN_ge {T : Nat → Int32} {n : Nat} : ∀ {f b c0 c : Nat}, ckN T n f b c0 = .inr c → c0 ≤ c ∧ c < c0 + f
  | 0, _, _, _, h => by cases h
  | f + 1, b, c0, c, h => by
    rw [ckN] at h
    split at h
    · cases h
    · split at h
      · cases h; omega
      · split at h
        · have := ckN_ge h; omega
        · cases h
theorem ckN_st {T : Nat → Int32} {n f b t c : Nat} (h : ckN T n f b (t + 1) = .inr c) : ∃ k o, stmS T b = .inr (k, o) ∧ (c = t + 1 ∨ (k < n + 1 → T k = 59 ∧ ∃ f', ckN T n f' (k + 1) (t + 1 + 1) = .inr c)) := by
  cases f with
  | zero => cases h
  | succ f =>
    rw [ckN] at h
    split at h
    · cases h
    · rename_i k o e
      refine ⟨k, o, e, ?_⟩
      split at h
      · cases h; exact Or.inl rfl
      · split at h
        · rename_i g
          exact Or.inr (fun _ => ⟨g, f, h⟩)
        · cases h
theorem sBring_ext {σ : PS} {g : Po} (h8 : σ.1.length ≤ 8) : (sBring σ g).2.2 = σ.2 ∧ (∃ r, (sBring σ g).2.1 = σ.1 ++ r) ∧ ((sBring σ g).1 < 0 → (sBring σ g).2 = σ) := by
  unfold sBring
  split
  · exact ⟨rfl, ⟨[], by simp⟩, fun _ => rfl⟩
  · split
    · exact ⟨rfl, ⟨[], by simp⟩, fun _ => rfl⟩
    · split
      · refine ⟨rfl, ⟨[g], rfl⟩, fun h => ?_⟩
        exact absurd h (nI_pos (by omega))
      · exact ⟨rfl, ⟨[], by simp⟩, fun _ => rfl⟩
theorem sMake_ext {σ : PS} {t i q : Int32} (h8 : σ.1.length ≤ 8) : (sMake σ t i q).2.2 = σ.2 ∧ (∃ r, (sMake σ t i q).2.1 = σ.1 ++ r) ∧ ((sMake σ t i q).1 < 0 → (sMake σ t i q).2 = σ) := by
  unfold sMake
  split
  · split
    · exact ⟨rfl, ⟨[], by simp⟩, fun _ => rfl⟩
    · split
      · exact ⟨rfl, ⟨[], by simp⟩, fun _ => rfl⟩
      · exact sBring_ext h8
  · exact ⟨rfl, ⟨[], by simp⟩, fun _ => rfl⟩
/-- j isn't looked at where it isn't wanted -/
theorem sMake_j {σ : PS} {t : Nat} {i s s' : Int32} (ht : t < 12) (h : ¬ (isSg t ∨ isTw (nI t))) : sMake σ (nI t) i s = sMake σ (nI t) i s' := by
  have h4 : t = 4 ∨ t = 5 ∨ t = 8 ∨ t = 9 := by
    have e : ∀ t, t < 12 → ¬ (isSg t ∨ isTw (nI t)) → t = 4 ∨ t = 5 ∨ t = 8 ∨ t = 9 := by decide
    exact e t ht h
  have hm : ∀ p q q' : Po, ∀ k k' : Int, mkF t p q k = mkF t p q' k' := fun p q q' k k' => by rcases h4 with e | e | e | e <;> subst e <;> rfl
  have ho : ∀ z : Int32, okJ σ.1 (nI t) z := fun z => by
    rcases h4 with e | e | e | e <;> subst e <;> (unfold okJ; rw [if_neg (by decide), if_neg (by decide), if_neg (by decide)]; trivial)
  have et : (nI t).toInt.toNat = t := by rw [nI_toInt (by omega)]; omega
  unfold sMake
  rw [et, hm (plP σ.1 i) (plP σ.1 s) (plP σ.1 s') s.toInt s'.toInt]
  by_cases g : (0 ≤ (nI t).toInt ∧ (nI t).toInt < 12) ∧ inP σ.1 i
  · rw [if_pos (show (0 ≤ (nI t).toInt ∧ (nI t).toInt < 12) ∧ inP σ.1 i ∧ okJ σ.1 (nI t) s from ⟨g.1, g.2, ho s⟩), if_pos (show (0 ≤ (nI t).toInt ∧ (nI t).toInt < 12) ∧ inP σ.1 i ∧ okJ σ.1 (nI t) s' from ⟨g.1, g.2, ho s'⟩)]
  · rw [if_neg (show ¬ ((0 ≤ (nI t).toInt ∧ (nI t).toInt < 12) ∧ inP σ.1 i ∧ okJ σ.1 (nI t) s) from fun z => g ⟨z.1, z.2.1⟩), if_neg (show ¬ ((0 ≤ (nI t).toInt ∧ (nI t).toInt < 12) ∧ inP σ.1 i ∧ okJ σ.1 (nI t) s') from fun z => g ⟨z.1, z.2.1⟩)]
theorem txN_PB {T : Nat → Int32} {n : Nat} (hz : ∀ k, n ≤ k → T k = 0) : ∀ {f b ab : Nat} {mi : Bool} {p q : Po} {k : Nat}, b ≤ n → PB 999 p → txN T f b mi ab p = .inr (k, q) → PB 999 q
  | 0, _, _, _, _, _, _, _, _, h => by cases h
  | f + 1, b, ab, mi, p, q, k, hb, hp, h => by
    rw [txN] at h
    cases hE : trmS T b with
    | inl e => rw [hE] at h; cases h
    | inr x =>
      obtain ⟨k1, r, s⟩ := x
      have hk := trmS_r hz hb hE
      rw [hE] at h
      dsimp only at h
      have hp2 : PB 999 (pU p r (if mi = true then -(s : Int) else s)) := pU_PB hp (by split <;> omega)
      split at h
      · split at h
        · rename_i g2
          have hkn : k1 < n := T_lt hz (fun z => by rw [z] at g2; exact absurd g2 (by decide))
          exact txN_PB hz hkn hp2 h
        · cases h; exact hp2
      · cases h
theorem zP999 : PB 999 zP := fun _ _ => ⟨by show (-999 : Int) ≤ 0; decide, by show (0 : Int) ≤ 999; decide⟩
theorem txtS_PB {T : Nat → Int32} {n b k : Nat} {q : Po} (hz : ∀ k, n ≤ k → T k = 0) (hb : b ≤ n) (h : txtS T b = .inr (k, q)) : PB 999 q := by
  unfold txtS at h
  split at h
  · rename_i g
    have hkn : b < n := T_lt hz (fun z => by rw [z] at g; exact absurd g (by decide))
    exact txN_PB hz hkn zP999 h
  · exact txN_PB hz hb zP999 h
theorem stmS_PB {T : Nat → Int32} {n b k : Nat} {q : Po} (hz : ∀ k, n ≤ k → T k = 0) (hb : b ≤ n) (h : stmS T b = .inr (k, .inl q)) : PB 999 q := by
  unfold stmS at h
  split at h
  · rename_i g
    have hkn : b < n := T_lt hz (fun z => by rw [z] at g; exact absurd g (by decide))
    cases hE : txtS T (b + 1) with
    | inl e => rw [hE] at h; cases h
    | inr x =>
      obtain ⟨k1, p⟩ := x
      rw [hE] at h
      cases h
      exact txtS_PB hz hkn hE
  · split at h
    · cases h
    · split at h
      · cases h
      · cases h
theorem CSt.t {I I' : amI} {J J' : amJ} {R : amR} {σ : PS} (h : CSt I J R σ) (hF : FrT I I') (hJ : Fr J J' 146) : CSt I' J' R σ := by
  obtain ⟨h1, h2, h3, h4, h5, h6, h7, h8⟩ := h
  exact ⟨h1, h2, h3.cg (hF.1 2 (by decide)) (fun k hk => hJ _ (by have := h8.1.1; omega)), h4.cg (hF.1 1 (by decide)) (hF.1 20 (by decide)) (fun l e => Or.inr (fun k hk => hJ _ (by have := (h8.2.1 l e).1; omega))), h5.fr hF, h6.cg (hF.1 147 (by decide)) (hF.1 148 (by decide)), h7.cg (hF.1 150 (by decide)) (hF.1 151 (by decide)), h8⟩
theorem ck_le {T : Nat → Int32} {n : Nat} (hz : ∀ k, n ≤ k → T k = 0) : ∀ {f b c0 e : Nat}, b ≤ n → ckN T n f b c0 = .inl e → e ≤ n
  | 0, _, _, _, _, h => by cases h; exact Nat.le_refl _
  | f + 1, b, c0, e, hb, h => by
    have hs := stmS_n hz hb
    rw [ckN] at h
    split at h
    · rename_i e' he
      cases h
      exact hs.1 _ he
    · rename_i k o he
      have hk := hs.2 k o he
      split at h
      · cases h
      · split at h
        · rename_i g
          have hkn : k < n := T_lt hz (fun z => by rw [z] at g; exact absurd g (by decide))
          exact ck_le hz hkn h
        · cases h; omega
section READS
variable {L : Nat} {I : amI} {J : amJ} {R : amR} {Q : amQ} {σ τ : PS} {l : List Po} {c n t b : Nat}
theorem t_what {v : Int32} (hv : I 143 3 = v) : Rv 83 [.ref 143] (amSH L) I J R (.int v) := by
  intro Q hQ
  show Ex 83 0 [some (.ref 143)] [] (amSH L) I J R _
  refine LA0 e83_0 ?_
  refine Gi e83_1 (o143 L) (amGi_of f643 (by decide)) ?_
  rw [hv]
  exact Ri e83_4 rt83 (hQ)
theorem t_first {v : Int32} (hv : I 143 4 = v) : Rv 84 [.ref 143] (amSH L) I J R (.int v) := by
  intro Q hQ
  show Ex 84 0 [some (.ref 143)] [] (amSH L) I J R _
  refine LA0 e84_0 ?_
  refine Gi e84_1 (o143 L) (amGi_of f644 (by decide)) ?_
  rw [hv]
  exact Ri e84_4 rt84 (hQ)
theorem t_second {v : Int32} (hv : I 143 5 = v) : Rv 85 [.ref 143] (amSH L) I J R (.int v) := by
  intro Q hQ
  show Ex 85 0 [some (.ref 143)] [] (amSH L) I J R _
  refine LA0 e85_0 ?_
  refine Gi e85_1 (o143 L) (amGi_of f645 (by decide)) ?_
  rw [hv]
  exact Ri e85_4 rt85 (hQ)
theorem t_told (hR : amRok R) : Rv 86 [.ref 143] (amSH L) I J R (.ref 145) := by
  intro Q hQ
  show Ex 86 0 [some (.ref 143)] [] (amSH L) I J R _
  refine LA0 e86_0 ?_
  refine Gr e86_1 (o143 L) (hR 143 2 145 rfl) f642 ?_
  exact Ra e86_4 rt86 (hQ)
set_option maxHeartbeats 2000000 in
theorem rd_clr {v y2 y3 y5 : Int32} {l6 l7 l8 : Option Value} {y1 : Int32} (h : CSt I J R σ) : Ex 130 129 [some (.ref 1), some (.int y1), some (.int y2), some (.int y3), some (.int v), some (.int y5), l6, l7, l8] [] (amSH L) I J R (CP I J R (clrT σ) (.int v)) := by
  obtain ⟨hR, ⟨x, y, hC⟩, hS, hK, hT, hW, hZ, hO⟩ := id h
  refine LA0 e130_129 ?_
  refine Gr e130_130 (o1 L) (hR 1 13 143 rfl) f717 ?_
  refine Cv0p e130_133 c130_82 (o143 L) (Nat.le_of_ble_eq_true rfl) (Nat.le_of_ble_eq_true rfl) (t_clear) ?_
  rintro _ I1 J1 R1 ⟨rfl, hI1, hJ1, hR1⟩
  subst hJ1
  subst hR1
  have hf : ∀ y, y ≠ 143 → I1 y = I y := fun y a => by rw [hI1]; funext i; rw [amU_ne a]
  refine LI4 e130_136 ?_
  exact Ri e130_138 rt130 (⟨rfl, ⟨hR, ⟨x, y, hC⟩, hS.cg (hf 2 (by decide)) (fun _ _ => rfl), hK.cg (hf 1 (by decide)) (hf 20 (by decide)) (fun _ _ => Or.inl rfl), ⟨by rw [hI1, amU_same]; rfl, Nat.zero_le _, fun k hk => absurd hk (Nat.not_lt_zero _), fun _ _ => rfl⟩, hW.cg (hf 147 (by decide)) (hf 148 (by decide)), hZ.cg (hf 150 (by decide)) (hf 151 (by decide)), ⟨hO.1, hO.2.1, Nat.zero_le _, hO.2.2.2⟩⟩, fun y hy => hf y (by omega), fun _ _ => rfl, RC.rf⟩)
theorem rd_end {y2 y3 : Int32} {l6 l7 l8 : Option Value} (hc : c ≤ 200) (h : CSt I J R σ) : Ex 130 24 [some (.ref 1), some (.int (nI c)), some (.int y2), some (.int y3), some (.int (nI c)), some (.int (nI c)), l6, l7, l8] [] (amSH L) I J R (CP I J R (clrT σ) (.int (nI c))) := by
  refine LI5 e130_24 ?_
  refine LI1 e130_26 ?_
  refine CN_ge (a := c) (b := c) e130_27 t130_27 rfl rfl (by omega) (by omega) (fun _ => ?_) (fun q => by omega)
  exact rd_clr h
theorem m2000 {b c : Nat} (hb : b ≤ 200) (hc : c ≤ 200) : ¬ -2000 - nI b = nI c := fun e => by
  have e2 := congrArg Int32.toInt e
  have e3 : -2000 - nI b = iI (-2000 - (b : Int)) := by
    rw [nI_iI]
    unfold iI
    rw [Int32.ofInt_sub]
    rfl
  rw [e3, iI_t (by omega), nI_toInt (by omega)] at e2
  omega
theorem rd_none {y2 y3 : Int32} {l6 l7 l8 : Option Value} (hb : b ≤ 200) (hc : c ≤ 200) (ht : t ≤ 200) (h : CSt I J R σ) : Ex 130 24 [some (.ref 1), some (.int (nI c)), some (.int y2), some (.int y3), some (.int (-2000 - nI b)), some (.int (nI t)), l6, l7, l8] [] (amSH L) I J R (CP I J R (clrT σ) (.int (-2000 - nI b))) := by
  refine LI5 e130_24 ?_
  refine LI1 e130_26 ?_
  refine CN_ge (a := t) (b := c) e130_27 t130_27 rfl rfl (by omega) (by omega) (fun h27 => ?_) (fun h27 => ?_)
  · exact rd_clr h
  · refine LI4 e130_30 ?_
    refine LI1 e130_32 ?_
    refine C_ne e130_33 t130_33 (fun _ => ?_) (fun q => absurd (m2000 hb hc) q)
    exact rd_clr h
set_option maxHeartbeats 2000000 in
theorem rd_98 {k m : Nat} {v : Int32} {l7 : Option Value} (hk : k ≤ 200) (hb : b ≤ 200) (hc : c ≤ 200) (ht : t ≤ 150) (hn : n = σ.1.length) (h : CSt I J R τ) (h2 : τ.2 = σ.2) (hr : ∃ r, τ.1 = σ.1 ++ r) (hS0 : PsOk σ.1) (hyes : ¬ v < 0 → Ex 130 24 [some (.ref 1), some (.int (nI c)), some (.int (nI n)), some (.int (nI (k + 1))), some (.int (nI c)), some (.int (nI (t + 1))), some (.int (nI k)), l7, some (.int v)] [] (amSH L) I J R Q) (hno : v < 0 → ∀ u I' J' R', CP I J R (clrT σ) (.int (-2000 - nI b)) u I' J' R' → Q u I' J' R') : Ex 130 98 [some (.ref 1), some (.int (nI c)), some (.int (nI n)), some (.int (nI b)), some (.int (nI c)), some (.int (nI t)), some (.int (nI k)), l7, some (.int v)] [] (amSH L) I J R Q := by
  obtain ⟨hR, ⟨x, y, hC⟩, hS, hK, hT, hW, hZ, hO⟩ := id h
  have h8 := hO.1.1
  obtain ⟨r, er⟩ := hr
  have hlen : τ.1.length = n + r.length := by rw [er, List.length_append, hn]
  refine LI8 e130_98 ?_
  refine B_ge e130_100 t130_100 (fun h100 => ?_) (fun h100 => ?_)
  · refine LI6 e130_118 ?_
    refine Ki e130_120 kiconst_1 ?_
    refine IaddN (a := k) (b := 1) e130_121 rfl (by decide) ?_
    refine SI3 e130_122 rfl ?_
    refine IncN5 (m := t) e130_123 rfl ?_
    refine Go e130_126 t130_126 ?_
    exact hyes (fun z => by rw [i32le, show (0 : Int32).toInt = 0 from rfl] at h100; rw [i32lt, show (0 : Int32).toInt = 0 from rfl] at z; omega)
  · refine Ki e130_103 ksipush_m2000 ?_
    refine LI3 e130_106 ?_
    refine Isub e130_107 ?_
    refine SI4 e130_108 rfl ?_
    refine LA0 e130_110 ?_
    refine Gr e130_111 (o1 L) (hR 1 0 2 rfl) f704 ?_
    refine LI2 e130_114 ?_
    have hnew : ∀ I1, I1 2 1 = nI n → (∀ y, y ≠ 2 → I1 y = I y) → CSt I1 J R σ := fun I1 g1 g2 => by
      refine ⟨hR, ⟨x, y, hC⟩, ⟨by rw [g1, hn], fun i hi => ?_⟩, ?_, ?_, ?_, ?_, ⟨hS0, ?_⟩⟩
      · have e := hS.2 i (by omega)
        rw [er, gd_l hi] at e
        exact e
      · rw [← h2]; exact hK.cg (g2 1 (by decide)) (g2 20 (by decide)) (fun _ _ => Or.inl rfl)
      · rw [← h2]; exact hT.cg (g2 143 (by decide)) (g2 144 (by decide))
      · rw [← h2]; exact hW.cg (g2 147 (by decide)) (g2 148 (by decide))
      · rw [← h2]; exact hZ.cg (g2 150 (by decide)) (g2 151 (by decide))
      · rw [← h2]; exact hO.2
    by_cases g : n = τ.1.length
    · refine Cv1p e130_115 c130_57 (o2 L) (Nat.le_of_ble_eq_true rfl) (Nat.le_of_ble_eq_true rfl) (s_keep (s := 2) (Or.inl rfl) hR (g ▸ hS.1) (by omega)) ?_
      rintro _ I1 J1 R1 ⟨rfl, hI1, hJ1, hR1⟩
      subst hI1
      subst hJ1
      subst hR1
      refine LI6 e130_118 ?_
      refine Ki e130_120 kiconst_1 ?_
      refine IaddN (a := k) (b := 1) e130_121 rfl (by decide) ?_
      refine SI3 e130_122 rfl ?_
      refine IncN5 (m := t) e130_123 rfl ?_
      refine Go e130_126 t130_126 ?_
      have hst := hnew _ (g ▸ hS.1) (fun _ _ => rfl)
      exact (rd_none hb hc (by omega) hst).mono (fun u I' J' R' z => hno (by rw [i32le, show (0 : Int32).toInt = 0 from rfl] at h100; rw [i32lt, show (0 : Int32).toInt = 0 from rfl]; omega) u I' J' R' z)
    · refine Cv1p e130_115 c130_57 (o2 L) (Nat.le_of_ble_eq_true rfl) (Nat.le_of_ble_eq_true rfl) (s_shorten (s := 2) (n := τ.1.length) (k := n) (Or.inl rfl) hR hS.1 h8 (by omega)) ?_
      rintro _ I1 J1 R1 ⟨rfl, hI1, hJ1, hR1⟩
      subst hJ1
      subst hR1
      refine LI6 e130_118 ?_
      refine Ki e130_120 kiconst_1 ?_
      refine IaddN (a := k) (b := 1) e130_121 rfl (by decide) ?_
      refine SI3 e130_122 rfl ?_
      refine IncN5 (m := t) e130_123 rfl ?_
      refine Go e130_126 t130_126 ?_
      have hf : ∀ y, y ≠ 2 → I1 y = I y := fun y a => by rw [hI1]; funext i; rw [amU_ne a]
      have hst := hnew I1 (by rw [hI1, amU_same]) hf
      exact (rd_none hb hc (by omega) hst).mono (fun u I' J' R' z => hno (by rw [i32le, show (0 : Int32).toInt = 0 from rfl] at h100; rw [i32lt, show (0 : Int32).toInt = 0 from rfl]; omega) u I' J' R' (z.tr (fun y hy => hf y (by omega)) (fun _ _ => rfl) RC.rf))
set_option maxHeartbeats 2000000 in
theorem rd_lp (hn : n = σ.1.length) (hS0 : SOk σ) (hc : c ≤ 120) : ∀ (g t b f : Nat) (τ : PS) (l6 l7 l8 : Option Value) (I : amI) (J : amJ) (R : amR), t + g = c → 0 < g → ckN σ.2.2.1 σ.2.2.2.1 f b (t + 1) = .inr c → b ≤ σ.2.2.2.1 → CSt I J R τ → τ.2 = σ.2 → (∃ r, τ.1 = σ.1 ++ r) → Ex 130 24 [some (.ref 1), some (.int (nI c)), some (.int (nI n)), some (.int (nI b)), some (.int (nI c)), some (.int (nI t)), l6, l7, l8] [] (amSH L) I J R (CP I J R (rdA σ c (rdN σ.2.2.1 g (b, τ))).2 (.int (rdA σ c (rdN σ.2.2.1 g (b, τ))).1)) := by
  intro g
  induction g with
  | zero => intro t b f τ l6 l7 l8 I J R h1 h2; omega
  | succ g ih =>
    intro t b f τ l6 l7 l8 I J R htg _ hck hb h h2 hr
    have hn120 := hS0.2.2.1
    obtain ⟨hR, ⟨x, y, hC⟩, hS, hK, hT, hW, hZ, hO⟩ := id h
    rw [h2] at hT
    obtain ⟨kk, oo, hst0, hnx⟩ := ckN_st hck
    have hkn := (stmS_n hT.2.2.2 hb).2 kk oo hst0
    refine LI5 e130_24 ?_
    refine LI1 e130_26 ?_
    refine CN_ge (a := t) (b := c) e130_27 t130_27 rfl rfl (by omega) (by omega) (fun q => absurd q (by omega)) (fun _ => ?_)
    refine LI4 e130_30 ?_
    refine LI1 e130_32 ?_
    refine C_ne e130_33 t130_33 (fun q => absurd q (fun z => z rfl)) (fun _ => ?_)
    refine LA0 e130_36 ?_
    refine Gr e130_37 (o1 L) (hR 1 13 143 rfl) f717 ?_
    refine LI3 e130_40 ?_
    refine Cv1p e130_41 c130_88 (o143 L) (Nat.le_of_ble_eq_true rfl) (Nat.le_of_ble_eq_true rfl) (t_statement hR hT hb) ?_
    rintro u I1 J1 R1 ⟨hF, hRe, hF1, hD⟩
    subst hRe
    have ht := h.t hF hF1
    rcases hD with ⟨e, hE, rfl⟩ | ⟨k, q, hE, rfl, h3, hP⟩ | ⟨k, t2, i, s, hE, ht2, rfl, h3, h4, h5⟩
    · rw [hst0] at hE
      exact absurd hE (by simp)
    · have ekk : kk = k := by
        have e9 := hst0.symm.trans hE
        cases e9
        rfl
      subst ekk
      refine SI6 e130_44 rfl ?_
      refine LA0 e130_46 ?_
      refine Gr e130_47 (o1 L) (hR 1 13 143 rfl) f717 ?_
      refine Cv0 e130_50 c130_83 (o143 L) (Nat.le_of_ble_eq_true rfl) (Nat.le_of_ble_eq_true rfl) ((t_what h3)) ?_
      refine SI7 e130_53 rfl ?_
      refine LI7 e130_55 ?_
      refine Ki e130_57 kbipush_12 ?_
      refine C_ne e130_59 t130_59 (fun q => absurd q (by decide)) (fun _ => ?_)
      refine LA0 e130_62 ?_
      refine LA0 e130_63 ?_
      refine Gr e130_64 (o1 L) (hR 1 13 143 rfl) f717 ?_
      refine Cv0 e130_67 c130_86 (o143 L) (Nat.le_of_ble_eq_true rfl) (Nat.le_of_ble_eq_true rfl) ((t_told hR)) ?_
      refine Cv1p e130_70 c130_142 (o1 L) (Nat.le_of_ble_eq_true rfl) (Nat.le_of_ble_eq_true rfl) (k_bring ht (po145 hR) hP ((stmS_PB hT.2.2.2 hb hE).mono (by decide)) (by decide)) ?_
      rintro u I2 J2 R2 hres
      obtain rfl := hres.1
      have hrd : rdS σ.2.2.1 (b, τ) = ((sBring τ q).1, kk + 1, (sBring τ q).2) := by unfold rdS; dsimp only; rw [hE]
      have hI150 : ∀ y, 152 ≤ y → I2 y = I y := fun y hy => (hres.2.2.1 y hy).trans (hF.1 y (by omega))
      have hJ150 : ∀ y, 152 ≤ y → J2 y = J y := fun y hy => (hres.2.2.2.1 y hy).trans (hF1 y (by omega))
      have hRC1 := hres.2.2.2.2
      obtain ⟨hx1, hx2, -⟩ := sBring_ext (σ := τ) (g := q) hO.1.1
      generalize (sBring τ q).2 = τ1 at *
      refine Go e130_73 t130_73 ?_
      refine SI8 e130_96 rfl ?_
      have hr1 : ∃ r, τ1.1 = σ.1 ++ r := by
        obtain ⟨r, er⟩ := hr
        obtain ⟨r2, er2⟩ := hx2
        exact ⟨r ++ r2, by rw [er2, er, List.append_assoc]⟩
      have h21 : τ1.2 = σ.2 := hx1.trans h2
      refine rd_98 (m := 0) (by omega) (by omega) (by omega) (by omega) hn hres.2.1 h21 hr1 hS0.1 (fun hv => ?_) (fun hv u I' J' R' z => ?_)
      · have hv2 : ¬ (rdS σ.2.2.1 (b, τ)).1 < 0 := by rw [hrd]; exact hv
        rw [rdN_yes hv2, hrd]
        by_cases gl : g = 0
        · subst gl
          have ec : t + 1 = c := by omega
          rw [ec]
          exact (rd_end (by omega) hres.2.1).mono (fun v I' J' R' z => z.tr hI150 hJ150 hRC1)
        · have hnx2 : σ.2.2.1 kk = 59 ∧ ∃ f', ckN σ.2.2.1 σ.2.2.2.1 f' (kk + 1) (t + 1 + 1) = .inr c := by
            rcases hnx with q | q
            · omega
            · exact q (by omega)
          obtain ⟨h59, f', hck'⟩ := hnx2
          have hk1 : kk < σ.2.2.2.1 := T_lt hT.2.2.2 (fun z => by rw [z] at h59; exact absurd h59 (by decide))
          exact (ih (t + 1) (kk + 1) f' τ1 _ _ _ _ _ _ (by omega) (by omega) hck' hk1 hres.2.1 h21 hr1).mono (fun v I' J' R' z => z.tr hI150 hJ150 hRC1)
      · have hv2 : (rdS σ.2.2.1 (b, τ)).1 < 0 := by rw [hrd]; exact hv
        rw [rdN_no hv2]
        exact z.tr hI150 hJ150 hRC1
    · have ekk : kk = k := by
        have e9 := hst0.symm.trans hE
        cases e9
        rfl
      subst ekk
      refine SI6 e130_44 rfl ?_
      refine LA0 e130_46 ?_
      refine Gr e130_47 (o1 L) (hR 1 13 143 rfl) f717 ?_
      refine Cv0 e130_50 c130_83 (o143 L) (Nat.le_of_ble_eq_true rfl) (Nat.le_of_ble_eq_true rfl) ((t_what h3)) ?_
      refine SI7 e130_53 rfl ?_
      refine LI7 e130_55 ?_
      refine Ki e130_57 kbipush_12 ?_
      refine CN_ne (a := t2) (b := 12) e130_59 t130_59 rfl (by decide) (by omega) (by omega) (fun _ => ?_) (fun q => by omega)
      refine LA0 e130_76 ?_
      refine LI7 e130_77 ?_
      refine LA0 e130_79 ?_
      refine Gr e130_80 (o1 L) (hR 1 13 143 rfl) f717 ?_
      refine Cv0 e130_83 c130_84 (o143 L) (Nat.le_of_ble_eq_true rfl) (Nat.le_of_ble_eq_true rfl) ((t_first h4)) ?_
      refine LA0 e130_86 ?_
      refine Gr e130_87 (o1 L) (hR 1 13 143 rfl) f717 ?_
      refine Cv0 e130_90 c130_85 (o143 L) (Nat.le_of_ble_eq_true rfl) (Nat.le_of_ble_eq_true rfl) ((t_second rfl)) ?_
      refine Cv3p e130_93 c130_112 (o1 L) (Nat.le_of_ble_eq_true rfl) (Nat.le_of_ble_eq_true rfl) (k_make ht) ?_
      rintro u I2 J2 R2 hres
      obtain rfl := hres.1
      have hmk : sMake τ (nI t2) (nI i) (I1 143 5) = sMake τ (nI t2) (nI i) s := by
        by_cases gw : isSg t2 ∨ isTw (nI t2)
        · rw [h5 gw]
        · exact sMake_j ht2 gw
      have hrd : rdS σ.2.2.1 (b, τ) = ((sMake τ (nI t2) (nI i) (I1 143 5)).1, kk + 1, (sMake τ (nI t2) (nI i) (I1 143 5)).2) := by unfold rdS; dsimp only; rw [hE, hmk]
      have hI150 : ∀ y, 152 ≤ y → I2 y = I y := fun y hy => (hres.2.2.1 y hy).trans (hF.1 y (by omega))
      have hJ150 : ∀ y, 152 ≤ y → J2 y = J y := fun y hy => (hres.2.2.2.1 y hy).trans (hF1 y (by omega))
      have hRC1 := hres.2.2.2.2
      obtain ⟨hx1, hx2, -⟩ := sMake_ext (σ := τ) (t := nI t2) (i := nI i) (q := I1 143 5) hO.1.1
      generalize (sMake τ (nI t2) (nI i) (I1 143 5)).2 = τ1 at *
      refine SI8 e130_96 rfl ?_
      have hr1 : ∃ r, τ1.1 = σ.1 ++ r := by
        obtain ⟨r, er⟩ := hr
        obtain ⟨r2, er2⟩ := hx2
        exact ⟨r ++ r2, by rw [er2, er, List.append_assoc]⟩
      have h21 : τ1.2 = σ.2 := hx1.trans h2
      refine rd_98 (m := 0) (by omega) (by omega) (by omega) (by omega) hn hres.2.1 h21 hr1 hS0.1 (fun hv => ?_) (fun hv u I' J' R' z => ?_)
      · have hv2 : ¬ (rdS σ.2.2.1 (b, τ)).1 < 0 := by rw [hrd]; exact hv
        rw [rdN_yes hv2, hrd]
        by_cases gl : g = 0
        · subst gl
          have ec : t + 1 = c := by omega
          rw [ec]
          exact (rd_end (by omega) hres.2.1).mono (fun v I' J' R' z => z.tr hI150 hJ150 hRC1)
        · have hnx2 : σ.2.2.1 kk = 59 ∧ ∃ f', ckN σ.2.2.1 σ.2.2.2.1 f' (kk + 1) (t + 1 + 1) = .inr c := by
            rcases hnx with q | q
            · omega
            · exact q (by omega)
          obtain ⟨h59, f', hck'⟩ := hnx2
          have hk1 : kk < σ.2.2.2.1 := T_lt hT.2.2.2 (fun z => by rw [z] at h59; exact absurd h59 (by decide))
          exact (ih (t + 1) (kk + 1) f' τ1 _ _ _ _ _ _ (by omega) (by omega) hck' hk1 hres.2.1 h21 hr1).mono (fun v I' J' R' z => z.tr hI150 hJ150 hRC1)
      · have hv2 : (rdS σ.2.2.1 (b, τ)).1 < 0 := by rw [hrd]; exact hv
        rw [rdN_no hv2]
        exact z.tr hI150 hJ150 hRC1
set_option maxHeartbeats 2000000 in
theorem k_reads (h : CSt I J R σ) : Cl 130 [.ref 1] (amSH L) I J R (CP I J R (sReads σ).2 (.int (sReads σ).1)) := by
  obtain ⟨hR, ⟨x, y, hC⟩, hS, hK, hT, hW, hZ, hO⟩ := id h
  have h8 := hO.1.1
  unfold sReads
  show Ex 130 0 [some (.ref 1), none, none, none, none, none, none, none, none] [] (amSH L) I J R _
  refine LA0 e130_0 ?_
  refine Gr e130_1 (o1 L) (hR 1 13 143 rfl) f717 ?_
  refine Cv0p e130_4 c130_87 (o143 L) (Nat.le_of_ble_eq_true rfl) (Nat.le_of_ble_eq_true rfl) (t_check hR hT) ?_
  rintro _ I1 J1 R1 ⟨rfl, hF, hRe, hF1⟩
  subst hRe
  have ht := h.t hF hF1
  obtain ⟨-, -, hS, -⟩ := id ht
  refine SI1 e130_7 rfl ?_
  refine LA0 e130_8 ?_
  refine Gr e130_9 (o1 L) (hR 1 0 2 rfl) f704 ?_
  refine Cv0 e130_12 c130_53 (o2 L) (Nat.le_of_ble_eq_true rfl) (Nat.le_of_ble_eq_true rfl) ((s_size (s := 2) (Or.inl rfl) hS.1)) ?_
  refine SI2 e130_15 rfl ?_
  refine Ki e130_16 kiconst_0 ?_
  refine SI3 e130_17 rfl ?_
  refine LI1 e130_18 ?_
  refine SI4 e130_19 rfl ?_
  refine Ki e130_21 kiconst_0 ?_
  refine SI5 e130_22 rfl ?_
  cases hck : ckN σ.2.2.1 σ.2.2.2.1 120 0 1 with
  | inl e =>
    have he : e ≤ σ.2.2.2.1 := ck_le hT.2.2.2 (Nat.zero_le _) hck
    have hn120 := hO.2.2.1
    show Ex 130 24 [some (.ref 1), some (.int (fI e)), some (.int (nI σ.1.length)), some (.int 0), some (.int (fI e)), some (.int 0), none, none, none] [] (amSH L) I1 J1 _ _
    refine LI5 e130_24 ?_
    refine LI1 e130_26 ?_
    refine C_ge e130_27 t130_27 (fun _ => ?_) (fun q => absurd (by have := fI_neg e (by omega); rw [i32lt, show (0 : Int32).toInt = 0 from rfl] at this; rw [i32le, show (0 : Int32).toInt = 0 from rfl]; omega) q)
    exact (rd_clr ht).mono (fun v I' J' R' z => z.tr (fun y hy => hF.1 y (by omega)) (fun y hy => hF1 y (by omega)) RC.rf)
  | inr c =>
    have hg := ckN_ge hck
    exact (rd_lp rfl hO (by omega) c 0 0 120 σ _ _ _ _ _ _ (Nat.zero_add _) (by omega) hck (Nat.zero_le _) ht rfl ⟨[], by simp⟩).mono (fun v I' J' R' z => z.tr (fun y hy => hF.1 y (by omega)) (fun y hy => hF1 y (by omega)) RC.rf)
end READS
