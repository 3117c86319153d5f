/-! the reference: findsFractions, fraction (printed by wip/whole/t95.py) -/
/-- what is looked at: denominators below v; with v, numerators below u -/
def Do (v : Nat) (e : Int × Int) : Prop := e.1 = 0 ∨ e.2 < (v : Int)
def Di (v u : Nat) (e : Int × Int) : Prop := e.1 = 0 ∨ e.2 < (v : Int) ∨ (e.2 = (v : Int) ∧ e.1.natAbs < u)
theorem lw_nz {p : Po} (hs : 0 < sz p) (h5 : sz p ≤ 5) : ¬ p (lw p) = 0 := by
  have key : ∀ {f k : Nat}, p (lwN p f k) = 0 → lwN p f k = k + f := by
    intro f
    induction f with
    | zero => intro k _; rfl
    | succ f ih =>
      intro k h
      rw [lwN] at h ⊢
      by_cases e : p k = 0
      · rw [if_pos e] at h ⊢
        have := ih h
        omega
      · rw [if_neg e] at h
        exact absurd h e
  intro z
  have h4 := key (f := 4) (k := 0) z
  have hl : lw p = 4 := by unfold lw; omega
  have h0 := sz_head hs
  by_cases e : sz p - 1 = 4
  · rw [hl] at z
    rw [e] at h0
    exact h0 z
  · exact h0 (lwN_zero (f := 4) (k := 0) (Nat.zero_le _) (by show _ < lw p; omega))
theorem fo_st0 {p : Po} {F : Fq} (h : lw p = 0) : FrSt p (Do 1) F 0 := FrSt.none.cg (fun e he => ⟨False.elim, fun q => by
  rcases q with q | q
  · have := (he.e0 q).2
    omega
  · have := he.b.1.2.1
    omega⟩)
theorem fo_in {p : Po} {F : Fq} {n v : Nat} (h : FrSt p (Do v) F n) : FrSt p (Di v 1) F n := h.cg (fun e he => by
  unfold Do Di
  constructor
  · intro q
    rcases q with q | q
    · exact Or.inl q
    · exact Or.inr (Or.inl q)
  · intro q
    rcases q with q | q | q
    · exact Or.inl q
    · exact Or.inr q
    · exact Or.inl (by omega))
theorem tm_z {a b : Int} (h : a.tmod b = 0) (ha : ¬ a = 0) (hb : 1 ≤ b) : b ≤ (a.natAbs : Nat) := by
  have h1 : b ∣ a := Int.dvd_of_tmod_eq_zero h
  have h2 := Int.natAbs_dvd_natAbs.mpr h1
  have := Nat.le_of_dvd (by omega) h2
  omega
theorem FrQ.u {p : Po} {e : Int × Int} (hs : 0 < sz p) (h5 : sz p ≤ 5) (h : FrQ p e) (h0 : ¬ e.1 = 0) : e.1.natAbs ≤ (p (lw p)).natAbs := by
  rcases h with ⟨h, -⟩ | ⟨-, hb, h1, h2, -⟩
  · exact absurd (by rw [h]) h0
  · have := tm_z h1 (lw_nz hs h5) (by omega)
    omega
theorem FrQ.v {p : Po} {e : Int × Int} (hs : 0 < sz p) (h : FrQ p e) (h0 : ¬ e.1 = 0) : e.2 ≤ ((hd p).natAbs : Nat) := by
  rcases h with ⟨h, -⟩ | ⟨-, hb, h1, h2, -⟩
  · exact absurd (by rw [h]) h0
  · exact tm_z h2 (hd_nz hs) hb.2.1
theorem fo_out {p : Po} {F : Fq} {n v : Nat} (hs : 0 < sz p) (h5 : sz p ≤ 5) (h : FrSt p (Di v ((p (lw p)).natAbs + 1)) F n) : FrSt p (Do (v + 1)) F n := h.cg (fun e he => by
  have hu := he.u hs h5
  unfold Do Di
  constructor
  · intro q
    rcases q with q | q | q
    · exact Or.inl q
    · exact Or.inr (by omega)
    · exact Or.inr (by omega)
  · intro q
    by_cases z : e.1 = 0
    · exact Or.inl z
    · have := hu z
      rcases q with q | q
      · exact Or.inl q
      · by_cases y : e.2 < (v : Int)
        · exact Or.inr (Or.inl y)
        · exact Or.inr (Or.inr ⟨by omega, by omega⟩))
theorem fo_skip {p : Po} {F : Fq} {n v : Nat} (h : FrSt p (Do v) F n) (hv : 1 ≤ v) (hno : ¬ (hd p).natAbs % v = 0) : FrSt p (Do (v + 1)) F n := h.cg (fun e he => by
  unfold Do
  constructor
  · intro q
    rcases q with q | q
    · exact Or.inl q
    · exact Or.inr (by omega)
  · intro q
    rcases q with q | q
    · exact Or.inl q
    · by_cases y : e.2 < (v : Int)
      · exact Or.inr y
      · exfalso
        rcases he with ⟨g, -⟩ | ⟨-, hb, h1, h2, -⟩
        · rw [g] at y q
          have hv1 : (1 : Int) < (v : Int) + 1 := by omega
          have hy : ¬ (1 : Int) < (v : Int) := y
          have e1 : v = 1 := by omega
          rw [e1, Nat.mod_one] at hno
          exact hno rfl
        · have e2 : e.2 = (v : Int) := by omega
          rw [e2] at h2
          have d1 : (v : Int) ∣ hd p := Int.dvd_of_tmod_eq_zero h2
          have d2 := Int.natAbs_dvd_natAbs.mpr d1
          rw [Int.natAbs_natCast] at d2
          exact hno (Nat.mod_eq_zero_of_dvd d2))
theorem fo_all {p : Po} {F : Fq} {n : Nat} (hs : 0 < sz p) (h : FrSt p (Do ((hd p).natAbs + 1)) F n) : FrSt p (fun _ => True) F n := h.cg (fun e he => ⟨fun _ => trivial, fun _ => by
  by_cases z : e.1 = 0
  · exact Or.inl z
  · exact Or.inr (by have := he.v hs z; omega)⟩)
theorem fi_skip {p : Po} {F : Fq} {n u v : Nat} (h : FrSt p (Di v u) F n) (hno : ∀ e, FrQ p e → e.2 = (v : Int) → e.1.natAbs = u → ¬ e.1 = 0 → False) : FrSt p (Di v (u + 1)) F n := h.cg (fun e he => by
  unfold Di
  constructor
  · intro q
    rcases q with q | q | q
    · exact Or.inl q
    · exact Or.inr (Or.inl q)
    · exact Or.inr (Or.inr (by omega))
  · intro q
    by_cases z : e.1 = 0
    · exact Or.inl z
    · rcases q with q | q | q
      · exact Or.inl q
      · exact Or.inr (Or.inl q)
      · by_cases y : e.1.natAbs = u
        · exact (hno e he q.1 y z).elim
        · exact Or.inr (Or.inr (by omega)))
theorem fi_two {p : Po} {F : Fq} {n u v : Nat} (hu : 1 ≤ u) (h : FrSt p (fun e => (Di v u e ∨ e = ((u : Int), (v : Int))) ∨ e = (-(u : Int), (v : Int))) F n) : FrSt p (Di v (u + 1)) F n := h.cg (fun e he => by
  unfold Di
  constructor
  · intro q
    rcases q with ((q | q | q) | q) | q
    · exact Or.inl q
    · exact Or.inr (Or.inl q)
    · exact Or.inr (Or.inr (by omega))
    · rw [q]
      exact Or.inr (Or.inr ⟨rfl, by show (u : Int).natAbs < u + 1; omega⟩)
    · rw [q]
      exact Or.inr (Or.inr ⟨rfl, by show (-(u : Int)).natAbs < u + 1; omega⟩)
  · intro q
    rcases q with q | q | q
    · exact Or.inl (Or.inl (Or.inl q))
    · exact Or.inl (Or.inl (Or.inr (Or.inl q)))
    · by_cases y : e.1.natAbs < u
      · exact Or.inl (Or.inl (Or.inr (Or.inr ⟨q.1, y⟩)))
      · by_cases y2 : e.1 = (u : Int)
        · exact Or.inl (Or.inr (Prod.ext y2 q.1))
        · exact Or.inr (Prod.ext (by show e.1 = -(u : Int); omega) q.1))
theorem s1_int {n : Nat} : oI (n : Int) + 1 = oI ((n + 1 : Nat) : Int) := by
  rw [show (1 : Int64) = oI 1 from rfl, oI_add]
  rfl
section REF27
variable {L : Nat} {I : amI} {J : amJ} {R : amR} {Q : amQ} {m n k : Nat} {a : Int × Int} {F : Fq} {p : Po} {σ : PS}
set_option maxHeartbeats 2000000 in
theorem m_fi_lp (hR : amRok R) (hB : PB 999 p) (hs : 0 < sz p) (h5 : sz p ≤ 5) {v : Nat} (hv1 : 1 ≤ v) (hv9 : v ≤ 999) (hT : (hd p).natAbs % v = 0) {I0 : amI} {J0 : amJ} (hQ : ∀ I' J' F n, TfI I0 I' → TfJ J0 J' → FAm I' J' F n → FrSt p (Do (v + 1)) F n → Ex 211 140 [some (.ref 152), some (.int (nI (lw p))), some (.long (oI (((hd p).natAbs : Nat) : Int))), none, some (.long (oI ((v : Nat) : Int))), none, some (.long (oI (((p (lw p)).natAbs + 1 : Nat) : Int))), none] [] (amSH L) I' J' R Q) : ∀ (m u : Nat) (I : amI) (J : amJ) (F : Fq) (n : Nat), u + m = (p (lw p)).natAbs + 1 → 1 ≤ u → JP J 157 p → TfI I0 I → TfJ J0 J → FAm I J F n → FrSt p (Di v u) F n → Ex 211 70 [some (.ref 152), some (.int (nI (lw p))), some (.long (oI (((hd p).natAbs : Nat) : Int))), none, some (.long (oI ((v : Nat) : Int))), none, some (.long (oI ((u : Nat) : Int))), none] [] (amSH L) I J R Q := by
  have hl4 : lw p ≤ 4 := by have := lwN_le (p := p) (f := 4) (k := 0); unfold lw; omega
  have hpb := hB (lw p) (by omega)
  intro m
  induction m with
  | zero =>
    intro u I J F n hu hu1 hp hI hJ hA hS
    have e : u = (p (lw p)).natAbs + 1 := by omega
    subst e
    refine LJ6 e211_70 ?_
    refine LA0 e211_72 ?_
    refine Gr e211_73 (o152 L) (hR 152 7 157 rfl) f775 ?_
    refine LI1 e211_76 ?_
    refine AjN (k := (lw p)) e211_77 (o157 L) rfl (by omega) (by decide) ?_
    rw [hp (lw p) (by omega)]
    refine Cs1 e211_78 c211_153 (Nat.le_of_ble_eq_true rfl) (Nat.le_of_ble_eq_true rfl) ((m_size (x := p (lw p)) ⟨by omega, by omega⟩)) ?_
    refine D_gt e211_81 e211_82 t211_82 (fun _ => ?_) (fun q => absurd ((oI_lt ⟨by omega, by omega⟩ ⟨by omega, by omega⟩).mpr (by omega)) q)
    exact hQ _ _ _ _ hI hJ hA (fo_out hs h5 hS)
  | succ m ih =>
    intro u I J F n hu hu1 hp hI hJ hA hS
    have hiu : iB ((u : Nat) : Int) := ⟨by omega, by omega⟩
    have hiv : iB ((v : Nat) : Int) := ⟨by omega, by omega⟩
    have hun : ¬ oI ((u : Nat) : Int) = 0 := fun z => by
      rw [oI_0, oI_eq hiu ⟨by decide, by decide⟩] at z
      omega
    have hib : iB ((p (lw p)).tmod (u : Int)) := by
      have h6 : ((p (lw p)).tmod (u : Int)).natAbs = (p (lw p)).natAbs % (u : Int).natAbs := Int.natAbs_tmod _ _
      have h7 := Nat.mod_le (p (lw p)).natAbs (u : Int).natAbs
      exact ⟨by omega, by omega⟩
    by_cases gm : (p (lw p)).tmod (u : Int) = 0
    · have gmq : oI ((p (lw p)).tmod (u : Int)) = 0 := by rw [gm]; rfl
      have hg9 : Nat.gcd ((u : Nat) : Int).natAbs ((v : Nat) : Int).natAbs ≤ v := Nat.le_of_dvd (by omega) (Nat.gcd_dvd_right _ _)
      by_cases gg : Nat.gcd ((u : Nat) : Int).natAbs ((v : Nat) : Int).natAbs = 1
      · have ggq : oI ((Nat.gcd ((u : Nat) : Int).natAbs ((v : Nat) : Int).natAbs : Nat) : Int) = 1 := by rw [gg]; rfl
        have hu9 : u ≤ 999 := by omega
        have hfq : ∀ x : Int, x.natAbs = u → ¬ x = 0 → hv p x (v : Int) = 0 → FrQ p (x, (v : Int)) := fun x hx hx0 hz => by
          refine Or.inr ⟨hx0, ⟨⟨by show -999 ≤ x; omega, by show x ≤ 999; omega⟩, by show 1 ≤ (v : Int); omega, by show (v : Int) ≤ 999; omega⟩, ?_, ?_, ?_, hz⟩
          · show (p (lw p)).tmod ((x.natAbs : Nat) : Int) = 0
            rw [hx]
            exact gm
          · show (hd p).tmod (v : Int) = 0
            have d1 : v ∣ (hd p).natAbs := Nat.dvd_of_mod_eq_zero hT
            exact Int.tmod_eq_zero_of_dvd (Int.ofNat_dvd_left.mpr d1)
          · show Nat.gcd x.natAbs ((v : Nat) : Int).natAbs = 1
            rw [hx]
            rw [Int.natAbs_natCast] at gg
            exact gg
        refine LJ6 e211_70 ?_
        refine LA0 e211_72 ?_
        refine Gr e211_73 (o152 L) (hR 152 7 157 rfl) f775 ?_
        refine LI1 e211_76 ?_
        refine AjN (k := (lw p)) e211_77 (o157 L) rfl (by omega) (by decide) ?_
        rw [hp (lw p) (by omega)]
        refine Cs1 e211_78 c211_153 (Nat.le_of_ble_eq_true rfl) (Nat.le_of_ble_eq_true rfl) ((m_size (x := p (lw p)) ⟨by omega, by omega⟩)) ?_
        refine D_gt e211_81 e211_82 t211_82 (fun q => absurd q (fun z => by rw [oI_lt ⟨by omega, by omega⟩ ⟨by omega, by omega⟩] at z; omega)) (fun _ => ?_)
        refine LA0 e211_85 ?_
        refine Gr e211_86 (o152 L) (hR 152 7 157 rfl) f775 ?_
        refine LI1 e211_89 ?_
        refine AjN (k := (lw p)) e211_90 (o157 L) rfl (by omega) (by decide) ?_
        rw [hp (lw p) (by omega)]
        refine LJ6 e211_91 ?_
        refine Lrem e211_93 hun ?_
        rw [oI_rem ⟨by omega, by omega⟩ hiu]
        refine K0 e211_94 ?_
        refine D_ne e211_95 e211_96 t211_96 (fun q => absurd q (fun z => z gmq)) (fun _ => ?_)
        refine LJ6 e211_99 ?_
        refine LJ4 e211_101 ?_
        refine Cs2 e211_103 c211_155 (Nat.le_of_ble_eq_true rfl) (Nat.le_of_ble_eq_true rfl) ((m_gcd (u := ((u : Nat) : Int)) (t := ((v : Nat) : Int)) ⟨by omega, by omega⟩ ⟨by omega, by omega⟩)) ?_
        refine K1 e211_106 ?_
        refine D_eq e211_107 e211_108 t211_108 (fun _ => ?_) (fun q => absurd (ggq) q)
        refine LA0 e211_114 ?_
        refine LJ6 e211_115 ?_
        refine LJ4 e211_117 ?_
        refine Cv2p e211_119 c211_210 (o152 L) (Nat.le_of_ble_eq_true rfl) (Nat.le_of_ble_eq_true rfl) (m_tries (a := ((u : Int), (v : Int))) (D := Di v u) hR hp hB hs h5 ⟨⟨by show -999 ≤ (u : Int); omega, by show (u : Int) ≤ 999; omega⟩, by show 1 ≤ (v : Int); omega, by show (v : Int) ≤ 999; omega⟩ hA hS (fun z => by
          rcases z with z | z | z
          · have z : (u : Int) = 0 := z
            omega
          · exact absurd z (Int.lt_irrefl _)
          · have z : (u : Int).natAbs < u := z.2
            omega) (fun z => hfq (u : Int) (by omega) (by omega) z)) ?_
        rintro _ I1 J1 R1 ⟨rfl, hR1, hI1, hJ1, F1, n1, hA1, hS1⟩
        have hR1 := hR1.symm
        subst hR1
        refine LA0 e211_122 ?_
        refine LJ6 e211_123 ?_
        refine Lneg e211_125 ?_
        rw [oI_neg]
        refine LJ4 e211_126 ?_
        refine Cv2p e211_128 c211_210 (o152 L) (Nat.le_of_ble_eq_true rfl) (Nat.le_of_ble_eq_true rfl) (m_tries (a := (-(u : Int), (v : Int))) (D := fun e => Di v u e ∨ e = ((u : Int), (v : Int))) hR (hp.tf hJ1 (by decide)) hB hs h5 ⟨⟨by show -999 ≤ -(u : Int); omega, by show -(u : Int) ≤ 999; omega⟩, by show 1 ≤ (v : Int); omega, by show (v : Int) ≤ 999; omega⟩ hA1 hS1 (fun z => by
          rcases z with (z | z | z) | z
          · have z : -(u : Int) = 0 := z
            omega
          · exact absurd z (Int.lt_irrefl _)
          · have z : (-(u : Int)).natAbs < u := z.2
            omega
          · have z := congrArg Prod.fst z
            have z : -(u : Int) = (u : Int) := z
            omega) (fun z => hfq (-(u : Int)) (by omega) (by omega) z)) ?_
        rintro _ I2 J2 R2 ⟨rfl, hR2, hI2, hJ2, F2, n2, hA2, hS2⟩
        have hR2 := hR2.symm
        subst hR2
        refine LJ6 e211_131 ?_
        refine K1 e211_133 ?_
        refine Ladd e211_134 ?_
        rw [s1_int]
        refine SJ6 e211_135 rfl ?_
        refine Go e211_137 t211_137 ?_
        exact ih (u + 1) I2 J2 F2 n2 (by omega) (by omega) ((hp.tf hJ1 (by decide)).tf hJ2 (by decide)) ((hI.tr hI1).tr hI2) ((hJ.tr hJ1).tr hJ2) hA2 (fi_two hu1 hS2)
      · have ggq : ¬ oI ((Nat.gcd ((u : Nat) : Int).natAbs ((v : Nat) : Int).natAbs : Nat) : Int) = 1 := fun z => by
          rw [oI_1, oI_eq ⟨by omega, by omega⟩ ⟨by decide, by decide⟩] at z
          omega
        refine LJ6 e211_70 ?_
        refine LA0 e211_72 ?_
        refine Gr e211_73 (o152 L) (hR 152 7 157 rfl) f775 ?_
        refine LI1 e211_76 ?_
        refine AjN (k := (lw p)) e211_77 (o157 L) rfl (by omega) (by decide) ?_
        rw [hp (lw p) (by omega)]
        refine Cs1 e211_78 c211_153 (Nat.le_of_ble_eq_true rfl) (Nat.le_of_ble_eq_true rfl) ((m_size (x := p (lw p)) ⟨by omega, by omega⟩)) ?_
        refine D_gt e211_81 e211_82 t211_82 (fun q => absurd q (fun z => by rw [oI_lt ⟨by omega, by omega⟩ ⟨by omega, by omega⟩] at z; omega)) (fun _ => ?_)
        refine LA0 e211_85 ?_
        refine Gr e211_86 (o152 L) (hR 152 7 157 rfl) f775 ?_
        refine LI1 e211_89 ?_
        refine AjN (k := (lw p)) e211_90 (o157 L) rfl (by omega) (by decide) ?_
        rw [hp (lw p) (by omega)]
        refine LJ6 e211_91 ?_
        refine Lrem e211_93 hun ?_
        rw [oI_rem ⟨by omega, by omega⟩ hiu]
        refine K0 e211_94 ?_
        refine D_ne e211_95 e211_96 t211_96 (fun q => absurd q (fun z => z gmq)) (fun _ => ?_)
        refine LJ6 e211_99 ?_
        refine LJ4 e211_101 ?_
        refine Cs2 e211_103 c211_155 (Nat.le_of_ble_eq_true rfl) (Nat.le_of_ble_eq_true rfl) ((m_gcd (u := ((u : Nat) : Int)) (t := ((v : Nat) : Int)) ⟨by omega, by omega⟩ ⟨by omega, by omega⟩)) ?_
        refine K1 e211_106 ?_
        refine D_eq e211_107 e211_108 t211_108 (fun q => absurd q (ggq)) (fun _ => ?_)
        refine Go e211_111 t211_111 ?_
        refine LJ6 e211_131 ?_
        refine K1 e211_133 ?_
        refine Ladd e211_134 ?_
        rw [s1_int]
        refine SJ6 e211_135 rfl ?_
        refine Go e211_137 t211_137 ?_
        refine ih (u + 1) I J F n (by omega) (by omega) hp hI hJ hA (fi_skip hS (fun e he h1 h2 h0 => ?_))
        have h3 := he.b.2
        rw [h1, h2] at h3
        rw [Int.natAbs_natCast u] at gg
        exact gg h3
    · have gmq : ¬ oI ((p (lw p)).tmod (u : Int)) = 0 := fun z => by
        rw [oI_0, oI_eq hib ⟨by decide, by decide⟩] at z
        exact gm z
      refine LJ6 e211_70 ?_
      refine LA0 e211_72 ?_
      refine Gr e211_73 (o152 L) (hR 152 7 157 rfl) f775 ?_
      refine LI1 e211_76 ?_
      refine AjN (k := (lw p)) e211_77 (o157 L) rfl (by omega) (by decide) ?_
      rw [hp (lw p) (by omega)]
      refine Cs1 e211_78 c211_153 (Nat.le_of_ble_eq_true rfl) (Nat.le_of_ble_eq_true rfl) ((m_size (x := p (lw p)) ⟨by omega, by omega⟩)) ?_
      refine D_gt e211_81 e211_82 t211_82 (fun q => absurd q (fun z => by rw [oI_lt ⟨by omega, by omega⟩ ⟨by omega, by omega⟩] at z; omega)) (fun _ => ?_)
      refine LA0 e211_85 ?_
      refine Gr e211_86 (o152 L) (hR 152 7 157 rfl) f775 ?_
      refine LI1 e211_89 ?_
      refine AjN (k := (lw p)) e211_90 (o157 L) rfl (by omega) (by decide) ?_
      rw [hp (lw p) (by omega)]
      refine LJ6 e211_91 ?_
      refine Lrem e211_93 hun ?_
      rw [oI_rem ⟨by omega, by omega⟩ hiu]
      refine K0 e211_94 ?_
      refine D_ne e211_95 e211_96 t211_96 (fun _ => ?_) (fun q => absurd (gmq) q)
      refine LJ6 e211_131 ?_
      refine K1 e211_133 ?_
      refine Ladd e211_134 ?_
      rw [s1_int]
      refine SJ6 e211_135 rfl ?_
      refine Go e211_137 t211_137 ?_
      refine ih (u + 1) I J F n (by omega) (by omega) hp hI hJ hA (fi_skip hS (fun e he h1 h2 h0 => ?_))
      rcases he with ⟨g, -⟩ | ⟨-, -, g, -⟩
      · exact h0 (by rw [g])
      · rw [h2] at g
        exact gm g
set_option maxHeartbeats 2000000 in
theorem m_fo_lp (hR : amRok R) (hB : PB 999 p) (hs : 0 < sz p) (h5 : sz p ≤ 5) {I0 : amI} {J0 : amJ} (hQ : ∀ I' J' F n, TfI I0 I' → TfJ J0 J' → FAm I' J' F n → FrSt p (fun _ => True) F n → Q none I' J' R) : ∀ (m v : Nat) (I : amI) (J : amJ) (F : Fq) (n : Nat) (l6 l7 : Option Value), v + m = (hd p).natAbs + 1 → 1 ≤ v → JP J 157 p → TfI I0 I → TfJ J0 J → FAm I J F n → FrSt p (Do v) F n → Ex 211 48 [some (.ref 152), some (.int (nI (lw p))), some (.long (oI (((hd p).natAbs : Nat) : Int))), none, some (.long (oI ((v : Nat) : Int))), none, l6, l7] [] (amSH L) I J R Q := by
  have hdb : (hd p).natAbs ≤ 999 := by
    have h9 := sz_le p
    have := hB (sz p - 1) (by omega)
    unfold hd
    rw [if_neg (by omega)]
    omega
  intro m
  induction m with
  | zero =>
    intro v I J F n l6 l7 hv hv1 hp hI hJ hA hS
    have e : v = (hd p).natAbs + 1 := by omega
    subst e
    refine LJ4 e211_48 ?_
    refine LJ2 e211_50 ?_
    refine D_gt e211_51 e211_52 t211_52 (fun _ => ?_) (fun q => absurd ((oI_lt ⟨by omega, by omega⟩ ⟨by omega, by omega⟩).mpr (by omega)) q)
    exact Rvd e211_149 rt211 (hQ _ _ _ _ hI hJ hA (fo_all hs hS))
  | succ m ih =>
    intro v I J F n l6 l7 hv hv1 hp hI hJ hA hS
    have hiv : iB ((v : Nat) : Int) := ⟨by omega, by omega⟩
    have hvn : ¬ oI ((v : Nat) : Int) = 0 := fun z => by
      rw [oI_0, oI_eq hiv ⟨by decide, by decide⟩] at z
      omega
    have hml := Nat.mod_le (hd p).natAbs v
    by_cases gm : (hd p).natAbs % v = 0
    · have gmq : oI (((hd p).natAbs % v : Nat) : Int) = 0 := by rw [gm]; rfl
      refine LJ4 e211_48 ?_
      refine LJ2 e211_50 ?_
      refine D_gt e211_51 e211_52 t211_52 (fun q => absurd q (fun z => by rw [oI_lt ⟨by omega, by omega⟩ ⟨by omega, by omega⟩] at z; omega)) (fun _ => ?_)
      refine LJ2 e211_55 ?_
      refine LJ4 e211_56 ?_
      refine Lrem e211_58 hvn ?_
      rw [nat_mod (by omega) (by omega)]
      refine K0 e211_59 ?_
      refine D_eq e211_60 e211_61 t211_61 (fun _ => ?_) (fun q => absurd (gmq) q)
      refine K1 e211_67 ?_
      refine SJ6 e211_68 rfl ?_
      refine m_fi_lp hR hB hs h5 hv1 (by omega) gm (I0 := I0) (J0 := J0) (fun I' J' F' n' g1 g2 g3 g4 => ?_) (p (lw p)).natAbs 1 I J F n (by omega) (by omega) hp hI hJ hA (fo_in hS)
      refine LJ4 e211_140 ?_
      refine K1 e211_142 ?_
      refine Ladd e211_143 ?_
      rw [s1_int]
      refine SJ4 e211_144 rfl ?_
      refine Go e211_146 t211_146 ?_
      exact ih (v + 1) I' J' F' n' _ _ (by omega) (by omega) (fun i hi => by rw [g2 157 (by decide) (by decide), ← hJ 157 (by decide) (by decide)]; exact hp i hi) g1 g2 g3 g4
    · have gmq : ¬ oI (((hd p).natAbs % v : Nat) : Int) = 0 := fun z => by
        rw [oI_0, oI_eq ⟨by omega, by omega⟩ ⟨by decide, by decide⟩] at z
        omega
      refine LJ4 e211_48 ?_
      refine LJ2 e211_50 ?_
      refine D_gt e211_51 e211_52 t211_52 (fun q => absurd q (fun z => by rw [oI_lt ⟨by omega, by omega⟩ ⟨by omega, by omega⟩] at z; omega)) (fun _ => ?_)
      refine LJ2 e211_55 ?_
      refine LJ4 e211_56 ?_
      refine Lrem e211_58 hvn ?_
      rw [nat_mod (by omega) (by omega)]
      refine K0 e211_59 ?_
      refine D_eq e211_60 e211_61 t211_61 (fun q => absurd q (gmq)) (fun _ => ?_)
      refine Go e211_64 t211_64 ?_
      refine LJ4 e211_140 ?_
      refine K1 e211_142 ?_
      refine Ladd e211_143 ?_
      rw [s1_int]
      refine SJ4 e211_144 rfl ?_
      refine Go e211_146 t211_146 ?_
      exact ih (v + 1) I J F n _ _ (by omega) (by omega) hp hI hJ hA (fo_skip hS hv1 gm)
set_option maxHeartbeats 2000000 in
theorem m_fl_lp (hR : amRok R) (hB : PB 999 p) (hs : 0 < sz p) (h5 : sz p ≤ 5) (hp : JP J 157 p) (hQ : Ex 211 24 [some (.ref 152), some (.int (nI (lw p))), none, none, none, none, none, none] [] (amSH L) I J R Q) : ∀ (f k : Nat), k + f = 4 → lwN p f k = lw p → Ex 211 7 [some (.ref 152), some (.int (nI k)), none, none, none, none, none, none] [] (amSH L) I J R Q := by
  intro f
  induction f with
  | zero =>
    intro k hk hl
    have e : k = lw p := hl
    have h0 := lw_nz hs h5
    rw [← e] at h0 hQ
    have hnz : ¬ oI (p k) = 0 := fun z => h0 (by rw [oI_0, oI_eq (hB.iB (by decide) (by omega)) ⟨by decide, by decide⟩] at z; exact z)
    refine LA0 e211_7 ?_
    refine Gr e211_8 (o152 L) (hR 152 7 157 rfl) f775 ?_
    refine LI1 e211_11 ?_
    refine AjN (k := k) e211_12 (o157 L) rfl (by omega) (by decide) ?_
    rw [hp k (by omega)]
    refine K0 e211_13 ?_
    refine D_ne e211_14 e211_15 t211_15 (fun _ => ?_) (fun q => absurd (hnz) q)
    exact hQ
  | succ f ih =>
    intro k hk hl
    rw [lwN] at hl
    by_cases e : p k = 0
    · rw [if_pos e] at hl
      have hz : oI (p k) = 0 := by rw [e]; rfl
      refine LA0 e211_7 ?_
      refine Gr e211_8 (o152 L) (hR 152 7 157 rfl) f775 ?_
      refine LI1 e211_11 ?_
      refine AjN (k := k) e211_12 (o157 L) rfl (by omega) (by decide) ?_
      rw [hp k (by omega)]
      refine K0 e211_13 ?_
      refine D_ne e211_14 e211_15 t211_15 (fun q => absurd q (fun z => z hz)) (fun _ => ?_)
      refine IncN1 (m := k) e211_18 rfl ?_
      refine Go e211_21 t211_21 ?_
      exact ih (k + 1) (by omega) hl
    · rw [if_neg e] at hl
      rw [← hl] at hQ
      have hnz : ¬ oI (p k) = 0 := fun z => e (by rw [oI_0, oI_eq (hB.iB (by decide) (by omega)) ⟨by decide, by decide⟩] at z; exact z)
      refine LA0 e211_7 ?_
      refine Gr e211_8 (o152 L) (hR 152 7 157 rfl) f775 ?_
      refine LI1 e211_11 ?_
      refine AjN (k := k) e211_12 (o157 L) rfl (by omega) (by decide) ?_
      rw [hp k (by omega)]
      refine K0 e211_13 ?_
      refine D_ne e211_14 e211_15 t211_15 (fun _ => ?_) (fun q => absurd (hnz) q)
      exact hQ
set_option maxHeartbeats 2000000 in
theorem m_finds (hR : amRok R) (hB : PB 999 p) (hs : 0 < sz p) (h5 : sz p ≤ 5) (hp : JP J 157 p) : Cl 211 [.ref 152] (amSH L) I J R (fun v I' J' R' => v = none ∧ R' = R ∧ TfI I I' ∧ TfJ J J' ∧ ∃ F n, FAm I' J' F n ∧ FrSt p (fun _ => True) F n) := by
  have hl4 : lw p ≤ 4 := by have := lwN_le (p := p) (f := 4) (k := 0); unfold lw; omega
  have hhb : iB (hd p) := hd_iB hB (by decide)
  have hA0 : ∀ F : Fq, FAm (amU I 152 31 0) J F 0 := fun F => ⟨by rw [amU_same]; rfl, fun k hk => absurd hk (Nat.not_lt_zero _)⟩
  show Ex 211 0 [some (.ref 152), none, none, none, none, none, none, none] [] (amSH L) I J R _
  refine LA0 e211_0 ?_
  refine Ki e211_1 kiconst_0 ?_
  refine Pi e211_2 (o152 L) f799 ?_
  refine Ki e211_5 kiconst_0 ?_
  refine SI1 e211_6 rfl ?_
  refine m_fl_lp hR hB hs h5 hp ?_ 4 0 (by decide) rfl
  by_cases g : lw p = 0
  · refine LI1 e211_24 ?_
    refine B_le e211_25 t211_25 (fun _ => ?_) (fun q => absurd (by rw [g]; decide) q)
    refine LA0 e211_34 ?_
    refine Gr e211_35 (o152 L) (hR 152 7 157 rfl) f775 ?_
    refine Cs1 e211_38 c211_174 (Nat.le_of_ble_eq_true rfl) (Nat.le_of_ble_eq_true rfl) ((m_head (o157 L) hp (hB.mono (by decide)) hs)) ?_
    refine Cs1 e211_41 c211_153 (Nat.le_of_ble_eq_true rfl) (Nat.le_of_ble_eq_true rfl) ((m_size hhb)) ?_
    refine SJ2 e211_44 rfl ?_
    refine K1 e211_45 ?_
    refine SJ4 e211_46 rfl ?_
    exact m_fo_lp hR hB hs h5 (fun I' J' F n g1 g2 g3 g4 => ⟨rfl, rfl, TfI.rf.up.tr g1, g2, F, n, g3, g4⟩) (hd p).natAbs 1 _ J (fun _ => (0, 0)) 0 _ _ (by omega) (by omega) hp TfI.rf TfJ.rf (hA0 _) (fo_st0 g)
  · refine LI1 e211_24 ?_
    refine B_le e211_25 t211_25 (fun q => absurd q (nI_np (by omega))) (fun _ => ?_)
    refine LA0 e211_28 ?_
    refine K0 e211_29 ?_
    refine K1 e211_30 ?_
    refine Cv2p e211_31 c211_210 (o152 L) (Nat.le_of_ble_eq_true rfl) (Nat.le_of_ble_eq_true rfl) (m_tries (a := (0, 1)) (D := fun _ => False) hR hp hB hs h5 ⟨⟨by decide, by decide⟩, by decide, by decide⟩ (hA0 (fun _ => (0, 0))) FrSt.none (fun z => z) (fun _ => Or.inl ⟨rfl, by omega⟩)) ?_
    rintro _ I1 J1 R1 ⟨rfl, hR1, hI1, hJ1, F1, n1, hA1, hS1⟩
    have hR1 := hR1.symm
    subst hR1
    have hS2 : FrSt p (Do 1) F1 n1 := hS1.cg (fun e he => by
      unfold Do
      constructor
      · intro q
        rcases q with q | q
        · exact q.elim
        · exact Or.inl (by rw [q])
      · intro q
        rcases q with q | q
        · exact Or.inr (he.e0 q).1
        · have := he.b.1.2.1
          omega)
    refine LA0 e211_34 ?_
    refine Gr e211_35 (o152 L) (hR 152 7 157 rfl) f775 ?_
    refine Cs1 e211_38 c211_174 (Nat.le_of_ble_eq_true rfl) (Nat.le_of_ble_eq_true rfl) ((m_head (o157 L) (hp.tf hJ1 (by decide)) (hB.mono (by decide)) hs)) ?_
    refine Cs1 e211_41 c211_153 (Nat.le_of_ble_eq_true rfl) (Nat.le_of_ble_eq_true rfl) ((m_size hhb)) ?_
    refine SJ2 e211_44 rfl ?_
    refine K1 e211_45 ?_
    refine SJ4 e211_46 rfl ?_
    exact m_fo_lp hR hB hs h5 (fun I' J' F n g1 g2 g3 g4 => ⟨rfl, rfl, (TfI.rf.up.tr hI1).tr g1, hJ1.tr g2, F, n, g3, g4⟩) (hd p).natAbs 1 I1 J1 F1 n1 _ _ (by omega) (by omega) (hp.tf hJ1 (by decide)) TfI.rf TfJ.rf hA1 hS2
set_option maxHeartbeats 2000000 in
theorem n_fraction {p y q : Int32} (h : MSt I J R σ) : Cl 212 [.ref 152, .int p, .int y, .int q] (amSH L) I J R (MP I J R σ (.long (sFraction σ.1 p y q))) := by
  obtain ⟨hR, hPl, -, -, -, -, hO⟩ := id h
  have h8 := hO.1.1
  have hk0 : MK I (amU I 152 9 0) J J := ⟨fun y i a b c => by unfold amU; rw [if_neg (by omega)], fun _ _ => rfl⟩
  have h0 : MSt (amU I 152 9 0) J R σ := h.k hk0
  unfold sFraction
  show Ex 212 0 [some (.ref 152), some (.int p), some (.int y), some (.int q)] [] (amSH L) I J R _
  by_cases hp : inP σ.1 p
  · rw [if_pos hp]
    obtain ⟨k, hk, rfl, ek⟩ := hp.of h8
    have hok := hO.1.2 k hk
    rw [ek]
    have h5 := hok.2.2
    have ei : bI (decide (inP σ.1 (nI k))) = 1 := by rw [decide_eq_true hp]; rfl
    by_cases e1 : y = -1
    · rw [if_pos e1]
      have y0 : y < 0 := by rw [e1]; decide
      have y1 : ¬ y < -1 := by rw [e1]; decide
      refine LA0 e212_0 ?_
      refine LI1 e212_1 ?_
      refine Cv1 e212_2 c212_157 (o152 L) (Nat.le_of_ble_eq_true rfl) (Nat.le_of_ble_eq_true rfl) ((m_isPoly h8 hPl.1)) ?_
      rw [ei]
      refine B_eq e212_5 t212_5 (fun q => absurd q (by decide)) (fun _ => ?_)
      refine LI2 e212_8 ?_
      refine Ki e212_9 kiconst_m1 ?_
      refine C_lt e212_10 t212_10 (fun q => absurd q (y1)) (fun _ => ?_)
      refine LI2 e212_13 ?_
      refine B_lt e212_14 t212_14 (fun _ => ?_) (fun q => absurd (y0) q)
      refine LA0 e212_31 ?_
      refine LI1 e212_32 ?_
      refine LA0 e212_33 ?_
      refine Gr e212_34 (o152 L) (hR 152 7 157 rfl) f775 ?_
      refine Cv2p e212_37 c212_163 (o152 L) (Nat.le_of_ble_eq_true rfl) (Nat.le_of_ble_eq_true rfl) (m_loads hR (o157 L) (by omega) (fun i hi => hPl.2 k i hk hi) hok) ?_
      rintro _ I1 J1 R1 ⟨rfl, hI1, hR1, hF1, hP1⟩
      have hI1 := hI1.symm
      subst hI1
      have hR1 := hR1.symm
      subst hR1
      refine LA0 e212_40 ?_
      refine Cv0p e212_41 c212_211 (o152 L) (Nat.le_of_ble_eq_true rfl) (Nat.le_of_ble_eq_true rfl) (m_finds hR hok.1 hok.2.1 hok.2.2 hP1) ?_
      rintro _ I2 J2 R2 ⟨rfl, hR2, hI2, hJ2, F, n, hA, hS⟩
      have hR2 := hR2.symm
      subst hR2
      obtain ⟨en, eF⟩ := frE_of hS
      have hn4 := hS.lt hok.2.1 hok.2.2
      have hk2 : MK I I2 J J2 := ⟨fun y i a b c => hI2 y i (by omega), fun y hy => by rw [hJ2 y (by omega) (by omega), hF1 y (by omega)]⟩
      rw [← en]
      have ht : (nI n).toInt = n := nI_toInt (by omega)
      have h01 : (0 : Int32).toInt = 0 := rfl
      refine LI2 e212_44 ?_
      refine LA0 e212_45 ?_
      refine Gi e212_46 (o152 L) (amGi_of f799 (by decide)) ?_
      rw [hA.1]
      refine C_lt e212_49 t212_49 (fun _ => ?_) (fun q => absurd (by rw [i32lt, ht]; have := i32lt.mp y0; rw [h01] at this; omega) q)
      refine LI2 e212_56 ?_
      refine B_ge e212_57 t212_57 (fun q => absurd q (Int32.not_le.mpr y0)) (fun _ => ?_)
      refine LA0 e212_60 ?_
      refine Gi e212_61 (o152 L) (amGi_of f799 (by decide)) ?_
      rw [hA.1]
      refine I2l e212_64 ?_
      refine Go e212_65 t212_65 ?_
      exact Rj e212_87 rt212 (MP.k h hk2)
    · rw [if_neg e1]
      have y1e : y < -1 ↔ y.toInt < 0 := by
        rw [i32lt, show (-1 : Int32).toInt = -1 from by decide]
        constructor
        · intro z; omega
        · intro z
          rcases (by omega : y.toInt = -1 ∨ y.toInt < -1) with z | z
          · exact absurd (Int32.toInt_inj.mp (by rw [z]; decide)) e1
          · exact z
      by_cases y0 : y.toInt < 0
      · have y1 : y < -1 := y1e.mpr y0
        rw [if_neg (fun z => absurd z.1.1 (by omega))]
        refine LA0 e212_0 ?_
        refine LI1 e212_1 ?_
        refine Cv1 e212_2 c212_157 (o152 L) (Nat.le_of_ble_eq_true rfl) (Nat.le_of_ble_eq_true rfl) ((m_isPoly h8 hPl.1)) ?_
        rw [ei]
        refine B_eq e212_5 t212_5 (fun q => absurd q (by decide)) (fun _ => ?_)
        refine LI2 e212_8 ?_
        refine Ki e212_9 kiconst_m1 ?_
        refine C_lt e212_10 t212_10 (fun _ => ?_) (fun q => absurd (y1) q)
        refine Kd e212_27 kj4 ?_
        exact Rj e212_30 rt212 (MP.rf h)
      · have y1 : ¬ y < -1 := fun z => y0 (y1e.mp z)
        have y2 : ¬ y < 0 := by rw [i32lt, show (0 : Int32).toInt = 0 from rfl]; exact y0
        by_cases hq : (0 ≤ q.toInt ∧ q.toInt ≤ 1)
        · have hqq := hq
          refine LA0 e212_0 ?_
          refine LI1 e212_1 ?_
          refine Cv1 e212_2 c212_157 (o152 L) (Nat.le_of_ble_eq_true rfl) (Nat.le_of_ble_eq_true rfl) ((m_isPoly h8 hPl.1)) ?_
          rw [ei]
          refine B_eq e212_5 t212_5 (fun q => absurd q (by decide)) (fun _ => ?_)
          refine LI2 e212_8 ?_
          refine Ki e212_9 kiconst_m1 ?_
          refine C_lt e212_10 t212_10 (fun q => absurd q (y1)) (fun _ => ?_)
          refine LI2 e212_13 ?_
          refine B_lt e212_14 t212_14 (fun q => absurd q (y2)) (fun _ => ?_)
          refine LI3 e212_17 ?_
          refine I2l e212_18 ?_
          refine K0 e212_19 ?_
          refine K1 e212_20 ?_
          refine Cs3 e212_21 c212_152 (Nat.le_of_ble_eq_true rfl) (Nat.le_of_ble_eq_true rfl) (m_in) ?_
          rw [show decide ((0 : Int64) ≤ q.toInt64 ∧ q.toInt64 ≤ 1) = decide ((0 : Int32).toInt ≤ q.toInt ∧ q.toInt ≤ (1 : Int32).toInt) from min64 (a := 0) (b := 1), decide_eq_true (show (0 : Int32).toInt ≤ q.toInt ∧ q.toInt ≤ (1 : Int32).toInt from hq)]
          rw [show bI true = 1 from rfl]
          refine B_ne e212_24 t212_24 (fun _ => ?_) (fun q => absurd (by decide) q)
          refine LA0 e212_31 ?_
          refine LI1 e212_32 ?_
          refine LA0 e212_33 ?_
          refine Gr e212_34 (o152 L) (hR 152 7 157 rfl) f775 ?_
          refine Cv2p e212_37 c212_163 (o152 L) (Nat.le_of_ble_eq_true rfl) (Nat.le_of_ble_eq_true rfl) (m_loads hR (o157 L) (by omega) (fun i hi => hPl.2 k i hk hi) hok) ?_
          rintro _ I1 J1 R1 ⟨rfl, hI1, hR1, hF1, hP1⟩
          have hI1 := hI1.symm
          subst hI1
          have hR1 := hR1.symm
          subst hR1
          refine LA0 e212_40 ?_
          refine Cv0p e212_41 c212_211 (o152 L) (Nat.le_of_ble_eq_true rfl) (Nat.le_of_ble_eq_true rfl) (m_finds hR hok.1 hok.2.1 hok.2.2 hP1) ?_
          rintro _ I2 J2 R2 ⟨rfl, hR2, hI2, hJ2, F, n, hA, hS⟩
          have hR2 := hR2.symm
          subst hR2
          obtain ⟨en, eF⟩ := frE_of hS
          have hn4 := hS.lt hok.2.1 hok.2.2
          have hk2 : MK I I2 J J2 := ⟨fun y i a b c => hI2 y i (by omega), fun y hy => by rw [hJ2 y (by omega) (by omega), hF1 y (by omega)]⟩
          rw [← en]
          have ht : (nI n).toInt = n := nI_toInt (by omega)
          have h01 : (0 : Int32).toInt = 0 := rfl
          obtain ⟨t, hty, rfl⟩ : ∃ t : Nat, (t : Int) = y.toInt ∧ y = nI t := ⟨y.toInt.toNat, by omega, by rw [← Int32.toInt_inj, nI_toInt (by have := Int32.toInt_lt y; omega)]; omega⟩
          have ht9 : t < 2147483648 := by have := Int32.toInt_lt (nI t); omega
          by_cases htn : t < n
          · rw [if_pos ⟨⟨by omega, by omega⟩, hq⟩]
            have et : (nI t).toInt.toNat = t := by omega
            rw [et, ← eF t htn]
            have hfb := hS.1 t htn
            obtain ⟨f1, f2⟩ := hA.2 t htn
            by_cases q0 : q = 0
            · rw [if_pos q0, iI_64 (by have := hfb.1; omega), ← f1]
              refine LI2 e212_44 ?_
              refine LA0 e212_45 ?_
              refine Gi e212_46 (o152 L) (amGi_of f799 (by decide)) ?_
              rw [hA.1]
              refine CN_lt (a := t) (b := n) e212_49 t212_49 rfl rfl (by omega) (by omega) (fun _ => ?_) (fun q => by omega)
              refine LI2 e212_56 ?_
              refine B_ge e212_57 t212_57 (fun _ => ?_) (fun q => absurd ((by rw [i32le, h01]; omega)) q)
              refine LI3 e212_68 ?_
              refine B_ne e212_69 t212_69 (fun q => absurd q (fun z => z q0)) (fun _ => ?_)
              refine LA0 e212_72 ?_
              refine Gr e212_73 (o152 L) (hR 152 29 188 rfl) f797 ?_
              refine LI2 e212_76 ?_
              refine AjN (k := t) e212_77 (o188 L) rfl (by omega) (by decide) ?_
              refine Go e212_78 t212_78 ?_
              exact Rj e212_87 rt212 (MP.k h hk2)
            · rw [if_neg q0, iI_64 (by have := hfb.2; omega), ← f2]
              refine LI2 e212_44 ?_
              refine LA0 e212_45 ?_
              refine Gi e212_46 (o152 L) (amGi_of f799 (by decide)) ?_
              rw [hA.1]
              refine CN_lt (a := t) (b := n) e212_49 t212_49 rfl rfl (by omega) (by omega) (fun _ => ?_) (fun q => by omega)
              refine LI2 e212_56 ?_
              refine B_ge e212_57 t212_57 (fun _ => ?_) (fun q => absurd ((by rw [i32le, h01]; omega)) q)
              refine LI3 e212_68 ?_
              refine B_ne e212_69 t212_69 (fun _ => ?_) (fun q => absurd (q0) q)
              refine LA0 e212_81 ?_
              refine Gr e212_82 (o152 L) (hR 152 30 189 rfl) f798 ?_
              refine LI2 e212_85 ?_
              refine AjN (k := t) e212_86 (o189 L) rfl (by omega) (by decide) ?_
              exact Rj e212_87 rt212 (MP.k h hk2)
          · rw [if_neg (fun z => by have := z.1.2; omega)]
            refine LI2 e212_44 ?_
            refine LA0 e212_45 ?_
            refine Gi e212_46 (o152 L) (amGi_of f799 (by decide)) ?_
            rw [hA.1]
            refine CN_lt (a := t) (b := n) e212_49 t212_49 rfl rfl (by omega) (by omega) (fun q => absurd q (htn)) (fun _ => ?_)
            refine Kd e212_52 kj4 ?_
            exact Rj e212_55 rt212 (MP.k h hk2)
        · rw [if_neg (fun z => hq z.2)]
          refine LA0 e212_0 ?_
          refine LI1 e212_1 ?_
          refine Cv1 e212_2 c212_157 (o152 L) (Nat.le_of_ble_eq_true rfl) (Nat.le_of_ble_eq_true rfl) ((m_isPoly h8 hPl.1)) ?_
          rw [ei]
          refine B_eq e212_5 t212_5 (fun q => absurd q (by decide)) (fun _ => ?_)
          refine LI2 e212_8 ?_
          refine Ki e212_9 kiconst_m1 ?_
          refine C_lt e212_10 t212_10 (fun q => absurd q (y1)) (fun _ => ?_)
          refine LI2 e212_13 ?_
          refine B_lt e212_14 t212_14 (fun q => absurd q (y2)) (fun _ => ?_)
          refine LI3 e212_17 ?_
          refine I2l e212_18 ?_
          refine K0 e212_19 ?_
          refine K1 e212_20 ?_
          refine Cs3 e212_21 c212_152 (Nat.le_of_ble_eq_true rfl) (Nat.le_of_ble_eq_true rfl) (m_in) ?_
          rw [show decide ((0 : Int64) ≤ q.toInt64 ∧ q.toInt64 ≤ 1) = decide ((0 : Int32).toInt ≤ q.toInt ∧ q.toInt ≤ (1 : Int32).toInt) from min64 (a := 0) (b := 1), decide_eq_false (show ¬ ((0 : Int32).toInt ≤ q.toInt ∧ q.toInt ≤ (1 : Int32).toInt) from hq)]
          rw [show bI false = 0 from rfl]
          refine B_ne e212_24 t212_24 (fun q => absurd q ((fun z => z rfl))) (fun _ => ?_)
          refine Kd e212_27 kj4 ?_
          exact Rj e212_30 rt212 (MP.rf h)
  · rw [if_neg hp]
    refine LA0 e212_0 ?_
    refine LI1 e212_1 ?_
    refine Cv1 e212_2 c212_157 (o152 L) (Nat.le_of_ble_eq_true rfl) (Nat.le_of_ble_eq_true rfl) ((m_isPoly h8 hPl.1)) ?_
    rw [show bI (decide (inP σ.1 p)) = 0 from by rw [decide_eq_false hp]; rfl]
    refine B_eq e212_5 t212_5 (fun _ => ?_) (fun q => absurd (rfl) q)
    refine Kd e212_27 kj4 ?_
    exact Rj e212_30 rt212 (MP.rf h)
end REF27
