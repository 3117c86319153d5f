/-! cleaning (printed by wip/whole/t21.py) -/
section POLY3
variable {S : amS} {I : amI} {J : amJ} {R : amR} {Q : amQ} {a b c : Nat} {p q : Po}
/-- the greatest common divisor of the first n -/
def gN (p : Po) : Nat → Nat
  | 0 => 0
  | n + 1 => Nat.gcd (gN p n) (p n).natAbs
theorem gN_one {p : Po} {n m : Nat} (h : gN p n = 1) (hm : n ≤ m) : gN p m = 1 := by
  induction m with
  | zero => rw [show n = 0 from by omega] at h; exact h
  | succ m ih =>
    by_cases e : n = m + 1
    · rw [← e]; exact h
    · show Nat.gcd (gN p m) _ = 1
      rw [ih (by omega), Nat.gcd_one_left]
theorem gN_le {p : Po} {B : Nat} : ∀ {n : Nat}, (∀ k, k < n → (p k).natAbs ≤ B) → gN p n ≤ B
  | 0, _ => Nat.zero_le _
  | n + 1, h => by
    have h1 := gN_le (n := n) (fun k hk => h k (by omega))
    have h2 := h n (by omega)
    show Nat.gcd (gN p n) (p n).natAbs ≤ B
    by_cases e : (p n).natAbs = 0
    · rw [e, Nat.gcd_zero_right]; exact h1
    · exact Nat.le_trans (Nat.gcd_le_right _ (by omega)) h2
theorem gN_dvd {p : Po} : ∀ {n k : Nat}, k < n → gN p n ∣ (p k).natAbs
  | 0, _, h => absurd h (Nat.not_lt_zero _)
  | n + 1, k, h => by
    show Nat.gcd (gN p n) (p n).natAbs ∣ _
    by_cases e : k = n
    · subst e; exact Nat.gcd_dvd_right _ _
    · exact Nat.dvd_trans (Nat.gcd_dvd_left _ _) (gN_dvd (by omega))
/-- divided by what divides all -/
def cln (p : Po) : Po := fun k => (p k).tdiv (gN p 9 : Nat)
def fitN (p : Po) : Nat → Bool
  | 0 => true
  | n + 1 => fitN p n && decide (-1000000 ≤ p n ∧ p n ≤ 1000000)
/-- cleaned, it fits -/
def fit (p : Po) : Bool := fitN (cln p) 9
theorem fitN_iff {p : Po} : ∀ {n : Nat}, fitN p n = true ↔ ∀ k, k < n → -1000000 ≤ p k ∧ p k ≤ 1000000
  | 0 => ⟨fun _ k h => absurd h (Nat.not_lt_zero k), fun _ => rfl⟩
  | n + 1 => by
    unfold fitN
    rw [Bool.and_eq_true, decide_eq_true_eq, fitN_iff]
    exact ⟨fun h k hk => if e : k = n then e ▸ h.2 else h.1 k (by omega), fun h => ⟨fun k hk => h k (by omega), h n (by omega)⟩⟩
def bI (b : Bool) : Int32 := if b then 1 else 0
theorem bI_01 : ∀ b, bI b = 0 ∨ bI b = 1 := by decide
theorem JU.keep {J' : amJ} {x i : Nat} {F : Nat → Int64} (h : JU J J' x i F) (hv : J x i = F i) : JU J J' x (i + 1) F := by
  refine ⟨h.1, fun k => ?_⟩
  rw [h.2 k]
  by_cases e : k = i
  · subst e; rw [if_neg (by omega), if_pos (by omega), hv]
  · by_cases g : k < i
    · rw [if_pos g, if_pos (by omega)]
    · rw [if_neg g, if_neg (by omega)]
/-- a method that changes row x alone, to p, and answers b -/
abbrev Rb (k : Nat) (as : List Value) (S : amS) (I : amI) (J : amJ) (R : amR) (x : Nat) (p : Po) (b : Bool) : Prop := Cl k as S I J R (fun v I' J' R' => v = some (.int (bI b)) ∧ I' = I ∧ R' = R ∧ Fr J J' x ∧ JP J' x p)
theorem oI_nb {n : Nat} (h : n ≤ 4000000000000000000) : iB (n : Int) := ⟨by omega, by omega⟩
theorem oI_n0 {n : Nat} (h : n ≤ 4000000000000000000) : oI (n : Int) = 0 ↔ n = 0 := by
  rw [oI_0, oI_eq (oI_nb h) ⟨by decide, by decide⟩]; omega
theorem PB.nab {p : Po} (hB : PB 4000000000000000000 p) {k : Nat} (hk : k < 9) : (p k).natAbs ≤ 4000000000000000000 := by
  obtain ⟨h1, h2⟩ := hB k hk; omega
theorem gN_b {p : Po} (hB : PB 4000000000000000000 p) {n : Nat} (hn : n ≤ 9) : gN p n ≤ 4000000000000000000 := gN_le (fun k hk => hB.nab (by omega))
set_option maxHeartbeats 2000000 in
theorem p_euc_1 {o i d r : Nat} {l7 : Option Value} (ho : o < 100) (hi : i < 1000) (hd : d ≤ 4000000000000000000) (hr : r ≤ 4000000000000000000) (h0 : ¬ r = 0) (k : Ex 17 48 [some (.ref a), some (.long (oI (r : Nat))), none, some (.int (nI o)), some (.long (oI ((d % r : Nat) : Int))), none, some (.int (nI (i + 1))), some (.long (oI ((d % r : Nat) : Int))), none] [] S I J R Q) : Ex 17 48 [some (.ref a), some (.long (oI (d : Nat))), none, some (.int (nI o)), some (.long (oI (r : Nat))), none, some (.int (nI i)), l7, none] [] S I J R Q := by
  have e : oI (d : Nat) - oI (d : Nat) / oI (r : Nat) * oI (r : Nat) = oI ((d % r : Nat) : Int) := by
    rw [oI_rem (oI_nb hd) (oI_nb hr)]; rfl
  refine LI6 e17_48 ?_
  refine Ki e17_50 ksipush_1000 ?_
  refine CN_ge (a := i) (b := 1000) e17_53 t17_53 rfl (by decide) (by omega) (by omega) (fun q => absurd q (by omega)) (fun _ => ?_)
  refine LJ4 e17_56 ?_
  refine K0 e17_58 ?_
  refine D_eq e17_59 e17_60 t17_60 (fun q => absurd q (fun z => h0 ((oI_n0 hr).mp z))) (fun _ => ?_)
  refine LJ1 e17_63 ?_
  refine LJ4 e17_64 ?_
  refine Lrem e17_66 (fun z => h0 ((oI_n0 hr).mp z)) ?_
  rw [e]
  refine SJ7 e17_67 rfl ?_
  refine LJ4 e17_69 ?_
  refine SJ1 e17_71 rfl ?_
  refine LJ7 e17_72 ?_
  refine SJ4 e17_74 rfl ?_
  refine IncN6 (m := i) e17_76 rfl ?_
  refine Go e17_79 t17_79 ?_
  exact k
set_option maxHeartbeats 2000000 in
theorem p_euc {o : Nat} (ho : o < 100) : ∀ (k i d r : Nat) (l7 : Option Value), r < 2 ^ k → i + 2 * k ≤ 900 → d ≤ 4000000000000000000 → r ≤ 4000000000000000000 → (∀ m l6 l7, Ex 17 82 [some (.ref a), some (.long (oI (Nat.gcd d r : Nat))), none, some (.int (nI o)), m, none, l6, l7, none] [] S I J R Q) → Ex 17 48 [some (.ref a), some (.long (oI (d : Nat))), none, some (.int (nI o)), some (.long (oI (r : Nat))), none, some (.int (nI i)), l7, none] [] S I J R Q := by
  have z : ∀ (i d : Nat) (l7 : Option Value), i ≤ 902 → (∀ m l6 l7, Ex 17 82 [some (.ref a), some (.long (oI (Nat.gcd d 0 : Nat))), none, some (.int (nI o)), m, none, l6, l7, none] [] S I J R Q) → Ex 17 48 [some (.ref a), some (.long (oI (d : Nat))), none, some (.int (nI o)), some (.long (oI ((0 : Nat) : Int))), none, some (.int (nI i)), l7, none] [] S I J R Q := by
    intro i d l7 hi hK
    refine LI6 e17_48 ?_
    refine Ki e17_50 ksipush_1000 ?_
    refine CN_ge (a := i) (b := 1000) e17_53 t17_53 rfl (by decide) (by omega) (by omega) (fun q => absurd q (by omega)) (fun _ => ?_)
    refine LJ4 e17_56 ?_
    refine K0 e17_58 ?_
    refine D_eq e17_59 e17_60 t17_60 (fun _ => ?_) (fun q => absurd (rfl) q)
    have := hK (some (.long (oI ((0 : Nat) : Int)))) (some (.int (nI i))) l7
    rw [Nat.gcd_zero_right] at this
    exact this
  intro k
  induction k with
  | zero =>
    intro i d r l7 h hi hd hr hK
    have : r = 0 := by rw [Nat.pow_zero] at h; omega
    subst this
    exact z i d l7 (by omega) hK
  | succ k ih =>
    intro i d r l7 h hi hd hr hK
    by_cases e : r = 0
    · subst e; exact z i d l7 (by omega) hK
    · have g1 : d % r < r := Nat.mod_lt _ (by omega)
      refine p_euc_1 ho (by omega) hd hr e ?_
      have k1 : Nat.gcd d r = Nat.gcd r (d % r) := by rw [Nat.gcd_comm d r, Nat.gcd_rec r d, Nat.gcd_comm]
      rw [k1] at hK
      by_cases e2 : d % r = 0
      · rw [e2] at hK ⊢
        exact z (i + 1) r _ (by omega) hK
      · refine p_euc_1 ho (by omega) hr (by omega) e2 ?_
        have k2 : Nat.gcd r (d % r) = Nat.gcd (d % r) (r % (d % r)) := by rw [Nat.gcd_comm r, Nat.gcd_rec, Nat.gcd_comm]
        rw [k2] at hK
        have g2 : r % (d % r) < d % r := Nat.mod_lt _ (by omega)
        have g3 : 2 * (r % (d % r)) < r := by
          have q1 := Nat.div_add_mod r (d % r)
          have q2 : 1 ≤ r / (d % r) := (Nat.one_le_div_iff (by omega)).mpr (by omega)
          have q3 : (d % r) * 1 ≤ (d % r) * (r / (d % r)) := Nat.mul_le_mul_left _ q2
          omega
        refine ih (i + 1 + 1) _ _ _ ?_ (by omega) (by omega) (by omega) hK
        rw [Nat.pow_succ] at h
        omega
set_option maxHeartbeats 2000000 in
theorem p_div_lp (ha : amPO S R a) (hp : JP J (a + 1) p) (hB : PB 4000000000000000000 p) (hQ : ∀ l3 l4 l6 l7, Ex 17 88 [some (.ref a), some (.long (oI (gN p 9 : Nat))), none, l3, l4, none, l6, l7, none] [] S I J R Q) : ∀ (n i : Nat) (l4 l6 l7 : Option Value), 9 - i < n → i ≤ 9 → Ex 17 4 [some (.ref a), some (.long (oI (gN p i : Nat))), none, some (.int (nI i)), l4, none, l6, l7, none] [] S I J R Q := by
  intro n
  induction n with
  | zero => intro i l4 l6 l7 h; omega
  | succ n ih =>
    intro i l4 l6 l7 h h9
    have K : i < 9 → Ex 17 43 [some (.ref a), some (.long (oI (gN p i : Nat))), none, some (.int (nI i)), l4, none, l6, l7, none] [.long (oI ((p i).natAbs : Nat))] S I J R Q := by
      intro hi
      refine SJ4 e17_43 rfl ?_
      refine Ki e17_45 kiconst_0 ?_
      refine SI6 e17_46 rfl ?_
      exact p_euc (by omega) 62 0 _ _ l7 (by have := hB.nab (k := i) (by omega); omega) (by omega) (gN_b hB (by omega)) (hB.nab (by omega)) (fun m l6 l7 => by
        refine IncN3 (m := i) e17_82 rfl ?_
        refine Go e17_85 t17_85 ?_
        exact ih (i + 1) _ _ _ (by omega) (by omega))
    refine LI3 e17_4 ?_
    refine Ki e17_5 kbipush_9 ?_
    refine CN_ge (a := i) (b := 9) e17_7 t17_7 rfl (by decide) (by omega) (by omega) (fun h7 => ?_) (fun h7 => ?_)
    · have e9 : i = 9 := by omega
      subst e9
      exact hQ _ _ _ _
    · refine LJ1 e17_10 ?_
      refine K1 e17_11 ?_
      refine D_eq e17_12 e17_13 t17_13 (fun h12 => ?_) (fun h12 => ?_)
      · have e1 : gN p i = 1 := by
          rw [oI_1, oI_eq (oI_nb (gN_b hB (by omega))) ⟨by decide, by decide⟩] at h12
          omega
        have e2 := gN_one e1 h9
        rw [e1, ← e2]
        exact hQ _ _ _ _
      · refine LA0 e17_16 ?_
        refine Gr e17_17 ha.1 ha.2.1 f448 ?_
        refine LI3 e17_20 ?_
        refine AjN (k := i) e17_21 ha.2.2 rfl (by omega) (by decide) ?_
        refine K0 e17_22 ?_
        refine D_ge e17_23 e17_24 t17_24 (fun h23 => ?_) (fun h23 => ?_)
        · refine LA0 e17_37 ?_
          refine Gr e17_38 ha.1 ha.2.1 f448 ?_
          refine LI3 e17_41 ?_
          refine AjN (k := i) e17_42 ha.2.2 rfl (by omega) (by decide) ?_
          have e : oI ((p i).natAbs : Nat) = J (a + 1) i := by
            have hb := hB.iB (by decide) (show i < 9 by omega)
            rw [hp i (by omega), oI_0, oI_le ⟨by decide, by decide⟩ hb] at h23
            rw [hp i (by omega)]
            congr 1
            omega
          rw [← e]
          exact K (by omega)
        · refine LA0 e17_27 ?_
          refine Gr e17_28 ha.1 ha.2.1 f448 ?_
          refine LI3 e17_31 ?_
          refine AjN (k := i) e17_32 ha.2.2 rfl (by omega) (by decide) ?_
          refine Lneg e17_33 ?_
          refine Go e17_34 t17_34 ?_
          have e : oI ((p i).natAbs : Nat) = -(J (a + 1) i) := by
            have hb := hB.iB (by decide) (show i < 9 by omega)
            rw [hp i (by omega), oI_0, oI_le ⟨by decide, by decide⟩ hb] at h23
            rw [hp i (by omega)]
            rw [oI_neg]
            congr 1
            omega
          rw [← e]
          exact K (by omega)
theorem cln_iB {p : Po} (hB : PB 4000000000000000000 p) {k : Nat} (hk : k < 9) : iB (cln p k) := by
  have h := hB.nab hk
  have h2 : (cln p k).natAbs ≤ (p k).natAbs := by unfold cln; rw [Int.natAbs_tdiv]; exact Nat.div_le_self _ _
  exact ⟨by omega, by omega⟩
theorem cln_PB {p : Po} {B : Int} (hB : PB B p) : PB B (cln p) := fun k hk => by
  have h := hB k hk
  have h2 : (cln p k).natAbs ≤ (p k).natAbs := by unfold cln; rw [Int.natAbs_tdiv]; exact Nat.div_le_self _ _
  exact ⟨by omega, by omega⟩
set_option maxHeartbeats 2000000 in
theorem p_fit_lp (ha : amPO S R a) (hp : JP J (a + 1) p) (hB : PB 4000000000000000000 p) (l6 l7 : Option Value) (hQ : ∀ J', JU J J' (a + 1) 9 (fun k => oI (cln p k)) → Q (some (.int (bI (fit p)))) I J' R) : ∀ (n i : Nat) (J' : amJ), JU J J' (a + 1) i (fun k => oI (cln p k)) → 9 - i < n → i ≤ 9 → Ex 17 93 [some (.ref a), some (.long (oI (gN p 9 : Nat))), none, some (.int (bI (fitN (cln p) i))), some (.int (nI i)), none, l6, l7, none] [] S I J' R Q := by
  intro n
  induction n with
  | zero => intro i J' hJ h; omega
  | succ n ih =>
    intro i J' hJ h h9
    have K : ∀ J2, JU J J2 (a + 1) (i + 1) (fun k => oI (cln p k)) → i < 9 → Ex 17 117 [some (.ref a), some (.long (oI (gN p 9 : Nat))), none, some (.int (bI (fitN (cln p) i))), some (.int (nI i)), none, l6, l7, none] [] S I J2 R Q := by
      intro J2 hJ2 hi
      have hv : J2 (a + 1) i = oI (cln p i) := by rw [hJ2.2 i, if_pos (by omega)]
      have hc : iB (cln p i) := cln_iB hB hi
      refine LI3 e17_117 ?_
      refine B_eq e17_118 t17_118 (fun h118 => ?_) (fun h118 => ?_)
      · refine Ki e17_153 kiconst_0 ?_
        refine SI3 e17_154 rfl ?_
        refine IncN4 (m := i) e17_155 rfl ?_
        refine Go e17_158 t17_158 ?_
        have e : bI (fitN (cln p) (i + 1)) = 0 := by
          unfold bI fitN
          rw [if_neg]
          rw [Bool.and_eq_true, decide_eq_true_eq]
          intro z
          have := h118
          rw [z.1] at this
          exact absurd this (by decide)
        have := ih (i + 1) _ hJ2 (by omega) (by omega)
        rw [e] at this
        exact this
      · refine LA0 e17_121 ?_
        refine Gr e17_122 ha.1 ha.2.1 f448 ?_
        refine LI4 e17_125 ?_
        refine AjN (k := i) e17_127 ha.2.2 rfl (by omega) (by decide) ?_
        refine Kd e17_128 kj0 ?_
        refine D_lt e17_131 e17_132 t17_132 (fun h131 => ?_) (fun h131 => ?_)
        · refine Ki e17_153 kiconst_0 ?_
          refine SI3 e17_154 rfl ?_
          refine IncN4 (m := i) e17_155 rfl ?_
          refine Go e17_158 t17_158 ?_
          have e : bI (fitN (cln p) (i + 1)) = 0 := by
            unfold bI fitN
            rw [if_neg]
            rw [Bool.and_eq_true, decide_eq_true_eq]
            intro z
            have := h131
            rw [hv, show (-1000000 : Int64) = oI (-1000000) from rfl, oI_lt hc ⟨by decide, by decide⟩] at this
            omega
          have := ih (i + 1) _ hJ2 (by omega) (by omega)
          rw [e] at this
          exact this
        · refine LA0 e17_135 ?_
          refine Gr e17_136 ha.1 ha.2.1 f448 ?_
          refine LI4 e17_139 ?_
          refine AjN (k := i) e17_141 ha.2.2 rfl (by omega) (by decide) ?_
          refine Kd e17_142 kj1 ?_
          refine D_gt e17_145 e17_146 t17_146 (fun h145 => ?_) (fun h145 => ?_)
          · refine Ki e17_153 kiconst_0 ?_
            refine SI3 e17_154 rfl ?_
            refine IncN4 (m := i) e17_155 rfl ?_
            refine Go e17_158 t17_158 ?_
            have e : bI (fitN (cln p) (i + 1)) = 0 := by
              unfold bI fitN
              rw [if_neg]
              rw [Bool.and_eq_true, decide_eq_true_eq]
              intro z
              have := h145
              rw [hv, show (1000000 : Int64) = oI 1000000 from rfl, oI_lt ⟨by decide, by decide⟩ hc] at this
              omega
            have := ih (i + 1) _ hJ2 (by omega) (by omega)
            rw [e] at this
            exact this
          · refine Ki e17_149 kiconst_1 ?_
            refine Go e17_150 t17_150 ?_
            refine SI3 e17_154 rfl ?_
            refine IncN4 (m := i) e17_155 rfl ?_
            refine Go e17_158 t17_158 ?_
            have e : bI (fitN (cln p) (i + 1)) = 1 := by
              unfold bI fitN
              rw [if_pos]
              rw [Bool.and_eq_true, decide_eq_true_eq]
              refine ⟨Decidable.not_not.mp (fun z => h118 (by unfold bI; rw [if_neg z])), ?_, ?_⟩
              · have := h131
                rw [hv, show (-1000000 : Int64) = oI (-1000000) from rfl, oI_lt hc ⟨by decide, by decide⟩] at this
                omega
              · have := h145
                rw [hv, show (1000000 : Int64) = oI 1000000 from rfl, oI_lt ⟨by decide, by decide⟩ hc] at this
                omega
            have := ih (i + 1) _ hJ2 (by omega) (by omega)
            rw [e] at this
            exact this
    refine LI4 e17_93 ?_
    refine Ki e17_95 kbipush_9 ?_
    refine CN_ge (a := i) (b := 9) e17_97 t17_97 rfl (by decide) (by omega) (by omega) (fun h97 => ?_) (fun h97 => ?_)
    · refine LI3 e17_161 ?_
      exact Rz e17_162 rt17 (bI_01 _) (by
      have e9 : i = 9 := by omega
      subst e9
      exact hQ _ hJ)
    · refine LJ1 e17_100 ?_
      refine K1 e17_101 ?_
      refine D_le e17_102 e17_103 t17_103 (fun h102 => ?_) (fun h102 => ?_)
      · refine K _ (hJ.keep ?_) (by omega)
        rw [hp i (by omega)]
        show oI (p i) = oI ((p i).tdiv (gN p 9 : Nat))
        rw [oI_1, oI_le (oI_nb (gN_b hB (by omega))) ⟨by decide, by decide⟩] at h102
        congr 1
        by_cases g : gN p 9 = 1
        · rw [g]; exact (Int.tdiv_one _).symm
        · have g0 : gN p 9 = 0 := by omega
          have := gN_dvd (p := p) (n := 9) (k := i) (by omega)
          rw [g0, Nat.zero_dvd] at this
          rw [g0, show p i = 0 from by omega]
          rfl
      · refine LA0 e17_106 ?_
        refine Gr e17_107 ha.1 ha.2.1 f448 ?_
        refine LI4 e17_110 ?_
        refine Dup2 e17_112 ⟨rfl, rfl⟩ ?_
        refine AjN (k := i) e17_113 ha.2.2 rfl (by omega) (by decide) ?_
        refine LJ1 e17_114 ?_
        refine Ldiv e17_115 (fun z => by rw [z] at h102; exact h102 (by decide)) ?_
        refine WjN (k := i) e17_116 ha.2.2 rfl (by omega) (by decide) ?_
        exact K _ (hJ.step (by rw [hJ.at (Nat.le_refl _), hp i (by omega), oI_div (hB.iB (by decide) (by omega)) (oI_nb (gN_b hB (by omega)))]; rfl)) (by omega)
set_option maxHeartbeats 2000000 in
theorem p_clean (ha : amPO S R a) (hp : JP J (a + 1) p) (hB : PB 4000000000000000000 p) : Rb 17 [.ref a] S I J R (a + 1) (cln p) (fit p) := by
  show Ex 17 0 [some (.ref a), none, none, none, none, none, none, none, none] [] S I J R _
  refine K0 e17_0 ?_
  refine SJ1 e17_1 rfl ?_
  refine Ki e17_2 kiconst_0 ?_
  refine SI3 e17_3 rfl ?_
  refine p_div_lp ha hp hB (fun l3 l4 l6 l7 => ?_) 10 0 _ _ _ (by omega) (by omega)
  refine Ki e17_88 kiconst_1 ?_
  refine SI3 e17_89 rfl ?_
  refine Ki e17_90 kiconst_0 ?_
  refine SI4 e17_91 rfl ?_
  exact p_fit_lp ha hp hB l6 l7 (fun J' hJ => ⟨rfl, rfl, rfl, hJ.1, hJ.jp (fun _ _ => rfl)⟩) 10 0 J JU.st (by omega) (by omega)
end POLY3
