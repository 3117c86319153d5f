/-! the reference: shifts, makes (printed by wip/whole/t97.py) -/
/-- with x and c for x: times that, and one number more -/
def hoM (c : Int) (h : Po) : Po := fun k => h k * c + (if 0 < k then h (k - 1) else 0)
def hoN (c : Int) (p : Po) (s : Nat) : Nat → Po
  | 0 => fun _ => 0
  | m + 1 => pU (hoM c (hoN c p s m)) 0 (hoM c (hoN c p s m) 0 + p (s - 1 - m))
/-- a row half done, from above down to n -/
def hoR (c : Int) (h : Po) (n : Nat) : Po := fun k => if n ≤ k then hoM c h k else h k
theorem hoN_sh {c : Int} {p : Po} : ∀ {s : Nat}, hoN c p (s + 1) 1 = (fun k => if k = 0 then p s else 0) := by
  intro s
  funext k
  rw [hoN, hoN]
  unfold pU hoM
  dsimp only
  by_cases e : k = 0
  · rw [if_pos e, if_pos e, if_neg (by omega), show s + 1 - 1 - 0 = s by omega]
    omega
  · rw [if_neg e, if_neg e, if_pos (by omega)]
    omega
theorem hoN_up {c : Int} {p : Po} {s : Nat} (h : p s = 0) : ∀ m, hoN c p (s + 1) (m + 1) = hoN c p s m
  | 0 => by
    rw [hoN_sh, h]
    funext k
    split <;> rfl
  | m + 1 => by
    rw [hoN, hoN_up h m, hoN, show s + 1 - 1 - (m + 1) = s - 1 - m by omega]
theorem hoN_5 {c : Int} {p : Po} : ∀ t s, s + t = 5 → sz p ≤ s → hoN c p s s = hoN c p 5 5
  | 0, s, h, _ => by rw [show s = 5 by omega]
  | t + 1, s, h, hs => by
    rw [← hoN_5 t (s + 1) (by omega) (by omega), hoN_up (sz_zero hs (by omega))]
theorem hoN_sO {c : Int} {p : Po} (h5 : sz p ≤ 5) : ∀ k, k < 9 → hoN c p 5 5 k = shO c 4 0 p k := fun k hk => by
  have z5 : p 5 = 0 := sz_zero h5 (by decide)
  have z6 : p 6 = 0 := sz_zero (p := p) (by omega) (by decide)
  have z7 : p 7 = 0 := sz_zero (p := p) (by omega) (by decide)
  have z8 : p 8 = 0 := sz_zero (p := p) (by omega) (by decide)
  have hc : k = 0 ∨ k = 1 ∨ k = 2 ∨ k = 3 ∨ k = 4 ∨ k = 5 ∨ k = 6 ∨ k = 7 ∨ k = 8 := by omega
  rcases hc with e | e | e | e | e | e | e | e | e <;> subst e <;> simp [hoN, hoM, pU, shO, shN, z5, z6, z7, z8] <;> grind
theorem mod2 : ∀ n, n ≤ 9 → (nI n - nI n / 2 * 2 = 1 ↔ n % 2 = 1) := by decide
theorem pm1 : ∀ n, n < 5 → (-1 : Int) ^ n = if n % 2 = 1 then -1 else 1 := by decide
theorem strP_m1 {p : Po} (h5 : sz p ≤ 5) {k : Nat} (hk : k < 9) : (if k % 2 = 1 then -p k else p k) = strP p (-1) 5 k := by
  unfold strP
  by_cases g : k < 5
  · rw [if_pos g, pm1 k g]
    by_cases e : k % 2 = 1
    · rw [if_pos e, if_pos e]
      omega
    · rw [if_neg e, if_neg e]
      omega
  · rw [if_neg g, sz_zero (p := p) (by omega) hk]
    split <;> rfl
theorem strP_pw {p : Po} {c : Int} (h5 : sz p ≤ 5) {k : Nat} (hk : k < 9) : p k * c ^ k = strP p c 5 k := by
  unfold strP
  by_cases g : k < 5
  · rw [if_pos g]
  · rw [if_neg g, sz_zero (p := p) (by omega) hk, Int.zero_mul]
/-- what a making leaves -/
def MmP (I : amI) (J : amJ) (o : Option Po) (I' : amI) (J' : amJ) : Prop := FlI I I' ∧ (∀ y, y < 152 → J' y = J y) ∧ ((∃ g, o = some g ∧ I' 152 9 = 0 ∧ JP J' 156 g) ∨ (o = none ∧ I' 152 9 = 1))
theorem MmP.cg {I I' : amI} {J J' : amJ} {g g' : Po} (h : MmP I J (some g) I' J') (hg : ∀ k, k < 9 → g k = g' k) : MmP I J (some g') I' J' := by
  refine ⟨h.1, h.2.1, ?_⟩
  rcases h.2.2 with ⟨x, e, a, b⟩ | ⟨e, -⟩
  · cases e
    exact Or.inl ⟨g', rfl, a, b.cg hg⟩
  · cases e
theorem nIm1s {m : Nat} (h0 : 0 < m) (h : m ≤ 9) : nI m - 1 = nI (m - 1) := by
  have e : ∀ m, m ≤ 9 → 0 < m → nI m - 1 = nI (m - 1) := by decide
  exact e m h h0
section REF31
variable {L : Nat} {I : amI} {J : amJ} {R : amR} {Q : amQ} {σ : PS} {g p q : Po} {k : Int32}
set_option maxHeartbeats 2000000 in
theorem m_sf_in {c : Int} {h : Po} {y3 : Int32} (hR : amRok R) (hQ : ∀ J', Fr J J' 156 → JP J' 156 (hoM c h) → Ex 216 69 [some (.ref 152), some (.long (oI c)), none, some (.int y3), some (.int (-1))] [] (amSH L) I J' R Q) : ∀ (m : Nat) (J' : amJ), m ≤ 9 → Fr J J' 156 → JP J' 156 (hoR c h m) → Ex 216 23 [some (.ref 152), some (.long (oI c)), none, some (.int y3), some (.int (dI m))] [] (amSH L) I J' R Q := by
  intro m
  induction m with
  | zero =>
    intro J' h9 hF hJ
    refine LI4 e216_23 ?_
    refine B_lt e216_25 t216_25 (fun _ => ?_) (fun q => absurd (by decide) q)
    exact hQ _ hF (hJ.cg (fun k _ => by unfold hoR; rw [if_pos (Nat.zero_le k)]))
  | succ m ih =>
    intro J' h9 hF hJ
    have e1 : J' 156 m = oI (h m) := by rw [hJ m (by omega)]; unfold hoR; rw [if_neg (by omega)]
    show Ex 216 23 [some (.ref 152), some (.long (oI c)), none, some (.int y3), some (.int (nI m))] [] (amSH L) I J' R Q
    refine LI4 e216_23 ?_
    refine B_lt e216_25 t216_25 (fun q => absurd q (nI_pos (by omega))) (fun _ => ?_)
    refine LA0 e216_28 ?_
    refine Gr e216_29 (o152 L) (hR 152 6 156 rfl) f774 ?_
    refine LI4 e216_32 ?_
    refine LA0 e216_34 ?_
    refine Gr e216_35 (o152 L) (hR 152 6 156 rfl) f774 ?_
    refine LI4 e216_38 ?_
    refine AjN (k := m) e216_40 (o156 L) rfl (by omega) (by decide) ?_
    rw [e1]
    refine LJ1 e216_41 ?_
    refine Lmul e216_42 ?_
    rw [oI_mul]
    refine LI4 e216_43 ?_
    by_cases m0 : m = 0
    · refine B_le e216_45 t216_45 (fun _ => ?_) (fun q => absurd (by rw [m0]; decide) q)
      refine K0 e216_60 ?_
      refine Ladd e216_61 ?_
      rw [show (0 : Int64) = oI 0 from rfl, oI_add]
      refine WjN (k := m) e216_62 (o156 L) rfl (by omega) (by decide) ?_
      refine Inc4 (d := (-1)) e216_63 rfl rfl ?_
      refine Go e216_66 t216_66 ?_
      rw [show nI m + (-1) = dI m from dI_dec m]
      refine ih _ (by omega) (Fr.up hF) ((JP.st hJ).cg (fun k _ => ?_))
      unfold pU hoR
      by_cases e : k = m
      · rw [if_pos e, if_pos (by omega), e]
        unfold hoM
        rw [if_neg (show ¬ 0 < m by omega)]
      · rw [if_neg e]
        by_cases g : m + 1 ≤ k
        · rw [if_pos g, if_pos (by omega)]
        · rw [if_neg g, if_neg (by omega)]
    · refine B_le e216_45 t216_45 (fun q => absurd q (fun z => by rw [i32le, nI_toInt (by omega), show (0 : Int32).toInt = 0 from rfl] at z; omega)) (fun _ => ?_)
      refine LA0 e216_48 ?_
      refine Gr e216_49 (o152 L) (hR 152 6 156 rfl) f774 ?_
      refine LI4 e216_52 ?_
      refine Ki e216_54 kiconst_1 ?_
      refine Isub e216_55 ?_
      refine AjN (k := (m - 1)) e216_56 (o156 L) (nIm1s (by omega) (by omega)) (by omega) (by decide) ?_
      rw [show J' 156 (m - 1) = oI (h (m - 1)) from by rw [hJ (m - 1) (by omega)]; unfold hoR; rw [if_neg (by omega)]]
      refine Go e216_57 t216_57 ?_
      refine Ladd e216_61 ?_
      rw [oI_add]
      refine WjN (k := m) e216_62 (o156 L) rfl (by omega) (by decide) ?_
      refine Inc4 (d := (-1)) e216_63 rfl rfl ?_
      refine Go e216_66 t216_66 ?_
      rw [show nI m + (-1) = dI m from dI_dec m]
      refine ih _ (by omega) (Fr.up hF) ((JP.st hJ).cg (fun k _ => ?_))
      unfold pU hoR
      by_cases e : k = m
      · rw [if_pos e, if_pos (by omega), e]
        unfold hoM
        rw [if_pos (show 0 < m by omega)]
      · rw [if_neg e]
        by_cases g : m + 1 ≤ k
        · rw [if_pos g, if_pos (by omega)]
        · rw [if_neg g, if_neg (by omega)]
set_option maxHeartbeats 2000000 in
theorem m_sf_lp {c : Int} {s : Nat} (hR : amRok R) (hs : s ≤ 9) (hp : JP J 157 p) (hQ : ∀ J', Fr J J' 156 → JP J' 156 (hoN c p s s) → Q none I J' R) : ∀ (n m : Nat) (J' : amJ) (l4 : Option Value), s = m + n → amClr l4 = l4 → Fr J J' 156 → JP J' 156 (hoN c p s m) → Ex 216 15 [some (.ref 152), some (.long (oI c)), none, some (.int (dI (s - m))), l4] [] (amSH L) I J' R Q := by
  intro n
  induction n with
  | zero =>
    intro m J' l4 h hcl hF hJ
    have e : s = m := by omega
    subst e
    rw [Nat.sub_self]
    show Ex 216 15 [some (.ref 152), some (.long (oI c)), none, some (.int (-1)), l4] [] (amSH L) I J' R Q
    refine LI3 e216_15 ?_
    refine B_lt e216_16 t216_16 (fun _ => ?_) (fun q => absurd (by decide) q)
    exact Rvd e216_90 rt216 (hQ _ hF hJ)
  | succ n ih =>
    intro m J' l4 h hcl hF hJ
    rw [show s - m = (s - 1 - m) + 1 by omega]
    show Ex 216 15 [some (.ref 152), some (.long (oI c)), none, some (.int (nI (s - 1 - m))), l4] [] (amSH L) I J' R Q
    refine LI3 e216_15 ?_
    refine B_lt e216_16 t216_16 (fun q => absurd q (nI_pos (by omega))) (fun _ => ?_)
    refine Ki e216_19 kbipush_8 ?_
    refine SI4 e216_21 rfl ?_
    refine m_sf_in (h := hoN c p s m) hR (fun J2 hF2 hP2 => ?_) 9 J' (by omega) Fr.rf (hJ.cg (fun k hk => by unfold hoR; rw [if_neg (by omega)]))
    refine LA0 e216_69 ?_
    refine Gr e216_70 (o152 L) (hR 152 6 156 rfl) f774 ?_
    refine Ki e216_73 kiconst_0 ?_
    refine Dup2 e216_74 ⟨rfl, rfl⟩ ?_
    refine AjN (k := 0) e216_75 (o156 L) rfl (by decide) (by decide) ?_
    rw [hP2 0 (by decide)]
    refine LA0 e216_76 ?_
    refine Gr e216_77 (o152 L) (hR 152 7 157 rfl) f775 ?_
    refine LI3 e216_80 ?_
    refine AjN (k := (s - 1 - m)) e216_81 (o157 L) rfl (by omega) (by decide) ?_
    rw [(hp.fr (hF.tr hF2) (by decide)) _ (by omega)]
    refine Ladd e216_82 ?_
    rw [oI_add]
    refine WjN (k := 0) e216_83 (o156 L) rfl (by decide) (by decide) ?_
    refine Inc3 (d := (-1)) e216_84 rfl rfl ?_
    refine Go e216_87 t216_87 ?_
    rw [show nI (s - 1 - m) + (-1) = dI (s - 1 - m) from dI_dec _, show s - 1 - m = s - (m + 1) by omega]
    exact ih (m + 1) _ _ (by omega) rfl ((hF.tr hF2).up) ((JP.st hP2).cg (fun k _ => by rw [hoN, show s - (m + 1) = s - 1 - m by omega]))
set_option maxHeartbeats 2000000 in
theorem m_shifts {c : Int} (hR : amRok R) (hp : JP J 157 p) (hB : PB 4000000000000000000 p) (h5 : sz p ≤ 5) : Cl 216 [.ref 152, .long (oI c)] (amSH L) I J R (fun v I' J' R' => v = none ∧ I' = I ∧ R' = R ∧ Fr J J' 156 ∧ JP J' 156 (shO c 4 0 p)) := by
  show Ex 216 0 [some (.ref 152), some (.long (oI c)), none, none, none] [] (amSH L) I J R _
  refine LA0 e216_0 ?_
  refine Gr e216_1 (o152 L) (hR 152 6 156 rfl) f774 ?_
  refine Cs1p e216_4 c216_171 (Nat.le_of_ble_eq_true rfl) (Nat.le_of_ble_eq_true rfl) (m_empties (o156 L)) ?_
  rintro _ I1 J1 R1 ⟨rfl, hI1, hR1, hF1, hP1⟩
  have hI1 := hI1.symm
  subst hI1
  have hR1 := hR1.symm
  subst hR1
  have hp1 := hp.fr hF1 (by decide)
  refine LA0 e216_7 ?_
  refine Gr e216_8 (o152 L) (hR 152 7 157 rfl) f775 ?_
  refine Cs1 e216_11 c216_173 (Nat.le_of_ble_eq_true rfl) (Nat.le_of_ble_eq_true rfl) ((m_degree (o157 L) hp1 hB)) ?_
  refine SI3 e216_14 rfl ?_
  have h9 := sz_le p
  refine m_sf_lp (p := p) (c := c) (s := sz p) hR h9 hp1 (fun J2 hF2 hP2 => ⟨rfl, rfl, rfl, hF1.tr hF2, hP2.cg (fun k hk => ?_)⟩) (sz p) 0 J1 none (by omega) rfl Fr.rf hP1
  rw [hoN_5 (5 - sz p) (sz p) (by omega) (Nat.le_refl _), hoN_sO h5 k hk]
set_option maxHeartbeats 2000000 in
theorem m_mkl0 (hR : amRok R) (hp : JP J 157 p) (hq : JP J 158 q) (hQ : ∀ J', JU J J' 156 9 (fun k => oI (p k + q k * 1)) → Q none I J' R) : ∀ (n i : Nat) (J' : amJ), 9 - i < n → i ≤ 9 → JU J J' 156 i (fun k => oI (p k + q k * 1)) → Ex 218 70 [some (.ref 152), some (.int 0), some (.int k), some (.int (nI i))] [] (amSH L) I J' R Q := by
  intro n
  induction n with
  | zero => intro i J' h; omega
  | succ n ih =>
    intro i J' h h9 hJ
    refine LI3 e218_70 ?_
    refine Ki e218_71 kbipush_9 ?_
    refine CN_ge (a := i) (b := 9) e218_73 t218_73 rfl (by decide) (by omega) (by omega) (fun h73 => ?_) (fun h73 => ?_)
    · refine Go e218_121 t218_121 ?_
      exact Rvd e218_347 rt218 (by
      have e9 : i = 9 := by omega
      subst e9
      exact hQ _ hJ)
    · refine LA0 e218_76 ?_
      refine Gr e218_77 (o152 L) (hR 152 6 156 rfl) f774 ?_
      refine LI3 e218_80 ?_
      refine LI1 e218_81 ?_
      refine B_ne e218_82 t218_82 (fun q => absurd q (fun z => z rfl)) (fun _ => ?_)
      refine LA0 e218_85 ?_
      refine Gr e218_86 (o152 L) (hR 152 7 157 rfl) f775 ?_
      refine LI3 e218_89 ?_
      refine AjN (k := i) e218_90 (o157 L) rfl (by omega) (by decide) ?_
      rw [(hp.fr hJ.1 (by decide)) i (by omega)]
      refine LA0 e218_91 ?_
      refine Gr e218_92 (o152 L) (hR 152 8 158 rfl) f776 ?_
      refine LI3 e218_95 ?_
      refine AjN (k := i) e218_96 (o158 L) rfl (by omega) (by decide) ?_
      rw [(hq.fr hJ.1 (by decide)) i (by omega)]
      refine Ladd e218_97 ?_
      refine Go e218_98 t218_98 ?_
      refine WjN (k := i) e218_114 (o156 L) rfl (by omega) (by decide) ?_
      refine IncN3 (m := i) e218_115 rfl ?_
      refine Go e218_118 t218_118 ?_
      refine ih (i + 1) _ (by omega) (by omega) (hJ.step ?_)
      rw [oI_add, Int.mul_one]
set_option maxHeartbeats 2000000 in
theorem m_mkl2 (hR : amRok R) (hp : JP J 157 p) (hq : JP J 158 q) (hQ : ∀ J', JU J J' 156 9 (fun k => oI (p k + q k * (-1))) → Q none I J' R) : ∀ (n i : Nat) (J' : amJ), 9 - i < n → i ≤ 9 → JU J J' 156 i (fun k => oI (p k + q k * (-1))) → Ex 218 70 [some (.ref 152), some (.int 2), some (.int k), some (.int (nI i))] [] (amSH L) I J' R Q := by
  intro n
  induction n with
  | zero => intro i J' h; omega
  | succ n ih =>
    intro i J' h h9 hJ
    refine LI3 e218_70 ?_
    refine Ki e218_71 kbipush_9 ?_
    refine CN_ge (a := i) (b := 9) e218_73 t218_73 rfl (by decide) (by omega) (by omega) (fun h73 => ?_) (fun h73 => ?_)
    · refine Go e218_121 t218_121 ?_
      exact Rvd e218_347 rt218 (by
      have e9 : i = 9 := by omega
      subst e9
      exact hQ _ hJ)
    · refine LA0 e218_76 ?_
      refine Gr e218_77 (o152 L) (hR 152 6 156 rfl) f774 ?_
      refine LI3 e218_80 ?_
      refine LI1 e218_81 ?_
      refine B_ne e218_82 t218_82 (fun _ => ?_) (fun q => absurd (by decide) q)
      refine LA0 e218_101 ?_
      refine Gr e218_102 (o152 L) (hR 152 7 157 rfl) f775 ?_
      refine LI3 e218_105 ?_
      refine AjN (k := i) e218_106 (o157 L) rfl (by omega) (by decide) ?_
      rw [(hp.fr hJ.1 (by decide)) i (by omega)]
      refine LA0 e218_107 ?_
      refine Gr e218_108 (o152 L) (hR 152 8 158 rfl) f776 ?_
      refine LI3 e218_111 ?_
      refine AjN (k := i) e218_112 (o158 L) rfl (by omega) (by decide) ?_
      rw [(hq.fr hJ.1 (by decide)) i (by omega)]
      refine Lsub e218_113 ?_
      refine WjN (k := i) e218_114 (o156 L) rfl (by omega) (by decide) ?_
      refine IncN3 (m := i) e218_115 rfl ?_
      refine Go e218_118 t218_118 ?_
      refine ih (i + 1) _ (by omega) (by omega) (hJ.step ?_)
      rw [oI_sub, show p i - q i = p i + q i * (-1) by omega]
set_option maxHeartbeats 2000000 in
theorem m_mkl5 (hR : amRok R) (hp : JP J 157 p) (hq : JP J 158 q) (hQ : ∀ J', JU J J' 156 9 (fun k => oI (if k % 2 = 1 then -p k else p k)) → Q none I J' R) : ∀ (n i : Nat) (J' : amJ), 9 - i < n → i ≤ 9 → JU J J' 156 i (fun k => oI (if k % 2 = 1 then -p k else p k)) → Ex 218 177 [some (.ref 152), some (.int 5), some (.int k), some (.int (nI i))] [] (amSH L) I J' R Q := by
  intro n
  induction n with
  | zero => intro i J' h; omega
  | succ n ih =>
    intro i J' h h9 hJ
    refine LI3 e218_177 ?_
    refine Ki e218_178 kbipush_9 ?_
    refine CN_ge (a := i) (b := 9) e218_180 t218_180 rfl (by decide) (by omega) (by omega) (fun h180 => ?_) (fun h180 => ?_)
    · refine Go e218_218 t218_218 ?_
      exact Rvd e218_347 rt218 (by
      have e9 : i = 9 := by omega
      subst e9
      exact hQ _ hJ)
    · refine LA0 e218_183 ?_
      refine Gr e218_184 (o152 L) (hR 152 6 156 rfl) f774 ?_
      refine LI3 e218_187 ?_
      refine LI3 e218_188 ?_
      refine Ki e218_189 kiconst_2 ?_
      refine Irem e218_190 (by decide) ?_
      refine Ki e218_191 kiconst_1 ?_
      refine C_ne e218_192 t218_192 (fun h192 => ?_) (fun h192 => ?_)
      · refine LA0 e218_205 ?_
        refine Gr e218_206 (o152 L) (hR 152 7 157 rfl) f775 ?_
        refine LI3 e218_209 ?_
        refine AjN (k := i) e218_210 (o157 L) rfl (by omega) (by decide) ?_
        rw [(hp.fr hJ.1 (by decide)) i (by omega)]
        refine WjN (k := i) e218_211 (o156 L) rfl (by omega) (by decide) ?_
        refine IncN3 (m := i) e218_212 rfl ?_
        refine Go e218_215 t218_215 ?_
        refine ih (i + 1) _ (by omega) (by omega) (hJ.step ?_)
        show _ = oI (if i % 2 = 1 then -p i else p i)
        by_cases g : i % 2 = 1
        · have e : (if i % 2 = 1 then -p i else p i) = -p i := if_pos g
          first
            | exact congrArg oI e.symm
            | (exfalso; exact h192 ((mod2 i (by omega)).mpr g))
        · have e : (if i % 2 = 1 then -p i else p i) = p i := if_neg g
          first
            | exact congrArg oI e.symm
            | (exfalso; exact g ((mod2 i (by omega)).mp h192))
            | (exfalso; exact g ((mod2 i (by omega)).mp (Decidable.not_not.mp h192)))
      · refine LA0 e218_195 ?_
        refine Gr e218_196 (o152 L) (hR 152 7 157 rfl) f775 ?_
        refine LI3 e218_199 ?_
        refine AjN (k := i) e218_200 (o157 L) rfl (by omega) (by decide) ?_
        rw [(hp.fr hJ.1 (by decide)) i (by omega)]
        refine Lneg e218_201 ?_
        refine Go e218_202 t218_202 ?_
        rw [oI_neg]
        refine WjN (k := i) e218_211 (o156 L) rfl (by omega) (by decide) ?_
        refine IncN3 (m := i) e218_212 rfl ?_
        refine Go e218_215 t218_215 ?_
        refine ih (i + 1) _ (by omega) (by omega) (hJ.step ?_)
        show _ = oI (if i % 2 = 1 then -p i else p i)
        by_cases g : i % 2 = 1
        · have e : (if i % 2 = 1 then -p i else p i) = -p i := if_pos g
          first
            | exact congrArg oI e.symm
            | (exfalso; exact h192 ((mod2 i (by omega)).mpr g))
        · have e : (if i % 2 = 1 then -p i else p i) = p i := if_neg g
          first
            | exact congrArg oI e.symm
            | (exfalso; exact g ((mod2 i (by omega)).mp h192))
            | (exfalso; exact g ((mod2 i (by omega)).mp (Decidable.not_not.mp h192)))
set_option maxHeartbeats 2000000 in
theorem m_mkl7 (hR : amRok R) (hp : JP J 157 p) (hq : JP J 158 q) (hQ : ∀ J', JU J J' 156 9 (fun m => oI (p m * k.toInt ^ m)) → Q none I J' R) : ∀ (n i : Nat) (J' : amJ), 9 - i < n → i ≤ 9 → JU J J' 156 i (fun m => oI (p m * k.toInt ^ m)) → Ex 218 232 [some (.ref 152), some (.int 7), some (.int k), some (.int (nI i))] [] (amSH L) I J' R Q := by
  intro n
  induction n with
  | zero => intro i J' h; omega
  | succ n ih =>
    intro i J' h h9 hJ
    refine LI3 e218_232 ?_
    refine Ki e218_233 kbipush_9 ?_
    refine CN_ge (a := i) (b := 9) e218_235 t218_235 rfl (by decide) (by omega) (by omega) (fun h235 => ?_) (fun h235 => ?_)
    · refine Go e218_263 t218_263 ?_
      exact Rvd e218_347 rt218 (by
      have e9 : i = 9 := by omega
      subst e9
      exact hQ _ hJ)
    · refine LA0 e218_238 ?_
      refine Gr e218_239 (o152 L) (hR 152 6 156 rfl) f774 ?_
      refine LI3 e218_242 ?_
      refine LA0 e218_243 ?_
      refine Gr e218_244 (o152 L) (hR 152 7 157 rfl) f775 ?_
      refine LI3 e218_247 ?_
      refine AjN (k := i) e218_248 (o157 L) rfl (by omega) (by decide) ?_
      rw [(hp.fr hJ.1 (by decide)) i (by omega)]
      refine LI2 e218_249 ?_
      refine I2l e218_250 ?_
      rw [i2l_oI k]
      refine LI3 e218_251 ?_
      refine Cs2 e218_252 c218_168 (Nat.le_of_ble_eq_true rfl) (Nat.le_of_ble_eq_true rfl) ((m_power (by omega))) ?_
      refine Lmul e218_255 ?_
      refine WjN (k := i) e218_256 (o156 L) rfl (by omega) (by decide) ?_
      refine IncN3 (m := i) e218_257 rfl ?_
      refine Go e218_260 t218_260 ?_
      refine ih (i + 1) _ (by omega) (by omega) (hJ.step ?_)
      rw [oI_mul]
set_option maxHeartbeats 2000000 in
theorem m_mkl8 {s : Nat} (hR : amRok R) (hp : JP J 157 p) (hB : PB 4000000000000000000 p) (hs : sz p = s + 1) (hQ : ∀ J', JU J J' 156 (s + 1) (fun m => oI (p (s - m))) → Q none I J' R) : ∀ (n i : Nat) (J' : amJ), 10 - i < n → i ≤ s + 1 → JU J J' 156 i (fun m => oI (p (s - m))) → Ex 218 268 [some (.ref 152), some (.int 8), some (.int k), some (.int (nI i))] [] (amSH L) I J' R Q := by
  intro n
  induction n with
  | zero => intro i J' h h2; have := sz_le p; omega
  | succ n ih =>
    intro i J' h h9 hJ
    have hs9 := sz_le p
    refine LI3 e218_268 ?_
    refine LA0 e218_269 ?_
    refine Gr e218_270 (o152 L) (hR 152 7 157 rfl) f775 ?_
    refine Cs1 e218_273 c218_173 (Nat.le_of_ble_eq_true rfl) (Nat.le_of_ble_eq_true rfl) ((m_deg_n (o157 L) (hp.fr hJ.1 (by decide)) hB hs)) ?_
    refine CN_gt (a := i) (b := s) e218_276 t218_276 rfl rfl (by omega) (by omega) (fun h276 => ?_) (fun h276 => ?_)
    · refine Go e218_305 t218_305 ?_
      exact Rvd e218_347 rt218 (by
      have e9 : i = s + 1 := by omega
      subst e9
      exact hQ _ hJ)
    · refine LA0 e218_279 ?_
      refine Gr e218_280 (o152 L) (hR 152 6 156 rfl) f774 ?_
      refine LI3 e218_283 ?_
      refine LA0 e218_284 ?_
      refine Gr e218_285 (o152 L) (hR 152 7 157 rfl) f775 ?_
      refine LA0 e218_288 ?_
      refine Gr e218_289 (o152 L) (hR 152 7 157 rfl) f775 ?_
      refine Cs1 e218_292 c218_173 (Nat.le_of_ble_eq_true rfl) (Nat.le_of_ble_eq_true rfl) ((m_deg_n (o157 L) (hp.fr hJ.1 (by decide)) hB hs)) ?_
      refine LI3 e218_295 ?_
      refine IsubN (a := s) (b := i) e218_296 rfl rfl (by omega) ?_
      refine AjN (k := (s - i)) e218_297 (o157 L) rfl (by omega) (by decide) ?_
      rw [(hp.fr hJ.1 (by decide)) (s - i) (by omega)]
      refine WjN (k := i) e218_298 (o156 L) rfl (by omega) (by decide) ?_
      refine IncN3 (m := i) e218_299 rfl ?_
      refine Go e218_302 t218_302 ?_
      exact ih (i + 1) _ (by omega) (by omega) (hJ.step rfl)
set_option maxHeartbeats 2000000 in
theorem m_mk0 (hR : amRok R) (hp : JP J 157 p) (hq : JP J 158 q) (hpk : Pok p) (hqk : Pok q) (hf : I 152 9 = 0) : Cl 218 [.ref 152, .int 0, .int k] (amSH L) I J R (fun v I' J' R' => v = none ∧ R' = R ∧ MmP I J (mkF 0 p q k.toInt) I' J') := by
  show Ex 218 0 [some (.ref 152), some (.int 0), some (.int k), none] [] (amSH L) I J R (fun v I' J' R' => v = none ∧ R' = R ∧ MmP I J (some (fun i => p i + q i * 1)) I' J')
  refine LA0 e218_0 ?_
  refine Gr e218_1 (o152 L) (hR 152 6 156 rfl) f774 ?_
  refine Cs1p e218_4 c218_171 (Nat.le_of_ble_eq_true rfl) (Nat.le_of_ble_eq_true rfl) (m_empties (o156 L)) ?_
  rintro _ I1 J1 R1 ⟨rfl, hI1, hR1, hF1, hP1⟩
  have hI1 := hI1.symm
  subst hI1
  have hR1 := hR1.symm
  subst hR1
  have hp1 := hp.fr hF1 (by decide)
  have hq1 := hq.fr hF1 (by decide)
  refine LI1 e218_7 ?_
  refine Tin e218_8 0 rfl (by decide) rfl (show amTg 8 60 = some 68 from by decide) ?_
  refine Ki e218_68 kiconst_0 ?_
  refine SI3 e218_69 rfl ?_
  refine m_mkl0 hR hp1 hq1 (fun J2 hJ2 => ⟨rfl, rfl, FlI.rf, fun y hy => by rw [hJ2.1 y (by omega), hF1 y (by omega)], Or.inl ⟨_, rfl, hf, hJ2.jp (fun _ _ => rfl)⟩⟩) 10 0 J1 (by omega) (by omega) JU.st
  
set_option maxHeartbeats 2000000 in
theorem m_mk1 (hR : amRok R) (hp : JP J 157 p) (hq : JP J 158 q) (hpk : Pok p) (hqk : Pok q) (hf : I 152 9 = 0) : Cl 218 [.ref 152, .int 1, .int k] (amSH L) I J R (fun v I' J' R' => v = none ∧ R' = R ∧ MmP I J (mkF 1 p q k.toInt) I' J') := by
  show Ex 218 0 [some (.ref 152), some (.int 1), some (.int k), none] [] (amSH L) I J R (fun v I' J' R' => v = none ∧ R' = R ∧ MmP I J (some (cv p q)) I' J')
  refine LA0 e218_0 ?_
  refine Gr e218_1 (o152 L) (hR 152 6 156 rfl) f774 ?_
  refine Cs1p e218_4 c218_171 (Nat.le_of_ble_eq_true rfl) (Nat.le_of_ble_eq_true rfl) (m_empties (o156 L)) ?_
  rintro _ I1 J1 R1 ⟨rfl, hI1, hR1, hF1, hP1⟩
  have hI1 := hI1.symm
  subst hI1
  have hR1 := hR1.symm
  subst hR1
  have hp1 := hp.fr hF1 (by decide)
  have hq1 := hq.fr hF1 (by decide)
  refine LI1 e218_7 ?_
  refine Tin e218_8 1 rfl (by decide) rfl (show amTg 8 116 = some 124 from by decide) ?_
  refine LA0 e218_124 ?_
  refine Gr e218_125 (o152 L) (hR 152 7 157 rfl) f775 ?_
  refine LA0 e218_128 ?_
  refine Gr e218_129 (o152 L) (hR 152 8 158 rfl) f776 ?_
  refine LA0 e218_132 ?_
  refine Gr e218_133 (o152 L) (hR 152 6 156 rfl) f774 ?_
  refine Cs3p e218_136 c218_205 (Nat.le_of_ble_eq_true rfl) (Nat.le_of_ble_eq_true rfl) (m_multiplies (o157 L) (o158 L) (o156 L) (by decide) (by decide) hp1 hq1) ?_
  rintro _ I2 J2 R2 ⟨rfl, hI2, hR2, hF2, hP2⟩
  have hI2 := hI2.symm
  subst hI2
  have hR2 := hR2.symm
  subst hR2
  refine Go e218_139 t218_139 ?_
  exact Rvd e218_347 rt218 (⟨rfl, rfl, FlI.rf, fun y hy => by rw [hF2 y (by omega), hF1 y (by omega)], Or.inl ⟨_, rfl, hf, hP2⟩⟩)
  
set_option maxHeartbeats 2000000 in
theorem m_mk2 (hR : amRok R) (hp : JP J 157 p) (hq : JP J 158 q) (hpk : Pok p) (hqk : Pok q) (hf : I 152 9 = 0) : Cl 218 [.ref 152, .int 2, .int k] (amSH L) I J R (fun v I' J' R' => v = none ∧ R' = R ∧ MmP I J (mkF 2 p q k.toInt) I' J') := by
  show Ex 218 0 [some (.ref 152), some (.int 2), some (.int k), none] [] (amSH L) I J R (fun v I' J' R' => v = none ∧ R' = R ∧ MmP I J (some (fun i => p i + q i * (-1))) I' J')
  refine LA0 e218_0 ?_
  refine Gr e218_1 (o152 L) (hR 152 6 156 rfl) f774 ?_
  refine Cs1p e218_4 c218_171 (Nat.le_of_ble_eq_true rfl) (Nat.le_of_ble_eq_true rfl) (m_empties (o156 L)) ?_
  rintro _ I1 J1 R1 ⟨rfl, hI1, hR1, hF1, hP1⟩
  have hI1 := hI1.symm
  subst hI1
  have hR1 := hR1.symm
  subst hR1
  have hp1 := hp.fr hF1 (by decide)
  have hq1 := hq.fr hF1 (by decide)
  refine LI1 e218_7 ?_
  refine Tin e218_8 2 rfl (by decide) rfl (show amTg 8 60 = some 68 from by decide) ?_
  refine Ki e218_68 kiconst_0 ?_
  refine SI3 e218_69 rfl ?_
  refine m_mkl2 hR hp1 hq1 (fun J2 hJ2 => ⟨rfl, rfl, FlI.rf, fun y hy => by rw [hJ2.1 y (by omega), hF1 y (by omega)], Or.inl ⟨_, rfl, hf, hJ2.jp (fun _ _ => rfl)⟩⟩) 10 0 J1 (by omega) (by omega) JU.st
  
set_option maxHeartbeats 2000000 in
theorem m_mk3 (hR : amRok R) (hp : JP J 157 p) (hq : JP J 158 q) (hpk : Pok p) (hqk : Pok q) (hf : I 152 9 = 0) : Cl 218 [.ref 152, .int 3, .int k] (amSH L) I J R (fun v I' J' R' => v = none ∧ R' = R ∧ MmP I J (mkF 3 p q k.toInt) I' J') := by
  show Ex 218 0 [some (.ref 152), some (.int 3), some (.int k), none] [] (amSH L) I J R (fun v I' J' R' => v = none ∧ R' = R ∧ MmP I J (com p q) I' J')
  refine LA0 e218_0 ?_
  refine Gr e218_1 (o152 L) (hR 152 6 156 rfl) f774 ?_
  refine Cs1p e218_4 c218_171 (Nat.le_of_ble_eq_true rfl) (Nat.le_of_ble_eq_true rfl) (m_empties (o156 L)) ?_
  rintro _ I1 J1 R1 ⟨rfl, hI1, hR1, hF1, hP1⟩
  have hI1 := hI1.symm
  subst hI1
  have hR1 := hR1.symm
  subst hR1
  have hp1 := hp.fr hF1 (by decide)
  have hq1 := hq.fr hF1 (by decide)
  refine LI1 e218_7 ?_
  refine Tin e218_8 3 rfl (by decide) rfl (show amTg 8 134 = some 142 from by decide) ?_
  refine LA0 e218_142 ?_
  refine LA0 e218_143 ?_
  refine Gr e218_144 (o152 L) (hR 152 7 157 rfl) f775 ?_
  refine LA0 e218_147 ?_
  refine Gr e218_148 (o152 L) (hR 152 8 158 rfl) f776 ?_
  refine LA0 e218_151 ?_
  refine Gr e218_152 (o152 L) (hR 152 6 156 rfl) f774 ?_
  refine Cv3p e218_155 c218_180 (o152 L) (Nat.le_of_ble_eq_true rfl) (Nat.le_of_ble_eq_true rfl) (m_common hR (o157 L) (o158 L) (o156 L) ⟨by decide, by decide⟩ ⟨by decide, by decide⟩ ⟨by decide, by decide, by decide⟩ hp1 hq1 hpk.b hqk.b hf) ?_
  rintro _ I2 J2 R2 ⟨rfl, hR2, hG2, hL2, hD⟩
  have hR2 := hR2.symm
  subst hR2
  refine Go e218_158 t218_158 ?_
  exact Rvd e218_347 rt218 (⟨rfl, rfl, hG2, fun y hy => by rw [hL2 y (by simp; omega), hF1 y (by omega)], hD⟩)
  
set_option maxHeartbeats 2000000 in
theorem m_mk4 (hR : amRok R) (hp : JP J 157 p) (hq : JP J 158 q) (hpk : Pok p) (hf : I 152 9 = 0) : Cl 218 [.ref 152, .int 4, .int k] (amSH L) I J R (fun v I' J' R' => v = none ∧ R' = R ∧ MmP I J (mkF 4 p q k.toInt) I' J') := by
  show Ex 218 0 [some (.ref 152), some (.int 4), some (.int k), none] [] (amSH L) I J R (fun v I' J' R' => v = none ∧ R' = R ∧ MmP I J (some (der p)) I' J')
  refine LA0 e218_0 ?_
  refine Gr e218_1 (o152 L) (hR 152 6 156 rfl) f774 ?_
  refine Cs1p e218_4 c218_171 (Nat.le_of_ble_eq_true rfl) (Nat.le_of_ble_eq_true rfl) (m_empties (o156 L)) ?_
  rintro _ I1 J1 R1 ⟨rfl, hI1, hR1, hF1, hP1⟩
  have hI1 := hI1.symm
  subst hI1
  have hR1 := hR1.symm
  subst hR1
  have hp1 := hp.fr hF1 (by decide)
  have hq1 := hq.fr hF1 (by decide)
  refine LI1 e218_7 ?_
  refine Tin e218_8 4 rfl (by decide) rfl (show amTg 8 153 = some 161 from by decide) ?_
  refine LA0 e218_161 ?_
  refine Gr e218_162 (o152 L) (hR 152 7 157 rfl) f775 ?_
  refine LA0 e218_165 ?_
  refine Gr e218_166 (o152 L) (hR 152 6 156 rfl) f774 ?_
  refine Cs2p e218_169 c218_178 (Nat.le_of_ble_eq_true rfl) (Nat.le_of_ble_eq_true rfl) (m_derives (o156 L) (o157 L) (by decide) hp1) ?_
  rintro _ I2 J2 R2 ⟨rfl, hI2, hR2, hF2, hP2⟩
  have hI2 := hI2.symm
  subst hI2
  have hR2 := hR2.symm
  subst hR2
  refine Go e218_172 t218_172 ?_
  exact Rvd e218_347 rt218 (⟨rfl, rfl, FlI.rf, fun y hy => by rw [hF2 y (by omega), hF1 y (by omega)], Or.inl ⟨_, rfl, hf, hP2⟩⟩)
  
set_option maxHeartbeats 2000000 in
theorem m_mk5 (hR : amRok R) (hp : JP J 157 p) (hq : JP J 158 q) (hpk : Pok p) (hf : I 152 9 = 0) : Cl 218 [.ref 152, .int 5, .int k] (amSH L) I J R (fun v I' J' R' => v = none ∧ R' = R ∧ MmP I J (mkF 5 p q k.toInt) I' J') := by
  show Ex 218 0 [some (.ref 152), some (.int 5), some (.int k), none] [] (amSH L) I J R (fun v I' J' R' => v = none ∧ R' = R ∧ MmP I J (some (strP p (-1) 5)) I' J')
  refine LA0 e218_0 ?_
  refine Gr e218_1 (o152 L) (hR 152 6 156 rfl) f774 ?_
  refine Cs1p e218_4 c218_171 (Nat.le_of_ble_eq_true rfl) (Nat.le_of_ble_eq_true rfl) (m_empties (o156 L)) ?_
  rintro _ I1 J1 R1 ⟨rfl, hI1, hR1, hF1, hP1⟩
  have hI1 := hI1.symm
  subst hI1
  have hR1 := hR1.symm
  subst hR1
  have hp1 := hp.fr hF1 (by decide)
  have hq1 := hq.fr hF1 (by decide)
  refine LI1 e218_7 ?_
  refine Tin e218_8 5 rfl (by decide) rfl (show amTg 8 167 = some 175 from by decide) ?_
  refine Ki e218_175 kiconst_0 ?_
  refine SI3 e218_176 rfl ?_
  refine m_mkl5 hR hp1 hq1 (fun J2 hJ2 => ⟨rfl, rfl, FlI.rf, fun y hy => by rw [hJ2.1 y (by omega), hF1 y (by omega)], Or.inl ⟨_, rfl, hf, (JU.jp (p := fun k => if k % 2 = 1 then -p k else p k) hJ2 (fun _ _ => rfl)).cg (fun k hk => strP_m1 hpk.2.2 hk)⟩⟩) 10 0 J1 (by omega) (by omega) JU.st
  
set_option maxHeartbeats 2000000 in
theorem m_mk6 (hR : amRok R) (hp : JP J 157 p) (hq : JP J 158 q) (hpk : Pok p) (hf : I 152 9 = 0) : Cl 218 [.ref 152, .int 6, .int k] (amSH L) I J R (fun v I' J' R' => v = none ∧ R' = R ∧ MmP I J (mkF 6 p q k.toInt) I' J') := by
  show Ex 218 0 [some (.ref 152), some (.int 6), some (.int k), none] [] (amSH L) I J R (fun v I' J' R' => v = none ∧ R' = R ∧ MmP I J (some (shO k.toInt 4 0 p)) I' J')
  refine LA0 e218_0 ?_
  refine Gr e218_1 (o152 L) (hR 152 6 156 rfl) f774 ?_
  refine Cs1p e218_4 c218_171 (Nat.le_of_ble_eq_true rfl) (Nat.le_of_ble_eq_true rfl) (m_empties (o156 L)) ?_
  rintro _ I1 J1 R1 ⟨rfl, hI1, hR1, hF1, hP1⟩
  have hI1 := hI1.symm
  subst hI1
  have hR1 := hR1.symm
  subst hR1
  have hp1 := hp.fr hF1 (by decide)
  have hq1 := hq.fr hF1 (by decide)
  refine LI1 e218_7 ?_
  refine Tin e218_8 6 rfl (by decide) rfl (show amTg 8 213 = some 221 from by decide) ?_
  refine LA0 e218_221 ?_
  refine LI2 e218_222 ?_
  refine I2l e218_223 ?_
  rw [i2l_oI k]
  refine Cv1p e218_224 c218_216 (o152 L) (Nat.le_of_ble_eq_true rfl) (Nat.le_of_ble_eq_true rfl) (m_shifts hR hp1 hpk.b hpk.2.2) ?_
  rintro _ I2 J2 R2 ⟨rfl, hI2, hR2, hF2, hP2⟩
  have hI2 := hI2.symm
  subst hI2
  have hR2 := hR2.symm
  subst hR2
  refine Go e218_227 t218_227 ?_
  exact Rvd e218_347 rt218 (⟨rfl, rfl, FlI.rf, fun y hy => by rw [hF2 y (by omega), hF1 y (by omega)], Or.inl ⟨_, rfl, hf, hP2⟩⟩)
  
set_option maxHeartbeats 2000000 in
theorem m_mk7 (hR : amRok R) (hp : JP J 157 p) (hq : JP J 158 q) (hpk : Pok p) (hf : I 152 9 = 0) : Cl 218 [.ref 152, .int 7, .int k] (amSH L) I J R (fun v I' J' R' => v = none ∧ R' = R ∧ MmP I J (mkF 7 p q k.toInt) I' J') := by
  show Ex 218 0 [some (.ref 152), some (.int 7), some (.int k), none] [] (amSH L) I J R (fun v I' J' R' => v = none ∧ R' = R ∧ MmP I J (some (strP p k.toInt 5)) I' J')
  refine LA0 e218_0 ?_
  refine Gr e218_1 (o152 L) (hR 152 6 156 rfl) f774 ?_
  refine Cs1p e218_4 c218_171 (Nat.le_of_ble_eq_true rfl) (Nat.le_of_ble_eq_true rfl) (m_empties (o156 L)) ?_
  rintro _ I1 J1 R1 ⟨rfl, hI1, hR1, hF1, hP1⟩
  have hI1 := hI1.symm
  subst hI1
  have hR1 := hR1.symm
  subst hR1
  have hp1 := hp.fr hF1 (by decide)
  have hq1 := hq.fr hF1 (by decide)
  refine LI1 e218_7 ?_
  refine Tin e218_8 7 rfl (by decide) rfl (show amTg 8 222 = some 230 from by decide) ?_
  refine Ki e218_230 kiconst_0 ?_
  refine SI3 e218_231 rfl ?_
  refine m_mkl7 hR hp1 hq1 (fun J2 hJ2 => ⟨rfl, rfl, FlI.rf, fun y hy => by rw [hJ2.1 y (by omega), hF1 y (by omega)], Or.inl ⟨_, rfl, hf, (JU.jp (p := fun m => p m * k.toInt ^ m) hJ2 (fun _ _ => rfl)).cg (fun k hk => strP_pw hpk.2.2 hk)⟩⟩) 10 0 J1 (by omega) (by omega) JU.st
  
set_option maxHeartbeats 2000000 in
theorem m_mk8 (hR : amRok R) (hp : JP J 157 p) (hq : JP J 158 q) (hpk : Pok p) (hf : I 152 9 = 0) : Cl 218 [.ref 152, .int 8, .int k] (amSH L) I J R (fun v I' J' R' => v = none ∧ R' = R ∧ MmP I J (mkF 8 p q k.toInt) I' J') := by
  show Ex 218 0 [some (.ref 152), some (.int 8), some (.int k), none] [] (amSH L) I J R (fun v I' J' R' => v = none ∧ R' = R ∧ MmP I J (some (revN p (sz p))) I' J')
  refine LA0 e218_0 ?_
  refine Gr e218_1 (o152 L) (hR 152 6 156 rfl) f774 ?_
  refine Cs1p e218_4 c218_171 (Nat.le_of_ble_eq_true rfl) (Nat.le_of_ble_eq_true rfl) (m_empties (o156 L)) ?_
  rintro _ I1 J1 R1 ⟨rfl, hI1, hR1, hF1, hP1⟩
  have hI1 := hI1.symm
  subst hI1
  have hR1 := hR1.symm
  subst hR1
  have hp1 := hp.fr hF1 (by decide)
  have hq1 := hq.fr hF1 (by decide)
  refine LI1 e218_7 ?_
  refine Tin e218_8 8 rfl (by decide) rfl (show amTg 8 258 = some 266 from by decide) ?_
  refine Ki e218_266 kiconst_0 ?_
  refine SI3 e218_267 rfl ?_
  obtain ⟨s, hs⟩ : ∃ s, sz p = s + 1 := ⟨sz p - 1, by have := hpk.2.1; omega⟩
  have hs9 := sz_le p
  refine m_mkl8 hR hp1 hpk.b hs (fun J2 hJ2 => ⟨rfl, rfl, FlI.rf, fun y hy => by rw [hJ2.1 y (by omega), hF1 y (by omega)], Or.inl ⟨_, rfl, hf, fun k hk => ?_⟩⟩) 11 0 J1 (by omega) (by omega) JU.st
  show J2 156 k = oI (revN p (sz p) k)
  rw [hJ2.2 k]
  unfold revN
  rw [hs]
  by_cases g : k < s + 1
  · rw [if_pos g, if_pos g, show s + 1 - 1 - k = s - k by omega]
  · rw [if_neg g, if_neg g, sz_zero (p := p) (by omega) hk]
    exact hP1 k hk
  
set_option maxHeartbeats 2000000 in
theorem m_mk9 (hR : amRok R) (hp : JP J 157 p) (hq : JP J 158 q) (hpk : Pok p) (hf : I 152 9 = 0) : Cl 218 [.ref 152, .int 9, .int k] (amSH L) I J R (fun v I' J' R' => v = none ∧ R' = R ∧ MmP I J (mkF 9 p q k.toInt) I' J') := by
  show Ex 218 0 [some (.ref 152), some (.int 9), some (.int k), none] [] (amSH L) I J R (fun v I' J' R' => v = none ∧ R' = R ∧ MmP I J (fre p) I' J')
  refine LA0 e218_0 ?_
  refine Gr e218_1 (o152 L) (hR 152 6 156 rfl) f774 ?_
  refine Cs1p e218_4 c218_171 (Nat.le_of_ble_eq_true rfl) (Nat.le_of_ble_eq_true rfl) (m_empties (o156 L)) ?_
  rintro _ I1 J1 R1 ⟨rfl, hI1, hR1, hF1, hP1⟩
  have hI1 := hI1.symm
  subst hI1
  have hR1 := hR1.symm
  subst hR1
  have hp1 := hp.fr hF1 (by decide)
  have hq1 := hq.fr hF1 (by decide)
  refine LI1 e218_7 ?_
  refine Tin e218_8 9 rfl (by decide) rfl (show amTg 8 300 = some 308 from by decide) ?_
  refine LA0 e218_308 ?_
  refine LA0 e218_309 ?_
  refine Gr e218_310 (o152 L) (hR 152 7 157 rfl) f775 ?_
  refine LA0 e218_313 ?_
  refine Gr e218_314 (o152 L) (hR 152 6 156 rfl) f774 ?_
  refine Cv2p e218_317 c218_182 (o152 L) (Nat.le_of_ble_eq_true rfl) (Nat.le_of_ble_eq_true rfl) (m_frees hR (o157 L) (o156 L) (by decide) ⟨by decide, by decide, by decide, by decide, by decide, by decide⟩ hp1 hpk.b6 (fr_ok hpk.2.2) hf) ?_
  rintro _ I2 J2 R2 ⟨rfl, hR2, hG2, hL2, hD⟩
  have hR2 := hR2.symm
  subst hR2
  refine Go e218_320 t218_320 ?_
  exact Rvd e218_347 rt218 (⟨rfl, rfl, hG2, fun y hy => by rw [hL2 y (by simp; omega), hF1 y (by omega)], hD⟩)
  
set_option maxHeartbeats 2000000 in
theorem m_mk10 (hR : amRok R) (hp : JP J 157 p) (hq : JP J 158 q) (hpk : Pok p) (hqk : Pok q) (hf : I 152 9 = 0) : Cl 218 [.ref 152, .int 10, .int k] (amSH L) I J R (fun v I' J' R' => v = none ∧ R' = R ∧ MmP I J (mkF 10 p q k.toInt) I' J') := by
  show Ex 218 0 [some (.ref 152), some (.int 10), some (.int k), none] [] (amSH L) I J R (fun v I' J' R' => v = none ∧ R' = R ∧ MmP I J (rem p q) I' J')
  refine LA0 e218_0 ?_
  refine Gr e218_1 (o152 L) (hR 152 6 156 rfl) f774 ?_
  refine Cs1p e218_4 c218_171 (Nat.le_of_ble_eq_true rfl) (Nat.le_of_ble_eq_true rfl) (m_empties (o156 L)) ?_
  rintro _ I1 J1 R1 ⟨rfl, hI1, hR1, hF1, hP1⟩
  have hI1 := hI1.symm
  subst hI1
  have hR1 := hR1.symm
  subst hR1
  have hp1 := hp.fr hF1 (by decide)
  have hq1 := hq.fr hF1 (by decide)
  refine LI1 e218_7 ?_
  refine Tin e218_8 10 rfl (by decide) rfl (show amTg 8 315 = some 323 from by decide) ?_
  refine LA0 e218_323 ?_
  refine LA0 e218_324 ?_
  refine Gr e218_325 (o152 L) (hR 152 7 157 rfl) f775 ?_
  refine LA0 e218_328 ?_
  refine Gr e218_329 (o152 L) (hR 152 8 158 rfl) f776 ?_
  refine LA0 e218_332 ?_
  refine Gr e218_333 (o152 L) (hR 152 6 156 rfl) f774 ?_
  refine Cv3p e218_336 c218_179 (o152 L) (Nat.le_of_ble_eq_true rfl) (Nat.le_of_ble_eq_true rfl) (m_remainder (o157 L) (o158 L) (o156 L) (by decide) (by decide) hp1 hq1 hpk.b hqk.b6 hqk.2.1 hf) ?_
  rintro _ I2 J2 R2 ⟨rfl, hR2, hG2, hL2, hD⟩
  have hR2 := hR2.symm
  subst hR2
  refine Go e218_339 t218_339 ?_
  exact Rvd e218_347 rt218 (⟨rfl, rfl, hG2, fun y hy => by rw [hL2 y (by omega), hF1 y (by omega)], by
    rcases hD with z | ⟨z1, z2, -⟩
    · exact Or.inl z
    · exact Or.inr ⟨z1, z2⟩⟩)
  
end REF31
