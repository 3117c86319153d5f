/-! the quotients are there -/
theorem dN_der {p : Nat → Int} {x : Rat} : ∀ n, dN p (n + 1) x = evN (fun k => p (k + 1) * ((k : Int) + 1)) n x
  | 0 => by
    show (0 : Rat) + (p 0 : Rat) * (((0 : Nat) : Rat) * x ^ (0 - 1)) = 0
    rw [show ((0 : Nat) : Rat) = 0 from rfl]
    grind
  | n + 1 => by
    rw [dN_S, dN_der n, evN_S, Nat.add_sub_cancel]
    have e : (((p (n + 1) * ((n : Int) + 1) : Int)) : Rat) = (p (n + 1) : Rat) * ((n + 1 : Nat) : Rat) := by
      rw [Rat.intCast_mul]
      rfl
    rw [e]
    grind
theorem ev_der {p : Po} {x : Rat} : ev (der p) x = dN p 9 x := by
  rw [dN_der 8]
  show evN (der p) (8 + 1) x = _
  rw [evN_S, show der p 8 = 0 from by unfold der; rw [if_neg (by decide)], Rat.intCast_zero]
  have : evN (der p) 8 x = evN (fun k => p (k + 1) * ((k : Int) + 1)) 8 x := evN_cg (fun k hk => by unfold der; rw [if_pos hk])
  rw [this]
  grind
theorem isD_ev (p : Po) : isD (ev p) (ev (der p)) := ⟨p, 9, fun _ => rfl, fun _ => ev_der⟩
theorem isP_ev (p : Po) : isP (ev p) := ⟨p, 9, fun _ => rfl⟩
theorem hasD_ev {p : Po} (h : 0 < sz p) : hasD (ev p) (sz p - 1) := ⟨p, sz_head h, fun x => by
  have h9 := sz_le p
  show evN p 9 x = _
  rw [show sz p - 1 + 1 = sz p by omega]
  exact evN_to h9 (fun k h1 h2 => sz_zero h1 h2)⟩
theorem dvN_cv {d s q : Nat → Int} {l k : Nat} (h : ∀ i, i ≤ l → q i = d i) (hz : ∀ i, l < i → q i = 0) : ∀ t, dvN d s l k t = cvN s q k t
  | 0 => rfl
  | t + 1 => by
    rw [dvN, cvN, dvN_cv h hz t]
    by_cases g : t ≤ k
    · rw [if_pos g]
      by_cases g2 : k ≤ t + l
      · rw [if_pos ⟨g, g2⟩, h (k - t) (by omega)]
      · rw [if_neg (fun z => g2 z.2), hz (k - t) (by omega), Int.mul_zero]
    · rw [if_neg g, if_neg (fun z => g z.1)]
theorem trN_g {g : Po} {i : Nat} (h : sz g ≤ i) : trN g 9 i = 0 := by
  by_cases e : i < 9
  · rw [trN_s e]
    exact sz_zero h e
  · exact trN_z (by omega)
/-- a quotient is one of functions -/
theorem Dv_ev {p q s : Po} (h : Dv p q s) (h0 : 0 < sz q) (x : Rat) : ev p x = ev s x * ev q x := by
  have h9 := sz_le q
  obtain ⟨h1, h2, -, -⟩ := h
  have e1 : ev p x = evN (fun k => cvN s (trN q 9) k (9 - (sz q - 1))) 9 x := evN_cg (fun k hk => by
    rw [h1 k hk]
    exact dvN_cv (fun i hi => trN_s (by omega)) (fun i hi => trN_g (by omega)) _)
  have e2 : ev q x = evN (trN q 9) (sz q) x := by
    show evN q 9 x = _
    rw [← evN_tr (f := q)]
    exact evN_to h9 (fun k a b => trN_g a)
  have e3 : ev s x = evN s (9 - (sz q - 1)) x := evN_to (by omega) (fun k a b => h2 k b (by omega))
  rw [e1, e2, e3]
  exact evN_cv (fun k hk => trN_g hk) _ (by omega)
theorem gN_gr {p : Nat → Int} {m : Nat} : ∀ n, (∀ k, k < n → (m : Int) ∣ p k) → m ∣ gN p n
  | 0, _ => Nat.dvd_zero m
  | n + 1, h => by
    rw [gN]
    exact Nat.dvd_gcd (gN_gr n (fun k hk => h k (by omega))) (Int.ofNat_dvd_left.mp (h n (by omega)))
theorem bd_x {x g w : Int} {W : Nat} (h : w = x * g) (h0 : g ≠ 0) (hw : w.natAbs ≤ W) : x.natAbs ≤ W := by
  have e : w.natAbs = x.natAbs * g.natAbs := by rw [h, Int.natAbs_mul]
  have h1 : 1 ≤ g.natAbs := by omega
  have := Nat.mul_le_mul_left x.natAbs h1
  omega
theorem bd_m {x g : Int} {A : Nat} (h1 : x.natAbs ≤ A) (h2 : g.natAbs ≤ 1000000) : (x * g).natAbs ≤ A * 1000000 := by
  rw [Int.natAbs_mul]
  exact Nat.mul_le_mul h1 h2
theorem bd_2 {x y g h w : Int} (e : w = x * g + y * h) (h0 : g ≠ 0) (hw : w.natAbs ≤ 1000000) (hy : y.natAbs ≤ 1000000) (hh : h.natAbs ≤ 1000000) : x.natAbs ≤ 1000001000000 := by
  have hm := bd_m hy hh
  exact bd_x (w := w - y * h) (by omega) h0 (by omega)
theorem sbd {s g P : Nat → Int} {l : Nat} (hl : l ≤ 4) (hg : g l ≠ 0) (hgz : ∀ k, l < k → g k = 0) (hs : ∀ k, 5 ≤ k + l → s k = 0) (e0 : P 0 = s 0 * g 0) (e1 : P 1 = s 0 * g 1 + s 1 * g 0) (e2 : P 2 = s 0 * g 2 + s 1 * g 1 + s 2 * g 0) (e3 : P 3 = s 0 * g 3 + s 1 * g 2 + s 2 * g 1 + s 3 * g 0) (e4 : P 4 = s 0 * g 4 + s 1 * g 3 + s 2 * g 2 + s 3 * g 1 + s 4 * g 0) (hP : ∀ k, (P k).natAbs ≤ 1000000) (hG : ∀ k, (g k).natAbs ≤ 1000000) : ∀ k, (s k).natAbs ≤ 1000001000000 := by
  have big : ∀ {k : Nat}, (s k).natAbs ≤ 1000000 → (s k).natAbs ≤ 1000001000000 := fun h => by omega
  have z : ∀ {k : Nat}, s k = 0 → (s k).natAbs ≤ 1000001000000 := fun h => by rw [h]; decide
  have fin : (s 0).natAbs ≤ 1000001000000 → (s 1).natAbs ≤ 1000001000000 → (s 2).natAbs ≤ 1000001000000 → (s 3).natAbs ≤ 1000001000000 → (s 4).natAbs ≤ 1000001000000 → ∀ k, (s k).natAbs ≤ 1000001000000 := fun a b c d e k => by
    by_cases h5 : 5 ≤ k
    · exact z (hs k (by omega))
    · rcases (by omega : k = 0 ∨ k = 1 ∨ k = 2 ∨ k = 3 ∨ k = 4) with rfl | rfl | rfl | rfl | rfl <;> assumption
  rcases (by omega : l = 0 ∨ l = 1 ∨ l = 2 ∨ l = 3 ∨ l = 4) with rfl | rfl | rfl | rfl | rfl
  · have g1 := hgz 1 (by decide)
    have g2 := hgz 2 (by decide)
    have g3 := hgz 3 (by decide)
    have g4 := hgz 4 (by decide)
    simp only [g1, g2, g3, g4, Int.mul_zero, Int.zero_add, Int.add_zero] at e1 e2 e3 e4
    exact fin (big (bd_x e0 hg (hP 0))) (big (bd_x e1 hg (hP 1))) (big (bd_x e2 hg (hP 2))) (big (bd_x e3 hg (hP 3))) (big (bd_x e4 hg (hP 4)))
  · have g2 := hgz 2 (by decide)
    have g3 := hgz 3 (by decide)
    have g4 := hgz 4 (by decide)
    have s4 := hs 4 (by decide)
    simp only [g2, g3, g4, s4, Int.mul_zero, Int.zero_mul, Int.zero_add, Int.add_zero] at e2 e3 e4
    have b3 := bd_x e4 hg (hP 4)
    have b2 := bd_2 e3 hg (hP 3) b3 (hG 0)
    by_cases h0 : g 0 = 0
    · simp only [h0, Int.mul_zero, Int.add_zero] at e1 e2
      exact fin (big (bd_x e1 hg (hP 1))) (big (bd_x e2 hg (hP 2))) b2 (big b3) (z s4)
    · have b0 := bd_x e0 h0 (hP 0)
      have b1 := bd_2 (x := s 1) (y := s 0) (g := g 0) (h := g 1) (by omega) h0 (hP 1) b0 (hG 1)
      exact fin (big b0) b1 b2 (big b3) (z s4)
  · have g3 := hgz 3 (by decide)
    have g4 := hgz 4 (by decide)
    have s3 := hs 3 (by decide)
    have s4 := hs 4 (by decide)
    simp only [g3, g4, s3, s4, Int.mul_zero, Int.zero_mul, Int.zero_add, Int.add_zero] at e3 e4
    have b2 := bd_x e4 hg (hP 4)
    have b1 := bd_2 e3 hg (hP 3) b2 (hG 1)
    by_cases h0 : g 0 = 0
    · simp only [h0, Int.mul_zero, Int.add_zero] at e1 e2
      by_cases h1 : g 1 = 0
      · simp only [h1, Int.mul_zero, Int.add_zero] at e2
        exact fin (big (bd_x e2 hg (hP 2))) b1 (big b2) (z s3) (z s4)
      · exact fin (big (bd_x e1 h1 (hP 1))) b1 (big b2) (z s3) (z s4)
    · exact fin (big (bd_x e0 h0 (hP 0))) b1 (big b2) (z s3) (z s4)
  · have g4 := hgz 4 (by decide)
    have s2 := hs 2 (by decide)
    have s3 := hs 3 (by decide)
    have s4 := hs 4 (by decide)
    simp only [g4, s2, s3, s4, Int.mul_zero, Int.zero_mul, Int.zero_add, Int.add_zero] at e3 e4
    have b1 := bd_x e4 hg (hP 4)
    have b0 := bd_2 e3 hg (hP 3) b1 (hG 2)
    exact fin b0 (big b1) (z s2) (z s3) (z s4)
  · have s1 := hs 1 (by decide)
    have s2 := hs 2 (by decide)
    have s3 := hs 3 (by decide)
    have s4 := hs 4 (by decide)
    simp only [s1, s2, s3, s4, Int.zero_mul, Int.add_zero] at e4
    exact fin (big (bd_x e4 hg (hP 4))) (z s1) (z s2) (z s3) (z s4)
theorem cv_5 {s q : Nat → Int} : (cvN s q 0 5 = s 0 * q 0 ∧ cvN s q 1 5 = s 0 * q 1 + s 1 * q 0 ∧ cvN s q 2 5 = s 0 * q 2 + s 1 * q 1 + s 2 * q 0) ∧ cvN s q 3 5 = s 0 * q 3 + s 1 * q 2 + s 2 * q 1 + s 3 * q 0 ∧ cvN s q 4 5 = s 0 * q 4 + s 1 * q 3 + s 2 * q 2 + s 3 * q 1 + s 4 * q 0 := by
  simp [cvN]
/-- what divides over the fractions, with nothing in common of its numbers, divides -/
theorem dv_ex {p g : Po} (h5 : sz p ≤ 5) (hp : PB 1000000 p) (hg1 : gN g 9 = 1) (hg0 : 0 < sz g) (hg5 : sz g ≤ 5) (hgB : PB 1000000 g) (hd : Dd g p) : ∃ s, Dv p g s := by
  obtain ⟨c, hc, Tf, ⟨f, t, hf⟩, hd⟩ := hd
  have hz : ∀ k, 9 ≤ k → trN g 9 k = 0 := fun k hk => trN_z hk
  have e0 : ∀ k, c * trN p 9 k = cvN f (trN g 9) k t := by
    have h1 : ∀ k, k < 9 + t → (fun k => c * trN p 9 k) k = (fun k => cvN f (trN g 9) k t) k := evN_eq (n := 9 + t) (fun x => by
      rw [evN_sm, evN_to (p := trN p 9) (n := 9) (N := 9 + t) (by omega) (fun k a _ => trN_z a), evN_tr, evN_cv (n := 9) hz t (by omega), evN_tr, ← hf]
      exact hd x)
    intro k
    by_cases hk : k < 9 + t
    · exact h1 k hk
    · rw [trN_z (by omega), Int.mul_zero]
      exact (cvN_zz t (fun i a b => by rw [hz (k - i) (by omega), Int.mul_zero])).symm
  have hcc : ∀ m : Nat, 2 ≤ m → ¬ ∀ k, (m : Int) ∣ trN g 9 k := fun m hm h => by
    have h1 := gN_gr (p := g) (m := m) 9 (fun k hk => by
      have := h k
      rw [trN_s hk] at this
      exact this)
    rw [hg1] at h1
    have := Nat.le_of_dvd (by decide) h1
    omega
  obtain ⟨s0, hs0⟩ : ∃ s : Nat → Int, ∀ k, trN p 9 k = cvN s (trN g 9) k t := by
    rcases Int.lt_or_lt_of_ne hc with l | l
    · refine gau hz hcc c.natAbs (fun k => (-1) * f k) (by omega) (fun k => ?_)
      rw [cvN_sm (g := f) (m := -1) t (fun _ _ => rfl), ← e0 k]
      have : ((c.natAbs : Nat) : Int) = -c := by omega
      rw [this]
      grind
    · refine gau hz hcc c.natAbs f (by omega) (fun k => ?_)
      rw [← e0 k]
      have : ((c.natAbs : Nat) : Int) = c := by omega
      rw [this]
  obtain ⟨l, hl⟩ : ∃ l, sz g = l + 1 := ⟨sz g - 1, by omega⟩
  have hgl : trN g 9 l ≠ 0 := by
    rw [trN_s (by omega)]
    have := sz_head hg0
    rw [hl, Nat.add_sub_cancel] at this
    exact this
  have hgz : ∀ k, l < k → trN g 9 k = 0 := fun k hk => trN_g (by omega)
  have hpz : ∀ k, 5 ≤ k → trN p 9 k = 0 := fun k hk => trN_g (by omega)
  have hcg : ∀ m k, cvN (trN s0 t) (trN g 9) k m = cvN (trN s0 t) (trN g 9) k m := fun _ _ => rfl
  have hs1 : ∀ k, trN p 9 k = cvN (trN s0 t) (trN g 9) k t := fun k => by
    rw [hs0 k, cvN_sm (f := trN s0 t) (g := s0) (m := 1) t (fun i hi => by rw [trN_s hi, Int.one_mul]), Int.one_mul]
  generalize hs : trN s0 t = s at *
  have hst : ∀ k, t ≤ k → s k = 0 := fun k hk => by rw [← hs]; exact trN_z hk
  have hsz : ∀ d i, t ≤ i + d → 5 ≤ i + l → s i = 0 := by
    intro d
    induction d with
    | zero => intro i h1 _; exact hst i (by omega)
    | succ d ih =>
      intro i h1 h2
      by_cases hi : t ≤ i
      · exact hst i hi
      · have e := hs1 (i + l)
        rw [hpz _ h2, cvN_one (j := i) (by omega) t (by omega) (fun j a b ne => by
          rcases Nat.lt_or_gt_of_ne ne with g1 | g1
          · rw [hgz (i + l - j) (by omega), Int.mul_zero]
          · rw [ih j (by omega) (by omega), Int.zero_mul]), Nat.add_sub_cancel_left] at e
        rcases Int.mul_eq_zero.mp e.symm with g1 | g1
        · exact g1
        · exact absurd g1 hgl
  have hs5 : ∀ i, 5 ≤ i + l → s i = 0 := fun i hi => hsz t i (by omega) hi
  have hs2 : ∀ k, trN p 9 k = cvN s (trN g 9) k 5 := fun k => by
    rw [hs1 k, ← cvN_up (a := t) 5 hst, Nat.add_comm, cvN_up (a := 5) t (fun i hi => hs5 i (by omega))]
  have hs3 : ∀ k, trN p 9 k = cvN s (trN g 9) k (9 - l) := fun k => by
    rw [hs2 k, show 9 - l = 5 + (4 - l) by omega, cvN_up (a := 5) (4 - l) (fun i hi => hs5 i (by omega))]
  obtain ⟨⟨c0, c1, c2⟩, c3, c4⟩ := cv_5 (s := s) (q := trN g 9)
  have hB : ∀ (q : Po), PB 1000000 q → ∀ k, (trN q 9 k).natAbs ≤ 1000000 := fun q hq k => by
    by_cases e : k < 9
    · rw [trN_s e]
      have := hq k e
      omega
    · rw [trN_z (by omega)]
      decide
  have hbs := sbd (s := s) (g := trN g 9) (P := trN p 9) (l := l) (by omega) hgl hgz hs5 ((hs2 0).trans c0) ((hs2 1).trans c1) ((hs2 2).trans c2) ((hs2 3).trans c3) ((hs2 4).trans c4) (hB p hp) (hB g hgB)
  refine ⟨s, ?_, ?_, ?_, ?_⟩
  · intro k hk
    rw [hl, Nat.add_sub_cancel, dvN_cv (q := trN g 9) (fun i hi => trN_s (by omega)) hgz, ← hs3 k, trN_s hk]
  · intro k hk h
    exact hs5 k (by omega)
  · intro k hk
    have := hbs k
    omega
  · intro k hk
    have h1 := hbs k
    have h2 := hB g hgB (sz g - 1)
    rw [trN_s (by omega)] at h2
    have := bd_m h1 h2
    unfold iB
    omega
theorem fr_okP {p : Po} (h5 : sz p ≤ 5) : FrOk p := fun g hf hd hc => by
  have h0 : 0 < sz (cln p) := by
    rcases Nat.eq_zero_or_pos (sz (cln p)) with z | z
    · exfalso
      refine hd (sz_of (by omega) (fun k _ hk => ?_) (Or.inl rfl))
      unfold der
      by_cases e : k < 8
      · rw [if_pos e, sz_zero (p := cln p) (by omega) (by omega), Int.zero_mul]
      · rw [if_neg e]
    · exact z
  have h5c : sz (cln p) ≤ 5 := by rw [cln_szz]; exact h5
  have hds := der_szz h0
  obtain ⟨a1, a2, -, -⟩ := com_all hc h0 h5c (by omega)
  obtain ⟨b1, b2⟩ := com_szP hc h0 h5c (by omega)
  exact ⟨b1, dv_ex h5c (fit_PB hf) a1 b1 b2 (com_PB hc) a2⟩
/-- e is what d and its derived one have in common -/
def Gc (e d : Po) : Prop := gN e 9 = 1 ∧ 0 < sz e ∧ Dd e d ∧ Dd e (der d) ∧ Bz e d (der d)
theorem on_sz1 : sz oneP = 1 := sz_of (by decide) (fun k g1 g2 => by unfold oneP; rw [if_neg (by omega)]) (Or.inr (by decide))
theorem on_PB1 : PB 1000000 oneP := fun k _ => by
  unfold oneP
  split <;> exact ⟨by decide, by decide⟩
theorem ev_c {p : Po} (h : sz p ≤ 1) (x : Rat) : ev p x = (p 0 : Rat) := by
  show evN p 9 x = _
  rw [evN_to (n := 1) (by decide) (fun k a b => sz_zero (by omega) b), evN_S]
  show (0 : Rat) + (p 0 : Rat) * x ^ 0 = _
  rw [Rat.pow_zero]
  grind
theorem ev_one (x : Rat) : ev oneP x = 1 := by
  rw [ev_c (by rw [on_sz1]; decide)]
  rfl
theorem Dd_one {d : Po} : Dd oneP d := ⟨1, by decide, _, isP_ev d, fun x => by
  rw [ev_one, Rat.intCast_one]
  grind⟩
theorem Gc_step {d e : Po} {n : Nat} {t : List Po} (h : spN (n + 1) d = some t) (h0 : 0 < sz d) (h5 : sz d ≤ 5) (he : t.getD 0 zP = e) : Gc e d ∧ PB 1000000 e ∧ ∃ u, t = e :: u ∧ spN n e = some u := by
  have hd := der_szz h0
  rw [spN] at h
  by_cases z : sz (der d) = 0
  · rw [if_pos z] at h
    cases hu : spN n oneP with
    | none => rw [hu] at h; cases h
    | some u =>
      rw [hu] at h
      cases h
      have e1 : oneP = e := he
      subst e1
      have hd1 : sz d ≤ 1 := by omega
      have d0 : d 0 ≠ 0 := by
        have := sz_head h0
        rw [show sz d - 1 = 0 by omega] at this
        exact this
      refine ⟨⟨by decide, by rw [on_sz1]; decide, Dd_one, Dd_one, d 0, d0, _, _, isP_c 1, isP_c 0, fun x => ?_⟩, on_PB1, u, rfl, hu⟩
      rw [ev_one, ev_c hd1, Rat.intCast_one, Rat.intCast_zero]
      grind
  · rw [if_neg z] at h
    cases hg : com d (der d) with
    | none => rw [hg] at h; cases h
    | some g =>
      rw [hg] at h
      dsimp only at h
      cases hu : spN n g with
      | none => rw [hu] at h; cases h
      | some u =>
        rw [hu] at h
        cases h
        have e1 : g = e := he
        subst e1
        obtain ⟨a1, a2, a3, a4⟩ := com_all hg h0 h5 (by omega)
        exact ⟨⟨a1, (com_szP hg h0 h5 (by omega)).1, a2, a3, a4⟩, com_PB hg, u, rfl, hu⟩
theorem Gc_all : ∀ {n : Nat} {d : Po} {t : List Po}, spN n d = some t → PB 1000000 d → 0 < sz d → sz d ≤ 5 → ∀ k, k < n → Gc (t.getD k zP) (([d] ++ t).getD k zP) ∧ PB 1000000 (t.getD k zP) ∧ PB 1000000 (([d] ++ t).getD k zP)
  | 0, _, _, _, _, _, _, k, hk => absurd hk (Nat.not_lt_zero k)
  | n + 1, d, t, h, hB, h0, h5, k, hk => by
    obtain ⟨h1, h2, u, hu, hn⟩ := Gc_step h h0 h5 rfl
    have hs := spN_szz h h0 h5 0 (by omega)
    generalize t.getD 0 zP = e at *
    subst hu
    cases k with
    | zero => exact ⟨h1, h2, hB⟩
    | succ k => exact Gc_all hn h2 hs.1 hs.2 k (by omega)
/-- what repeats less often divides -/
theorem E_dv {d0 d1 d2 f f2 : Po} (hG1 : Gc d1 d0) (hG2 : Gc d2 d1) (hf : Dv d0 d1 f) (hf2 : Dv d1 d2 f2) : Dd f2 f := by
  obtain ⟨-, z1, -, ⟨cw, hcw, W, hW, eW⟩, -⟩ := hG1
  obtain ⟨-, z2, -, ⟨c2, hc2, W2, hW2, eW2⟩, c, hc, A, B, hA, hB, eB⟩ := hG2
  have e0 := Dv_ev hf z1
  have e1 := Dv_ev hf2 z2
  have hD2 := hasD_ev z2
  -- d0' = f' d1 + f d1'
  have hder : ∀ x, ev (der d0) x = ev (der f) x * ev d1 x + ev f x * ev (der d1) x := fun x => by
    have h1 : isD (ev d0) (fun x => ev (der f) x * ev d1 x + ev f x * ev (der d1) x) := by
      obtain ⟨a, t, ha, hb⟩ := isD_mul (isD_ev f) (isD_ev d1)
      exact ⟨a, t, fun x => (e0 x).trans (ha x), hb⟩
    exact isD_uq (isD_ev d0) h1 x
  have pf := isP_ev f
  have pf2 := isP_ev f2
  have pdf := isP_ev (der f)
  have k1 : ∀ x, (cw : Rat) * ev f x * W2 x = (c2 : Rat) * (W x - (cw : Rat) * ev (der f) x) * ev f2 x := by
    refine cancE (isP_mul (isP_sm cw pf) hW2) (isP_mul (isP_sm c2 (isP_sub hW (isP_sm cw pdf))) pf2) hD2 (fun x => ?_)
    have g1 := eW x
    have g2 := eW2 x
    have g3 := hder x
    have g4 := e1 x
    rw [g3] at g1
    rw [g4] at g1 
    generalize ev (der f) x = f' at *
    generalize ev f x = F at *
    generalize ev f2 x = F2 at *
    generalize ev d2 x = D2 at *
    generalize ev (der d1) x = D1' at *
    generalize W x = w at *
    generalize W2 x = w2 at *
    generalize (cw : Rat) = cw at *
    generalize (c2 : Rat) = c2 at *
    have s1 : cw * F * w2 * D2 = cw * F * (c2 * D1') := by rw [g2]; grind
    rw [s1]
    grind
  have k2 : ∀ x, (c : Rat) * (c2 : Rat) = (c2 : Rat) * A x * ev f2 x + B x * W2 x := by
    refine cancE (isP_sm c (isP_c c2)) (isP_add (isP_mul (isP_sm c2 hA) pf2) (isP_mul hB hW2)) hD2 (fun x => ?_)
    have g1 := eB x
    have g2 := eW2 x
    have g4 := e1 x
    rw [g4] at g1
    generalize ev f2 x = F2 at *
    generalize ev d2 x = D2 at *
    generalize ev (der d1) x = D1' at *
    generalize A x = a at *
    generalize B x = b at *
    generalize W2 x = w2 at *
    generalize (c : Rat) = c at *
    generalize (c2 : Rat) = c2 at *
    have s1 : c * c2 * D2 = c2 * (c * D2) := by grind
    have s2 : (c2 * a * F2 + b * w2) * D2 = c2 * a * F2 * D2 + b * (w2 * D2) := by grind
    rw [s1, s2, g1, ← g2]
    grind
  refine ⟨c * c2 * cw, Int.mul_ne_zero (Int.mul_ne_zero hc hc2) hcw, _, isP_add (isP_mul (isP_sm c2 (isP_sm cw hA)) pf) (isP_mul (isP_sm c2 hB) (isP_sub hW (isP_sm cw pdf))), fun x => ?_⟩
  have g1 := k1 x
  have g2 := k2 x
  simp only [Rat.intCast_mul]
  generalize ev (der f) x = f' at *
  generalize ev f x = F at *
  generalize ev f2 x = F2 at *
  generalize A x = a at *
  generalize B x = b at *
  generalize W x = w at *
  generalize W2 x = w2 at *
  generalize (c : Rat) = c at *
  generalize (c2 : Rat) = c2 at *
  generalize (cw : Rat) = cw at *
  rw [g2]
  have s1 : (c2 * a * F2 + b * w2) * cw * F = c2 * a * F2 * cw * F + b * (cw * F * w2) := by grind
  rw [s1, g1]
  grind
theorem pf_okP {p : Po} {l : List Po} {m : Nat} (h : spl p = some l) (h0 : 0 < sz p) (h5 : sz p ≤ 5) (h1 : 1 ≤ m) (h4 : m ≤ 4) : PfOk l m := by
  have hsz := spl_szP h h0 h5
  unfold spl at h
  split at h
  · rename_i hfit
    cases ht : spN 5 (up (cln p)) with
    | none => rw [ht] at h; cases h
    | some t =>
      rw [ht] at h
      cases h
      obtain ⟨k, rfl⟩ : ∃ k, m = k + 1 := ⟨m - 1, by omega⟩
      have hd0 : 0 < sz (up (cln p)) ∧ sz (up (cln p)) ≤ 5 := by
        rw [up_szz, cln_szz]
        exact ⟨h0, h5⟩
      have G1 := Gc_all ht (up_PB (fit_PB hfit)) hd0.1 hd0.2 k (by omega)
      have G2 := Gc_all ht (up_PB (fit_PB hfit)) hd0.1 hd0.2 (k + 1) (by omega)
      have z0 := hsz k (by omega)
      have z1 := hsz (k + 1) (by omega)
      have z2 := hsz (k + 1 + 1) (by omega)
      unfold PfOk
      rw [Nat.add_sub_cancel]
      have E1 : ([up (cln p)] ++ t).getD (k + 1) zP = t.getD k zP := rfl
      have E2 : ([up (cln p)] ++ t).getD (k + 1 + 1) zP = t.getD (k + 1) zP := rfl
      rw [E1] at G2 z1 ⊢
      rw [E2] at z2 ⊢
      generalize ([up (cln p)] ++ t).getD k zP = d0 at *
      generalize t.getD k zP = d1 at *
      generalize t.getD (k + 1) zP = d2 at *
      obtain ⟨⟨a1, a2, a3, a4, a5⟩, PB1, PB0⟩ := id G1
      obtain ⟨⟨b1, b2, b3, b4, b5⟩, PB2, -⟩ := id G2
      have q1 : ∃ s, Dv d0 d1 s := dv_ex z0.2 PB0 a1 z1.1 z1.2 PB1 a3
      have q2 : ∃ s, Dv d1 d2 s := dv_ex z1.2 PB1 b1 z2.1 z2.2 PB2 b3
      refine ⟨⟨z1.1, q1⟩, ⟨z2.1, q2⟩, fun f1 f2 => ?_⟩
      have v1 := quo_dv q1
      have v2 := quo_dv q2
      have hdd := E_dv G1.1 G2.1 v1 v2
      generalize quo d0 d1 = E at *
      generalize quo d1 d2 = F at *
      have s1 := dv_sz v1 (show sz d1 = sz d1 - 1 + 1 by omega)
      have s2 := dv_sz v2 (show sz d2 = sz d2 - 1 + 1 by omega)
      have e0 : 0 < sz E := by
        rcases Nat.eq_zero_or_pos (sz E) with z | z
        · have := s1.1 z; omega
        · exact z
      have f0 : 0 < sz F := by
        rcases Nat.eq_zero_or_pos (sz F) with z | z
        · have := s2.1 z; omega
        · exact z
      have e5 := s1.2 e0
      have f5 := s2.2 f0
      have c0 : 0 < sz (cln F) := by rw [cln_szz]; exact f0
      exact ⟨c0, dv_ex (by rw [cln_szz]; omega) (fit_PB f1) (CL_cln.g1 c0) c0 (by rw [cln_szz]; omega) (fit_PB f2) ((hdd.sa As_cln).as As_cln)⟩
  · cases h
