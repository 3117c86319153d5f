/-! fractions: how they are found (printed by wip/whole/t49.py) -/
/-- the least power with a number, 4 at most -/
def lwN (p : Po) : Nat → Nat → Nat
  | 0, k => k
  | f + 1, k => if p k = 0 then lwN p f (k + 1) else k
def lw (p : Po) : Nat := lwN p 4 0
theorem lwN_le {p : Po} : ∀ {f k : Nat}, k ≤ lwN p f k ∧ lwN p f k ≤ k + f
  | 0, k => ⟨Nat.le_refl _, Nat.le_refl _⟩
  | f + 1, k => by
    unfold lwN
    split
    · have := lwN_le (p := p) (f := f) (k := k + 1); omega
    · omega
theorem lwN_zero {p : Po} : ∀ {f k i : Nat}, k ≤ i → i < lwN p f k → p i = 0
  | 0, k, i, h1, h2 => by unfold lwN at h2; omega
  | f + 1, k, i, h1, h2 => by
    unfold lwN at h2
    split at h2
    · rename_i g
      by_cases e : i = k
      · rw [e]; exact g
      · exact lwN_zero (f := f) (k := k + 1) (by omega) h2
    · omega
/-- a fraction of p -/
def FrQ (p : Po) (e : Int × Int) : Prop := (e = (0, 1) ∧ 0 < lw p) ∨ (e.1 ≠ 0 ∧ frB e ∧ (p (lw p)).tmod (e.1.natAbs : Nat) = 0 ∧ (hd p).tmod e.2 = 0 ∧ Nat.gcd e.1.natAbs e.2.natAbs = 1 ∧ hv p e.1 e.2 = 0)
/-- the rows hold just those fractions of p that D tells, from the least on -/
def FrSt (p : Po) (D : Int × Int → Prop) (F : Fq) (n : Nat) : Prop := (∀ k, k < n → frB (F k)) ∧ (∀ i j, i < j → j < n → frL (F i) (F j)) ∧ ∀ e, (∃ k, k < n ∧ F k = e) ↔ (FrQ p e ∧ D e)
theorem hN_u0 {p : Po} {s : Nat} : ∀ {j : Nat}, 0 < j → hN p 0 1 s j = p (s - j)
  | 0, h => absurd h (Nat.lt_irrefl 0)
  | j + 1, _ => by
    rw [hN, Int.mul_zero, Int.zero_add, Int.one_pow, Int.mul_one, show s - (j + 1) = s - 1 - j by omega]
theorem FrQ.root {p : Po} {e : Int × Int} (hs : 0 < sz p) (h : FrQ p e) : hv p e.1 e.2 = 0 := by
  rcases h with ⟨h, h2⟩ | h
  · subst h
    show hv p 0 1 = 0
    unfold hv
    rw [hN_u0 hs, Nat.sub_self]
    exact lwN_zero (f := 4) (Nat.le_refl 0) h2
  · exact h.2.2.2.2.2
theorem FrQ.b {p : Po} {e : Int × Int} (h : FrQ p e) : frB e ∧ Nat.gcd e.1.natAbs e.2.natAbs = 1 := by
  rcases h with ⟨h, h2⟩ | h
  · subst h
    exact ⟨⟨⟨by decide, by decide⟩, by decide, by decide⟩, by decide⟩
  · exact ⟨h.2.1, h.2.2.2.2.1⟩
theorem low_nat {a b c d : Nat} (h1 : Nat.gcd a b = 1) (h2 : Nat.gcd c d = 1) (hb : 0 < b) (h : a * d = c * b) : a = c ∧ b = d := by
  have e1 : b ∣ d := Nat.Coprime.dvd_of_dvd_mul_left (k := b) (m := a) (n := d) (by rw [Nat.coprime_comm]; exact h1) ⟨c, by rw [h, Nat.mul_comm]⟩
  have e2 : d ∣ b := Nat.Coprime.dvd_of_dvd_mul_left (k := d) (m := c) (n := b) (by rw [Nat.coprime_comm]; exact h2) ⟨a, by rw [← h, Nat.mul_comm]⟩
  have e := Nat.dvd_antisymm e1 e2
  subst e
  exact ⟨Nat.eq_of_mul_eq_mul_right hb h, rfl⟩
theorem low_eq {a b : Int × Int} (ha : frB a) (hb : frB b) (h1 : Nat.gcd a.1.natAbs a.2.natAbs = 1) (h2 : Nat.gcd b.1.natAbs b.2.natAbs = 1) (h : a.1 * b.2 = b.1 * a.2) : a = b := by
  have e := congrArg Int.natAbs h
  rw [Int.natAbs_mul, Int.natAbs_mul] at e
  have l := low_nat h1 h2 (by have := ha.2.1; omega) e
  have p1 := ha.2.1
  have p2 := hb.2.1
  have e2 : a.2 = b.2 := by omega
  rw [e2] at h
  have e1 : a.1 = b.1 := Int.eq_of_mul_eq_mul_right (by omega) h
  exact Prod.ext e1 e2
theorem fr_tri {a b : Int × Int} (h : ¬ a.1 * b.2 = b.1 * a.2) : frL a b ∨ frL b a := by
  unfold frL
  omega
theorem fr_trans {a b c : Int × Int} (ha : frB a) (hb : frB b) (hc : frB c) (h1 : frL a b) (h2 : frL b c) : frL a c := by
  unfold frL at *
  have p1 := ha.2.1
  have p2 := hb.2.1
  have p3 := hc.2.1
  have q1 : a.1 * b.2 * c.2 < b.1 * a.2 * c.2 := Int.mul_lt_mul_of_pos_right h1 (by omega)
  have q2 : b.1 * c.2 * a.2 < c.1 * b.2 * a.2 := Int.mul_lt_mul_of_pos_right h2 (by omega)
  have q3 : a.1 * c.2 * b.2 < c.1 * a.2 * b.2 := by
    have r1 : a.1 * c.2 * b.2 = a.1 * b.2 * c.2 := by rw [Int.mul_assoc, Int.mul_comm c.2, ← Int.mul_assoc]
    have r2 : c.1 * a.2 * b.2 = c.1 * b.2 * a.2 := by rw [Int.mul_assoc, Int.mul_comm a.2, ← Int.mul_assoc]
    have r3 : b.1 * a.2 * c.2 = b.1 * c.2 * a.2 := by rw [Int.mul_assoc, Int.mul_comm a.2, ← Int.mul_assoc]
    omega
  exact Int.lt_of_mul_lt_mul_right q3 (by omega)
/-- one more comes in -/
theorem FrSt.ins {p : Po} {D : Int × Int → Prop} {F : Fq} {n m : Nat} {a : Int × Int} (h : FrSt p D F n) (ha : FrQ p a) (hD : ¬ D a) (hm : InsAt F n m a) : FrSt p (fun e => D e ∨ e = a) (insF F m a) (n + 1) := by
  obtain ⟨h1, h2, h3⟩ := h
  obtain ⟨m1, m2, m3⟩ := hm
  have hin : ∀ k, k < n → FrQ p (F k) ∧ D (F k) := fun k hk => (h3 (F k)).mp ⟨k, hk, rfl⟩
  have hab := ha.b
  have hlt : ∀ k, k < n → m ≤ k → frL a (F k) := fun k hk hmk => m2 k hmk hk
  have hgt1 : ∀ k, k < n → ¬ frL a (F k) → frL (F k) a := fun k hk hn => by
    have hk1 := hin k hk
    rcases fr_tri (a := a) (b := F k) (fun e => hD (by
      have := low_eq hab.1 (h1 k hk) hab.2 hk1.1.b.2 e
      rw [this]; exact hk1.2)) with q | q
    · exact absurd q hn
    · exact q
  have hgt : ∀ k, k < m → frL (F k) a := fun k hk => by
    rcases m3 with q | q
    · omega
    · have hl := hgt1 (m - 1) (by omega) q
      by_cases e : k = m - 1
      · rw [e]; exact hl
      · exact fr_trans (h1 k (by omega)) (h1 (m - 1) (by omega)) hab.1 (h2 k (m - 1) (by omega) (by omega)) hl
  refine ⟨fun k hk => ?_, fun i j hij hj => ?_, fun e => ?_⟩
  · unfold insF
    split
    · exact h1 k (by omega)
    · split
      · exact hab.1
      · exact h1 (k - 1) (by omega)
  · unfold insF
    by_cases g1 : j < m
    · rw [if_pos (by omega), if_pos g1]
      exact h2 i j hij (by omega)
    · rw [if_neg g1]
      by_cases g2 : j = m
      · rw [if_pos g2, if_pos (by omega)]
        exact hgt i (by omega)
      · rw [if_neg g2]
        by_cases g3 : i < m
        · rw [if_pos g3]
          exact h2 i (j - 1) (by omega) (by omega)
        · rw [if_neg g3]
          by_cases g4 : i = m
          · rw [if_pos g4]
            exact hlt (j - 1) (by omega) (by omega)
          · rw [if_neg g4]
            exact h2 (i - 1) (j - 1) (by omega) (by omega)
  · constructor
    · rintro ⟨k, hk, rfl⟩
      unfold insF
      split
      · rename_i g
        exact ⟨(hin k (by omega)).1, Or.inl (hin k (by omega)).2⟩
      · split
        · exact ⟨ha, Or.inr rfl⟩
        · exact ⟨(hin (k - 1) (by omega)).1, Or.inl (hin (k - 1) (by omega)).2⟩
    · rintro ⟨q1, q2⟩
      rcases q2 with q2 | q2
      · obtain ⟨k, hk, e1⟩ := (h3 e).mpr ⟨q1, q2⟩
        by_cases g : k < m
        · exact ⟨k, by omega, by unfold insF; rw [if_pos g]; exact e1⟩
        · exact ⟨k + 1, by omega, by unfold insF; rw [if_neg (by omega), if_neg (by omega), Nat.add_sub_cancel]; exact e1⟩
      · exact ⟨m, by omega, by unfold insF; rw [if_neg (Nat.lt_irrefl _), if_pos rfl, q2]⟩
theorem FrSt.cg {p : Po} {D E : Int × Int → Prop} {F : Fq} {n : Nat} (h : FrSt p D F n) (hDE : ∀ e, FrQ p e → (D e ↔ E e)) : FrSt p E F n := ⟨h.1, h.2.1, fun e => (h.2.2 e).trans ⟨fun q => ⟨q.1, (hDE e q.1).mp q.2⟩, fun q => ⟨q.1, (hDE e q.1).mpr q.2⟩⟩⟩
theorem FrSt.lt {p : Po} {D : Int × Int → Prop} {F : Fq} {n : Nat} (hs : 0 < sz p) (h5 : sz p ≤ 5) (h : FrSt p D F n) : n ≤ 4 := by
  have := fr_four (p := p) (F := F) (n := n) hs (fun k hk => (h.1 k hk).2.1) (fun k hk => ((h.2.2 (F k)).mp ⟨k, hk, rfl⟩).1.root hs) h.2.1
  omega
theorem FrSt.lt3 {p : Po} {D : Int × Int → Prop} {F : Fq} {n : Nat} {a : Int × Int} (hs : 0 < sz p) (h5 : sz p ≤ 5) (h : FrSt p D F n) (ha : FrQ p a) (hD : ¬ D a) : n < 4 := by
  have hl := h.lt hs h5
  rcases Nat.lt_or_ge n 4 with g | g
  · exact g
  · -- five of them: a's place by counting
    have hp : ∃ m, InsAt F n m a := by
      have hex : ∀ m, m ≤ n → (∀ k, m ≤ k → k < n → frL a (F k)) → ∃ m, InsAt F n m a := by
        intro m
        induction m with
        | zero => exact fun _ q => ⟨0, by omega, q, Or.inl rfl⟩
        | succ m ih =>
          intro hm q
          by_cases e : frL a (F m)
          · exact ih (by omega) (fun k k1 k2 => by
              by_cases e2 : k = m
              · rw [e2]; exact e
              · exact q k (by omega) k2)
          · exact ⟨m + 1, hm, q, Or.inr (by rw [Nat.add_sub_cancel]; exact e)⟩
      exact hex n (Nat.le_refl _) (fun k k1 k2 => by omega)
    obtain ⟨m, hm⟩ := hp
    have := (h.ins ha hD hm).lt hs h5
    omega
/-- rows from the least on are told by what they hold -/
theorem FrSt.uniq {p : Po} {D : Int × Int → Prop} {F G : Fq} {n m : Nat} (h : FrSt p D F n) (g : FrSt p D G m) : n = m ∧ ∀ k, k < n → F k = G k := by
  have irr : ∀ a : Int × Int, ¬ frL a a := fun a => Int.lt_irrefl _
  have key : ∀ {F G : Fq} {n m : Nat}, FrSt p D F n → FrSt p D G m → ∀ k, k < n → k < m ∧ F k = G k := by
    intro F G n m h g k
    induction k using Nat.strongRecOn with
    | _ k ih =>
      intro hk
      obtain ⟨i, hi, ei⟩ := (g.2.2 (F k)).mpr ((h.2.2 (F k)).mp ⟨k, hk, rfl⟩)
      have hki : k ≤ i := by
        rcases Nat.lt_or_ge i k with q | q
        · have := ih i q (by omega)
          have := h.2.1 i k q hk
          rw [← ei, ih i q (by omega) |>.2] at this
          exact absurd this (irr _)
        · exact q
      have hkm : k < m := by omega
      refine ⟨hkm, ?_⟩
      by_cases e : k = i
      · rw [e, ei, ← e]
      · obtain ⟨i', hi', ei'⟩ := (h.2.2 (G k)).mpr ((g.2.2 (G k)).mp ⟨k, hkm, rfl⟩)
        have q1 : frL (G k) (F k) := by rw [← ei]; exact g.2.1 k i (by omega) hi
        rcases Nat.lt_or_ge i' k with q | q
        · have q3 := (ih i' q (by omega)).2
          have q4 := g.2.1 i' k q hkm
          rw [← q3, ei'] at q4
          exact absurd q4 (irr _)
        · by_cases e2 : i' = k
          · rw [e2] at ei'
            rw [ei'] at q1
            exact absurd q1 (irr _)
          · have q2 := h.2.1 k i' (by omega) hi'
            rw [ei'] at q2
            have b1 := h.1 k hk
            have b2 := g.1 k hkm
            exact absurd (fr_trans b2 b1 b2 q1 q2) (irr _)
  refine ⟨?_, fun k hk => (key h g k hk).2⟩
  rcases Nat.lt_trichotomy n m with q | q | q
  · exact absurd (key g h n q).1 (Nat.lt_irrefl _)
  · exact q
  · exact absurd (key h g m q).1 (Nat.lt_irrefl _)
