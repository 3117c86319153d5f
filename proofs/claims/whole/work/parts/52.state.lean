/-! the state; what mathematics owes (printed by wip/whole/t52.py) -/
/-- a polynomial that may stand on the shelf -/
def Pok (p : Po) : Prop := PB 999 p ∧ 0 < sz p ∧ sz p ≤ 5
theorem Pok.b {p : Po} (h : Pok p) : PB 4000000000000000000 p := h.1.mono (by decide)
theorem Pok.b6 {p : Po} (h : Pok p) : PB 1000000 p := h.1.mono (by decide)
def PsOk (ps : List Po) : Prop := ps.length ≤ 8 ∧ ∀ k, k < ps.length → Pok (ps.getD k zP)
/-- polynomials; the image; the tape and its length; the paper; the lists' sizes, their places -/
abbrev PS : Type := List Po × Option (List Po) × (Nat → Int32) × Nat × List Int32 × (Nat → Option Nat) × (Nat → Nat → Int32)
def SOk (σ : PS) : Prop := PsOk σ.1 ∧ (∀ l, σ.2.1 = some l → PsOk l) ∧ σ.2.2.2.1 ≤ 120 ∧ σ.2.2.2.2.1.length ≤ 35 ∧ ∀ k m, σ.2.2.2.2.2.1 k = some m → m ≤ 24
def ShP (I : amI) (J : amJ) (s : Nat) (ps : List Po) : Prop := I s 1 = nI ps.length ∧ ∀ k, k < ps.length → JP J (s + 2 + 2 * k + 1) (ps.getD k zP)
def KpP (I : amI) (J : amJ) (o : Option (List Po)) : Prop := (o = none ∧ I 1 2 = 0) ∨ ∃ l, o = some l ∧ I 1 2 = 1 ∧ ShP I J 20 l
def RzP (I : amI) (rz : Nat → Option Nat) (rc : Nat → Nat → Int32) : Prop := ∀ k, k < 4 → (rz k = none ∧ I 151 k = -1) ∨ ∃ m, rz k = some m ∧ I 151 k = nI m ∧ ∀ i, i < m → I 150 (k * 24 + i) = rc k i
/-- the class's cells hold σ -/
def CSt (I : amI) (J : amJ) (R : amR) (σ : PS) : Prop := amRok R ∧ (∃ x y, CO R x y) ∧ ShP I J 2 σ.1 ∧ KpP I J σ.2.1 ∧ TT I σ.2.2.1 σ.2.2.2.1 ∧ PL I σ.2.2.2.2.1 ∧ RzP I σ.2.2.2.2.2.1 σ.2.2.2.2.2.2 ∧ SOk σ
/-- scratch: nothing of the state -/
def FrK (I I' : amI) (J J' : amJ) : Prop := (∀ y, (y < 64 ∨ 143 ≤ y) → I' y = I y) ∧ ∀ y, (y < 39 ∨ 152 ≤ y) → J' y = J y
theorem FrK.rf {I : amI} {J : amJ} : FrK I I J J := ⟨fun _ _ => rfl, fun _ _ => rfl⟩
theorem FrK.tr {I I1 I2 : amI} {J J1 J2 : amJ} (h1 : FrK I I1 J J1) (h2 : FrK I1 I2 J1 J2) : FrK I I2 J J2 := ⟨fun y a => (h2.1 y a).trans (h1.1 y a), fun y a => (h2.2 y a).trans (h1.2 y a)⟩
theorem ShP.cg {I I' : amI} {J J' : amJ} {s : Nat} {ps : List Po} (h : ShP I J s ps) (h1 : I' s = I s) (h2 : ∀ k, k < ps.length → J' (s + 2 + 2 * k + 1) = J (s + 2 + 2 * k + 1)) : ShP I' J' s ps := ⟨by rw [h1]; exact h.1, fun k hk i hi => by rw [h2 k hk]; exact h.2 k hk i hi⟩
theorem CSt.k {I I' : amI} {J J' : amJ} {R R' : amR} {σ : PS} (h : CSt I J R σ) (hk : FrK I I' J J') (hR : amRok R') (hC : ∃ x y, CO R' x y) : CSt I' J' R' σ := by
  obtain ⟨-, -, h3, h4, h5, h6, h7, h8⟩ := h
  refine ⟨hR, hC, h3.cg (hk.1 2 (by omega)) (fun k hk2 => hk.2 _ (by have := h8.1.1; omega)), ?_, ?_, ?_, ?_, h8⟩
  · rcases h4 with h4 | ⟨l, e, h4, h9⟩
    · exact Or.inl ⟨h4.1, by rw [hk.1 1 (by omega)]; exact h4.2⟩
    · exact Or.inr ⟨l, e, by rw [hk.1 1 (by omega)]; exact h4, h9.cg (hk.1 20 (by omega)) (fun k hk2 => hk.2 _ (by have := (h8.2.1 l e).1; omega))⟩
  · exact ⟨by rw [hk.1 143 (by omega)]; exact h5.1, h5.2.1, fun k hk2 => by rw [hk.1 144 (by omega)]; exact h5.2.2.1 k hk2, h5.2.2.2⟩
  · exact ⟨by rw [hk.1 147 (by omega)]; exact h6.1, fun k hk2 => by rw [hk.1 148 (by omega)]; exact h6.2 k hk2⟩
  · intro k hk4
    rw [hk.1 151 (by omega), hk.1 150 (by omega)]
    exact h7 k hk4
/-- what a call of the class answers and leaves -/
def CP (I : amI) (J : amJ) (R : amR) (σ : PS) (val : Value) (v : Option Value) (I' : amI) (J' : amJ) (R' : amR) : Prop := v = some val ∧ CSt I' J' R' σ ∧ (∀ y, 152 ≤ y → I' y = I y) ∧ (∀ y, 152 ≤ y → J' y = J y) ∧ RC R R'
theorem CP.rf {I : amI} {J : amJ} {R : amR} {σ : PS} {val : Value} (h : CSt I J R σ) : CP I J R σ val (some val) I J R := ⟨rfl, h, fun _ _ => rfl, fun _ _ => rfl, RC.rf⟩
theorem CP.k {I I' : amI} {J J' : amJ} {R R' : amR} {σ : PS} {val : Value} (h : CSt I J R σ) (hk : FrK I I' J J') (hR : amRok R') (hC : ∃ x y, CO R' x y) (hRC : RC R R') : CP I J R σ val (some val) I' J' R' := ⟨rfl, h.k hk hR hC, fun y a => hk.1 y (by omega), fun y a => hk.2 y (by omega), hRC⟩
/-- there is such a polynomial -/
abbrev inP (ps : List Po) (p : Int32) : Prop := 0 ≤ p.toInt ∧ p.toInt < (ps.length : Int)
abbrev plP (ps : List Po) (p : Int32) : Po := ps.getD p.toInt.toNat zP
theorem inP.of {ps : List Po} {p : Int32} (h : inP ps p) (h8 : ps.length ≤ 8) : ∃ k, k < ps.length ∧ p = nI k ∧ plP ps p = ps.getD k zP := ⟨p.toInt.toNat, by omega, by rw [← Int32.toInt_inj, nI_toInt (by omega)]; omega, rfl⟩
/-! mathematics -/
theorem fr_ok {p : Po} (h5 : sz p ≤ 5) : FrOk p := fr_okP h5
theorem fre_sz {p f : Po} (h : fre p = some f) (h0 : 0 < sz p) (h5 : sz p ≤ 5) : 0 < sz f ∧ sz f ≤ 5 := fre_szP (fr_ok h5) h h0 h5
theorem chn_LZ {p : Po} {l : List Po} (h : chn p = some l) (h0 : 0 < sz p) (h5 : sz p ≤ 5) : LZ l := chn_LZP (fr_ok h5) h h0 h5
theorem chs_LZ {p q : Po} {l : List Po} (h : chs p q = some l) (h0 : 0 < sz p) (h5 : sz p ≤ 5) : LZ l := chs_LZP (fr_ok h5) h h0 h5
theorem com_sz {p q g : Po} (h : com p q = some g) (h0 : 0 < sz p) (h5 : sz p ≤ 5) (h0' : 0 < sz q) (h5' : sz q ≤ 5) : 0 < sz g ∧ sz g ≤ 5 := com_szP h h0 h5 h5'
theorem spl_sz {p : Po} {l : List Po} (h : spl p = some l) (h0 : 0 < sz p) (h5 : sz p ≤ 5) : ∀ k, k < 6 → 0 < sz (l.getD k zP) ∧ sz (l.getD k zP) ≤ 5 := spl_szP h h0 h5
theorem pf_ok {p : Po} {l : List Po} {m : Nat} (h : spl p = some l) (h0 : 0 < sz p) (h5 : sz p ≤ 5) (h1 : 1 ≤ m) (h4 : m ≤ 4) : PfOk l m := pf_okP h h0 h5 h1 h4
