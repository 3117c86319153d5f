/-! rows: from behind an instruction to the instruction (printed by wip/whole/gen15.py) -/
abbrev amI : Type := Nat → Nat → Int32
abbrev amJ : Type := Nat → Nat → Int64
abbrev amR : Type := Nat → Nat → Option Nat
abbrev amQ : Type := Option Value → amI → amJ → amR → Prop
theorem amX_mono : ∀ (f g j pc : Nat) (ls : amL) (st : List Value) (σ : amH) (q : Option Value × amH), amX f j pc ls st σ = some q → f ≤ g → amX g j pc ls st σ = some q
  | 0, _, _, _, _, _, _, _, h, _ => by cases h
  | f + 1, 0, _, _, _, _, _, _, _, hg => absurd hg (by omega)
  | f + 1, g + 1, j, pc, ls, st, σ, q, h, hg => by
    have ih := fun j pc ls st σ q h => amX_mono f g j pc ls st σ q h (by omega)
    unfold amX at h ⊢
    cases he : amEnt j pc with
    | none => rw [he] at h; cases h
    | some x =>
      obtain ⟨i, len, op⟩ := x
      rw [he] at h
      dsimp only at h ⊢
      cases hr : amRet i (amRt j) st with
      | some v => rw [hr] at h; exact h
      | none =>
        rw [hr] at h
        dsimp only at h ⊢
        cases hc : amCall i j op st σ.1.2.2 with
        | some ar =>
          obtain ⟨as, rest⟩ := ar
          rw [hc] at h
          dsimp only at h ⊢
          cases h1 : amX f op 0 (amEntry op as) [] σ with
          | none => rw [h1] at h; cases h
          | some r =>
            obtain ⟨v, τ⟩ := r
            rw [h1] at h
            rw [ih _ _ _ _ _ _ h1]
            exact ih _ _ _ _ _ _ h
        | none =>
          rw [hc] at h
          dsimp only at h ⊢
          cases hp : amPure i op len pc ls st with
          | some r =>
            obtain ⟨pc', ls', st'⟩ := r
            rw [hp] at h
            exact ih _ _ _ _ _ _ h
          | none =>
            rw [hp] at h
            dsimp only at h ⊢
            cases hh : amHeap i op st σ with
            | some r =>
              obtain ⟨st', τ⟩ := r
              rw [hh] at h
              exact ih _ _ _ _ _ _ h
            | none => rw [hh] at h; cases h
/-- from there the abstract machine ends, the kinds as they were, with Q -/
def Ex (j pc : Nat) (ls : amL) (st : List Value) (S : amS) (I : amI) (J : amJ) (R : amR) (Q : amQ) : Prop := ∃ f v τ, amX f j pc ls st (S, I, J, R) = some (v, τ) ∧ τ.1 = S ∧ Q v τ.2.1 τ.2.2.1 τ.2.2.2
abbrev Cl (k : Nat) (as : List Value) (S : amS) (I : amI) (J : amJ) (R : amR) (Q : amQ) : Prop := Ex k 0 (amEntry k as) [] S I J R Q
/-- it answers v and changes nothing -/
def Rv (k : Nat) (as : List Value) (S : amS) (I : amI) (J : amJ) (R : amR) (v : Value) : Prop := ∀ Q : amQ, Q (some v) I J R → Cl k as S I J R Q
def amT (j pc pc' : Nat) (i : Instr) (op : Nat) : Prop := ∃ len, amEnt j pc = some (i, len, op) ∧ pc + len = pc'
def amO (S : amS) (a c : Nat) : Prop := 0 < a ∧ a ≤ S.1 ∧ S.2.2 a = .inl c
def amA (S : amS) (a t n : Nat) : Prop := 0 < a ∧ a ≤ S.1 ∧ S.2.2 a = .inr (t, n)
section ROWS
variable {j pc pc' op : Nat} {ls ls' : amL} {st st' : List Value} {S : amS} {I : amI} {J : amJ} {R : amR} {Q : amQ} {i : Instr}
theorem Ex.mono {Q' : amQ} (h : Ex j pc ls st S I J R Q) (k : ∀ v I' J' R', Q v I' J' R' → Q' v I' J' R') : Ex j pc ls st S I J R Q' := by
  obtain ⟨f, v, τ, h1, h2, h3⟩ := h
  exact ⟨f, v, τ, h1, h2, k _ _ _ _ h3⟩
theorem Ex.pure {len pc'' : Nat} (he : amEnt j pc = some (i, len, op)) (hr : amRet i (amRt j) st = none) (hc : amCall i j op st S.2.2 = none) (hp : amPure i op len pc ls st = some (pc'', ls', st')) (k : Ex j pc'' ls' st' S I J R Q) : Ex j pc ls st S I J R Q := by
  obtain ⟨f, v, τ, h1, h2⟩ := k
  refine ⟨f + 1, v, τ, ?_, h2⟩
  unfold amX
  rw [he]
  dsimp only
  rw [hr]
  dsimp only
  rw [hc]
  dsimp only
  rw [hp]
  exact h1
theorem Ex.heap {I' : amI} {J' : amJ} {R' : amR} (he : amT j pc pc' i op) (hr : amRet i (amRt j) st = none) (hc : amCall i j op st S.2.2 = none) (hp : ∀ len, amPure i op len pc ls st = none) (hh : amHeap i op st (S, I, J, R) = some (st', (S, I', J', R'))) (k : Ex j pc' ls st' S I' J' R' Q) : Ex j pc ls st S I J R Q := by
  obtain ⟨len, he, rfl⟩ := he
  obtain ⟨f, v, τ, h1, h2⟩ := k
  refine ⟨f + 1, v, τ, ?_, h2⟩
  unfold amX
  rw [he]
  dsimp only
  rw [hr]
  dsimp only
  rw [hc]
  dsimp only
  rw [hp]
  dsimp only
  rw [hh]
  exact h1
theorem Ex.ret {v : Option Value} (he : amT j pc pc' i op) (hr : amRet i (amRt j) st = some v) (hQ : Q v I J R) : Ex j pc ls st S I J R Q := by
  obtain ⟨len, he, -⟩ := he
  refine ⟨1, v, (S, I, J, R), ?_, rfl, hQ⟩
  unfold amX
  rw [he]
  dsimp only
  rw [hr]
theorem Ex.call {as rest : List Value} (he : amT j pc pc' i op) (hr : amRet i (amRt j) st = none) (hc : amCall i j op st S.2.2 = some (as, rest)) {P : amQ} (hcall : Cl op as S I J R P) (kk : ∀ v I' J' R', P v I' J' R' → Ex j pc' ls (v.toList ++ rest) S I' J' R' Q) : Ex j pc ls st S I J R Q := by
  obtain ⟨len, he, rfl⟩ := he
  obtain ⟨f, v, τ, h1, h2, h3⟩ := hcall
  obtain ⟨g, v', τ', g1, g2, g3⟩ := kk _ _ _ _ h3
  obtain ⟨τS, τI, τJ, τR⟩ := τ
  dsimp only at h2 g1
  subst h2
  refine ⟨max f g + 1, v', τ', ?_, g2, g3⟩
  unfold amX
  rw [he]
  dsimp only
  rw [hr]
  dsimp only
  rw [hc]
  dsimp only
  rw [amX_mono _ _ _ _ _ _ _ _ h1 (Nat.le_max_left f g)]
  dsimp only
  exact amX_mono _ _ _ _ _ _ _ _ g1 (Nat.le_max_right f g)
/-- constants -/
def amKI : Instr → Option Int32
  | .iconst n => some (Int32.ofInt n)
  | .bipush n => some (Int8.ofInt n).toInt32
  | .sipush n => some (Int16.ofInt n).toInt32
  | _ => none
theorem Ki {v : Int32} (he : amT j pc pc' i op) (hv : amKI i = some v) (k : Ex j pc' ls (.int v :: st) S I J R Q) : Ex j pc ls st S I J R Q := by
  obtain ⟨len, he, rfl⟩ := he
  unfold amKI at hv
  split at hv
  · cases hv; exact Ex.pure he rfl rfl rfl k
  · cases hv; exact Ex.pure he rfl rfl rfl k
  · cases hv; exact Ex.pure he rfl rfl rfl k
  · cases hv
theorem Kw {n : Nat} {v : Int32} (he : amT j pc pc' (.ldc_w n) op) (hv : amIc[op]? = some v) (k : Ex j pc' ls (.int v :: st) S I J R Q) : Ex j pc ls st S I J R Q := by
  obtain ⟨len, he, rfl⟩ := he
  exact Ex.pure he rfl rfl (by show (amIc[op]?).map _ = _; rw [hv]; rfl) k
theorem Kd {n : Nat} {v : Int64} (he : amT j pc pc' (.ldc2_w n) op) (hv : amJc[op]? = some v) (k : Ex j pc' ls (.long v :: st) S I J R Q) : Ex j pc ls st S I J R Q := by
  obtain ⟨len, he, rfl⟩ := he
  exact Ex.pure he rfl rfl (by show (amJc[op]?).map _ = _; rw [hv]; rfl) k
theorem K0 (he : amT j pc pc' (.lconst 0) op) (k : Ex j pc' ls (.long 0 :: st) S I J R Q) : Ex j pc ls st S I J R Q := by
  obtain ⟨len, he, rfl⟩ := he
  exact Ex.pure he rfl rfl rfl k
theorem K1 (he : amT j pc pc' (.lconst 1) op) (k : Ex j pc' ls (.long 1 :: st) S I J R Q) : Ex j pc ls st S I J R Q := by
  obtain ⟨len, he, rfl⟩ := he
  exact Ex.pure he rfl rfl rfl k
theorem Kn (he : amT j pc pc' .aconst_null op) (k : Ex j pc' ls (.null :: st) S I J R Q) : Ex j pc ls st S I J R Q := by
  obtain ⟨len, he, rfl⟩ := he
  exact Ex.pure he rfl rfl rfl k
theorem Ks {n : Nat} (he : amT j pc pc' (.ldc n) op) (ho : op < 12) (k : Ex j pc' ls (.ref (1000000 + op) :: st) S I J R Q) : Ex j pc ls st S I J R Q := by
  obtain ⟨len, he, rfl⟩ := he
  exact Ex.pure he rfl rfl (if_pos ho) k
theorem Iadd {x y : Int32} (he : amT j pc pc' .iadd op) (k : Ex j pc' ls (.int (x + y) :: st) S I J R Q) : Ex j pc ls (.int y :: .int x :: st) S I J R Q := by
  obtain ⟨len, he, rfl⟩ := he
  exact Ex.pure he rfl rfl rfl k
theorem Isub {x y : Int32} (he : amT j pc pc' .isub op) (k : Ex j pc' ls (.int (x - y) :: st) S I J R Q) : Ex j pc ls (.int y :: .int x :: st) S I J R Q := by
  obtain ⟨len, he, rfl⟩ := he
  exact Ex.pure he rfl rfl rfl k
theorem Imul {x y : Int32} (he : amT j pc pc' .imul op) (k : Ex j pc' ls (.int (x * y) :: st) S I J R Q) : Ex j pc ls (.int y :: .int x :: st) S I J R Q := by
  obtain ⟨len, he, rfl⟩ := he
  exact Ex.pure he rfl rfl rfl k
theorem Iand {x y : Int32} (he : amT j pc pc' .iand op) (k : Ex j pc' ls (.int (x &&& y) :: st) S I J R Q) : Ex j pc ls (.int y :: .int x :: st) S I J R Q := by
  obtain ⟨len, he, rfl⟩ := he
  exact Ex.pure he rfl rfl rfl k
theorem Idiv {x y : Int32} (he : amT j pc pc' .idiv op) (hne : ¬ y = 0) (k : Ex j pc' ls (.int (x / y) :: st) S I J R Q) : Ex j pc ls (.int y :: .int x :: st) S I J R Q := by
  obtain ⟨len, he, rfl⟩ := he
  exact Ex.pure he rfl rfl (if_neg hne) k
theorem Irem {x y : Int32} (he : amT j pc pc' .irem op) (hne : ¬ y = 0) (k : Ex j pc' ls (.int (x - x / y * y) :: st) S I J R Q) : Ex j pc ls (.int y :: .int x :: st) S I J R Q := by
  obtain ⟨len, he, rfl⟩ := he
  exact Ex.pure he rfl rfl (if_neg hne) k
theorem Ladd {x y : Int64} (he : amT j pc pc' .ladd op) (k : Ex j pc' ls (.long (x + y) :: st) S I J R Q) : Ex j pc ls (.long y :: .long x :: st) S I J R Q := by
  obtain ⟨len, he, rfl⟩ := he
  exact Ex.pure he rfl rfl rfl k
theorem Lsub {x y : Int64} (he : amT j pc pc' .lsub op) (k : Ex j pc' ls (.long (x - y) :: st) S I J R Q) : Ex j pc ls (.long y :: .long x :: st) S I J R Q := by
  obtain ⟨len, he, rfl⟩ := he
  exact Ex.pure he rfl rfl rfl k
theorem Lmul {x y : Int64} (he : amT j pc pc' .lmul op) (k : Ex j pc' ls (.long (x * y) :: st) S I J R Q) : Ex j pc ls (.long y :: .long x :: st) S I J R Q := by
  obtain ⟨len, he, rfl⟩ := he
  exact Ex.pure he rfl rfl rfl k
theorem Lor {x y : Int64} (he : amT j pc pc' .lor op) (k : Ex j pc' ls (.long (x ||| y) :: st) S I J R Q) : Ex j pc ls (.long y :: .long x :: st) S I J R Q := by
  obtain ⟨len, he, rfl⟩ := he
  exact Ex.pure he rfl rfl rfl k
theorem Ldiv {x y : Int64} (he : amT j pc pc' .ldiv op) (hne : ¬ y = 0) (k : Ex j pc' ls (.long (x / y) :: st) S I J R Q) : Ex j pc ls (.long y :: .long x :: st) S I J R Q := by
  obtain ⟨len, he, rfl⟩ := he
  exact Ex.pure he rfl rfl (if_neg hne) k
theorem Lrem {x y : Int64} (he : amT j pc pc' .lrem op) (hne : ¬ y = 0) (k : Ex j pc' ls (.long (x - x / y * y) :: st) S I J R Q) : Ex j pc ls (.long y :: .long x :: st) S I J R Q := by
  obtain ⟨len, he, rfl⟩ := he
  exact Ex.pure he rfl rfl (if_neg hne) k
theorem Ineg {x : Int32} (he : amT j pc pc' .ineg op) (k : Ex j pc' ls (.int (-x) :: st) S I J R Q) : Ex j pc ls (.int x :: st) S I J R Q := by
  obtain ⟨len, he, rfl⟩ := he
  exact Ex.pure he rfl rfl rfl k
theorem Lneg {x : Int64} (he : amT j pc pc' .lneg op) (k : Ex j pc' ls (.long (-x) :: st) S I J R Q) : Ex j pc ls (.long x :: st) S I J R Q := by
  obtain ⟨len, he, rfl⟩ := he
  exact Ex.pure he rfl rfl rfl k
theorem Lshl {x : Int64} {y : Int32} (he : amT j pc pc' .lshl op) (k : Ex j pc' ls (.long (x <<< (y.toInt64 &&& 63)) :: st) S I J R Q) : Ex j pc ls (.int y :: .long x :: st) S I J R Q := by
  obtain ⟨len, he, rfl⟩ := he
  exact Ex.pure he rfl rfl rfl k
theorem Lshr {x : Int64} {y : Int32} (he : amT j pc pc' .lshr op) (k : Ex j pc' ls (.long (x >>> (y.toInt64 &&& 63)) :: st) S I J R Q) : Ex j pc ls (.int y :: .long x :: st) S I J R Q := by
  obtain ⟨len, he, rfl⟩ := he
  exact Ex.pure he rfl rfl rfl k
theorem Lushr {x : Int64} {y : Int32} (he : amT j pc pc' .lushr op) (k : Ex j pc' ls (.long (x.toUInt64 >>> (y.toInt64.toUInt64 &&& Int64.toUInt64 63)).toInt64 :: st) S I J R Q) : Ex j pc ls (.int y :: .long x :: st) S I J R Q := by
  obtain ⟨len, he, rfl⟩ := he
  exact Ex.pure he rfl rfl rfl k
theorem I2l {x : Int32} (he : amT j pc pc' .i2l op) (k : Ex j pc' ls (.long x.toInt64 :: st) S I J R Q) : Ex j pc ls (.int x :: st) S I J R Q := by
  obtain ⟨len, he, rfl⟩ := he
  exact Ex.pure he rfl rfl rfl k
theorem L2i {x : Int64} (he : amT j pc pc' .l2i op) (k : Ex j pc' ls (.int x.toInt32 :: st) S I J R Q) : Ex j pc ls (.long x :: st) S I J R Q := by
  obtain ⟨len, he, rfl⟩ := he
  exact Ex.pure he rfl rfl rfl k
theorem I2b {x : Int32} (he : amT j pc pc' .i2b op) (k : Ex j pc' ls (.int x.toInt8.toInt32 :: st) S I J R Q) : Ex j pc ls (.int x :: st) S I J R Q := by
  obtain ⟨len, he, rfl⟩ := he
  exact Ex.pure he rfl rfl rfl k
theorem Dup {v : Value} (he : amT j pc pc' .dup op) (hcat : v.category = 1) (k : Ex j pc' ls (v :: v :: st) S I J R Q) : Ex j pc ls (v :: st) S I J R Q := by
  obtain ⟨len, he, rfl⟩ := he
  exact Ex.pure he rfl rfl (if_pos hcat) k
theorem Pop {v : Value} (he : amT j pc pc' .pop op) (hcat : v.category = 1) (k : Ex j pc' ls (st) S I J R Q) : Ex j pc ls (v :: st) S I J R Q := by
  obtain ⟨len, he, rfl⟩ := he
  exact Ex.pure he rfl rfl (if_pos hcat) k
theorem Dup2 {v u : Value} (he : amT j pc pc' .dup2 op) (hcat : v.category = 1 ∧ u.category = 1) (k : Ex j pc' ls (v :: u :: v :: u :: st) S I J R Q) : Ex j pc ls (v :: u :: st) S I J R Q := by
  obtain ⟨len, he, rfl⟩ := he
  exact Ex.pure he rfl rfl (if_pos hcat) k
theorem Go {off : Int} {t : Nat} (he : amT j pc pc' (.goto off) op) (ht : amTg pc off = some t) (k : Ex j t ls st S I J R Q) : Ex j pc ls st S I J R Q := by
  obtain ⟨len, he, rfl⟩ := he
  exact Ex.pure he rfl rfl (by show (match amTg pc off with | some t => some (t, ls, st) | none => none) = _; rw [ht]) k
theorem amBr_of {len t : Nat} {off : Int} {c : Bool} {r : List Value} (ht : amTg pc off = some t) (b : Bool) (hc : c = b) : amBr pc len off ls r c = some (if b = true then t else pc + len, ls, r) := by
  subst hc
  unfold amBr
  rw [ht]
  cases c <;> rfl
theorem B_eq {x : Int32} {off : Int} {t : Nat} (he : amT j pc pc' (.ifCond .eq off) op) (ht : amTg pc off = some t) (kt : x = 0 → Ex j t ls st S I J R Q) (kf : ¬ (x = 0) → Ex j pc' ls st S I J R Q) : Ex j pc ls (.int x :: st) S I J R Q := by
  obtain ⟨len, he, rfl⟩ := he
  by_cases h : x = 0
  · exact Ex.pure he rfl rfl (amBr_of (c := amC1 .eq x) ht true (decide_eq_true h)) (kt h)
  · exact Ex.pure he rfl rfl (amBr_of (c := amC1 .eq x) ht false (decide_eq_false h)) (kf h)
theorem C_eq {x y : Int32} {off : Int} {t : Nat} (he : amT j pc pc' (.if_icmp .eq off) op) (ht : amTg pc off = some t) (kt : x = y → Ex j t ls st S I J R Q) (kf : ¬ (x = y) → Ex j pc' ls st S I J R Q) : Ex j pc ls (.int y :: .int x :: st) S I J R Q := by
  obtain ⟨len, he, rfl⟩ := he
  by_cases h : x = y
  · exact Ex.pure he rfl rfl (amBr_of (c := amC2 .eq x y) ht true (decide_eq_true h)) (kt h)
  · exact Ex.pure he rfl rfl (amBr_of (c := amC2 .eq x y) ht false (decide_eq_false h)) (kf h)
theorem B_ne {x : Int32} {off : Int} {t : Nat} (he : amT j pc pc' (.ifCond .ne off) op) (ht : amTg pc off = some t) (kt : ¬ x = 0 → Ex j t ls st S I J R Q) (kf : ¬ (¬ x = 0) → Ex j pc' ls st S I J R Q) : Ex j pc ls (.int x :: st) S I J R Q := by
  obtain ⟨len, he, rfl⟩ := he
  by_cases h : ¬ x = 0
  · exact Ex.pure he rfl rfl (amBr_of (c := amC1 .ne x) ht true (decide_eq_true h)) (kt h)
  · exact Ex.pure he rfl rfl (amBr_of (c := amC1 .ne x) ht false (decide_eq_false h)) (kf h)
theorem C_ne {x y : Int32} {off : Int} {t : Nat} (he : amT j pc pc' (.if_icmp .ne off) op) (ht : amTg pc off = some t) (kt : ¬ x = y → Ex j t ls st S I J R Q) (kf : ¬ (¬ x = y) → Ex j pc' ls st S I J R Q) : Ex j pc ls (.int y :: .int x :: st) S I J R Q := by
  obtain ⟨len, he, rfl⟩ := he
  by_cases h : ¬ x = y
  · exact Ex.pure he rfl rfl (amBr_of (c := amC2 .ne x y) ht true (decide_eq_true h)) (kt h)
  · exact Ex.pure he rfl rfl (amBr_of (c := amC2 .ne x y) ht false (decide_eq_false h)) (kf h)
theorem B_lt {x : Int32} {off : Int} {t : Nat} (he : amT j pc pc' (.ifCond .lt off) op) (ht : amTg pc off = some t) (kt : x < 0 → Ex j t ls st S I J R Q) (kf : ¬ (x < 0) → Ex j pc' ls st S I J R Q) : Ex j pc ls (.int x :: st) S I J R Q := by
  obtain ⟨len, he, rfl⟩ := he
  by_cases h : x < 0
  · exact Ex.pure he rfl rfl (amBr_of (c := amC1 .lt x) ht true (decide_eq_true h)) (kt h)
  · exact Ex.pure he rfl rfl (amBr_of (c := amC1 .lt x) ht false (decide_eq_false h)) (kf h)
theorem C_lt {x y : Int32} {off : Int} {t : Nat} (he : amT j pc pc' (.if_icmp .lt off) op) (ht : amTg pc off = some t) (kt : x < y → Ex j t ls st S I J R Q) (kf : ¬ (x < y) → Ex j pc' ls st S I J R Q) : Ex j pc ls (.int y :: .int x :: st) S I J R Q := by
  obtain ⟨len, he, rfl⟩ := he
  by_cases h : x < y
  · exact Ex.pure he rfl rfl (amBr_of (c := amC2 .lt x y) ht true (decide_eq_true h)) (kt h)
  · exact Ex.pure he rfl rfl (amBr_of (c := amC2 .lt x y) ht false (decide_eq_false h)) (kf h)
theorem B_ge {x : Int32} {off : Int} {t : Nat} (he : amT j pc pc' (.ifCond .ge off) op) (ht : amTg pc off = some t) (kt : 0 ≤ x → Ex j t ls st S I J R Q) (kf : ¬ (0 ≤ x) → Ex j pc' ls st S I J R Q) : Ex j pc ls (.int x :: st) S I J R Q := by
  obtain ⟨len, he, rfl⟩ := he
  by_cases h : 0 ≤ x
  · exact Ex.pure he rfl rfl (amBr_of (c := amC1 .ge x) ht true (decide_eq_true h)) (kt h)
  · exact Ex.pure he rfl rfl (amBr_of (c := amC1 .ge x) ht false (decide_eq_false h)) (kf h)
theorem C_ge {x y : Int32} {off : Int} {t : Nat} (he : amT j pc pc' (.if_icmp .ge off) op) (ht : amTg pc off = some t) (kt : y ≤ x → Ex j t ls st S I J R Q) (kf : ¬ (y ≤ x) → Ex j pc' ls st S I J R Q) : Ex j pc ls (.int y :: .int x :: st) S I J R Q := by
  obtain ⟨len, he, rfl⟩ := he
  by_cases h : y ≤ x
  · exact Ex.pure he rfl rfl (amBr_of (c := amC2 .ge x y) ht true (decide_eq_true h)) (kt h)
  · exact Ex.pure he rfl rfl (amBr_of (c := amC2 .ge x y) ht false (decide_eq_false h)) (kf h)
theorem B_gt {x : Int32} {off : Int} {t : Nat} (he : amT j pc pc' (.ifCond .gt off) op) (ht : amTg pc off = some t) (kt : 0 < x → Ex j t ls st S I J R Q) (kf : ¬ (0 < x) → Ex j pc' ls st S I J R Q) : Ex j pc ls (.int x :: st) S I J R Q := by
  obtain ⟨len, he, rfl⟩ := he
  by_cases h : 0 < x
  · exact Ex.pure he rfl rfl (amBr_of (c := amC1 .gt x) ht true (decide_eq_true h)) (kt h)
  · exact Ex.pure he rfl rfl (amBr_of (c := amC1 .gt x) ht false (decide_eq_false h)) (kf h)
theorem C_gt {x y : Int32} {off : Int} {t : Nat} (he : amT j pc pc' (.if_icmp .gt off) op) (ht : amTg pc off = some t) (kt : y < x → Ex j t ls st S I J R Q) (kf : ¬ (y < x) → Ex j pc' ls st S I J R Q) : Ex j pc ls (.int y :: .int x :: st) S I J R Q := by
  obtain ⟨len, he, rfl⟩ := he
  by_cases h : y < x
  · exact Ex.pure he rfl rfl (amBr_of (c := amC2 .gt x y) ht true (decide_eq_true h)) (kt h)
  · exact Ex.pure he rfl rfl (amBr_of (c := amC2 .gt x y) ht false (decide_eq_false h)) (kf h)
theorem B_le {x : Int32} {off : Int} {t : Nat} (he : amT j pc pc' (.ifCond .le off) op) (ht : amTg pc off = some t) (kt : x ≤ 0 → Ex j t ls st S I J R Q) (kf : ¬ (x ≤ 0) → Ex j pc' ls st S I J R Q) : Ex j pc ls (.int x :: st) S I J R Q := by
  obtain ⟨len, he, rfl⟩ := he
  by_cases h : x ≤ 0
  · exact Ex.pure he rfl rfl (amBr_of (c := amC1 .le x) ht true (decide_eq_true h)) (kt h)
  · exact Ex.pure he rfl rfl (amBr_of (c := amC1 .le x) ht false (decide_eq_false h)) (kf h)
theorem C_le {x y : Int32} {off : Int} {t : Nat} (he : amT j pc pc' (.if_icmp .le off) op) (ht : amTg pc off = some t) (kt : x ≤ y → Ex j t ls st S I J R Q) (kf : ¬ (x ≤ y) → Ex j pc' ls st S I J R Q) : Ex j pc ls (.int y :: .int x :: st) S I J R Q := by
  obtain ⟨len, he, rfl⟩ := he
  by_cases h : x ≤ y
  · exact Ex.pure he rfl rfl (amBr_of (c := amC2 .le x y) ht true (decide_eq_true h)) (kt h)
  · exact Ex.pure he rfl rfl (amBr_of (c := amC2 .le x y) ht false (decide_eq_false h)) (kf h)
theorem lc_eq {x y : Int64} : amLcmp x y = 0 ↔ x = y := by
  unfold amLcmp
  constructor
  · intro h
    split at h
    · exact absurd h (by decide)
    · split at h
      · assumption
      · exact absurd h (by decide)
  · rintro rfl
    rw [if_neg Int64.lt_irrefl, if_pos rfl]
theorem lc_lt {x y : Int64} : amLcmp x y < 0 ↔ x < y := by
  unfold amLcmp
  constructor
  · intro h
    split at h
    · exact absurd h (by decide)
    · split at h
      · exact absurd h (by decide)
      · rename_i h1 h2
        exact Int64.lt_of_le_of_ne (Int64.not_lt.mp h1) h2
  · intro h
    rw [if_neg (fun q => absurd (Int64.lt_trans h q) Int64.lt_irrefl), if_neg (fun q => by subst q; exact Int64.lt_irrefl h)]
    decide
theorem lc_gt {x y : Int64} : 0 < amLcmp x y ↔ y < x := by
  unfold amLcmp
  constructor
  · intro h
    split at h
    · assumption
    · split at h
      · exact absurd h (by decide)
      · exact absurd h (by decide)
  · intro h
    rw [if_pos h]
    decide
theorem lc_ge {x y : Int64} : 0 ≤ amLcmp x y ↔ y ≤ x := by
  rw [← Int32.not_lt, lc_lt, Int64.not_lt]
theorem lc_le {x y : Int64} : amLcmp x y ≤ 0 ↔ x ≤ y := by
  rw [← Int32.not_lt, lc_gt, Int64.not_lt]
theorem Lcmp {x y : Int64} (he : amT j pc pc' .lcmp op) (k : Ex j pc' ls (.int (amLcmp x y) :: st) S I J R Q) : Ex j pc ls (.long y :: .long x :: st) S I J R Q := by
  obtain ⟨len, he, rfl⟩ := he
  exact Ex.pure he rfl rfl rfl k
theorem D_eq {x y : Int64} {off : Int} {t p2 op2 : Nat} (h1 : amT j pc p2 .lcmp op) (he : amT j p2 pc' (.ifCond .eq off) op2) (ht : amTg p2 off = some t) (kt : x = y → Ex j t ls st S I J R Q) (kf : ¬ (x = y) → Ex j pc' ls st S I J R Q) : Ex j pc ls (.long y :: .long x :: st) S I J R Q :=
  Lcmp h1 (B_eq he ht (fun h => kt ((lc_eq).mp h)) (fun h => kf (fun q => h ((lc_eq).mpr q))))
theorem D_ne {x y : Int64} {off : Int} {t p2 op2 : Nat} (h1 : amT j pc p2 .lcmp op) (he : amT j p2 pc' (.ifCond .ne off) op2) (ht : amTg p2 off = some t) (kt : ¬ x = y → Ex j t ls st S I J R Q) (kf : ¬ (¬ x = y) → Ex j pc' ls st S I J R Q) : Ex j pc ls (.long y :: .long x :: st) S I J R Q :=
  Lcmp h1 (B_ne he ht (fun h => kt ((not_congr lc_eq).mp h)) (fun h => kf (fun q => h ((not_congr lc_eq).mpr q))))
theorem D_lt {x y : Int64} {off : Int} {t p2 op2 : Nat} (h1 : amT j pc p2 .lcmp op) (he : amT j p2 pc' (.ifCond .lt off) op2) (ht : amTg p2 off = some t) (kt : x < y → Ex j t ls st S I J R Q) (kf : ¬ (x < y) → Ex j pc' ls st S I J R Q) : Ex j pc ls (.long y :: .long x :: st) S I J R Q :=
  Lcmp h1 (B_lt he ht (fun h => kt ((lc_lt).mp h)) (fun h => kf (fun q => h ((lc_lt).mpr q))))
theorem D_ge {x y : Int64} {off : Int} {t p2 op2 : Nat} (h1 : amT j pc p2 .lcmp op) (he : amT j p2 pc' (.ifCond .ge off) op2) (ht : amTg p2 off = some t) (kt : y ≤ x → Ex j t ls st S I J R Q) (kf : ¬ (y ≤ x) → Ex j pc' ls st S I J R Q) : Ex j pc ls (.long y :: .long x :: st) S I J R Q :=
  Lcmp h1 (B_ge he ht (fun h => kt ((lc_ge).mp h)) (fun h => kf (fun q => h ((lc_ge).mpr q))))
theorem D_gt {x y : Int64} {off : Int} {t p2 op2 : Nat} (h1 : amT j pc p2 .lcmp op) (he : amT j p2 pc' (.ifCond .gt off) op2) (ht : amTg p2 off = some t) (kt : y < x → Ex j t ls st S I J R Q) (kf : ¬ (y < x) → Ex j pc' ls st S I J R Q) : Ex j pc ls (.long y :: .long x :: st) S I J R Q :=
  Lcmp h1 (B_gt he ht (fun h => kt ((lc_gt).mp h)) (fun h => kf (fun q => h ((lc_gt).mpr q))))
theorem D_le {x y : Int64} {off : Int} {t p2 op2 : Nat} (h1 : amT j pc p2 .lcmp op) (he : amT j p2 pc' (.ifCond .le off) op2) (ht : amTg p2 off = some t) (kt : x ≤ y → Ex j t ls st S I J R Q) (kf : ¬ (x ≤ y) → Ex j pc' ls st S I J R Q) : Ex j pc ls (.long y :: .long x :: st) S I J R Q :=
  Lcmp h1 (B_le he ht (fun h => kt ((lc_le).mp h)) (fun h => kf (fun q => h ((lc_le).mpr q))))
theorem N_null {a : Nat} {off : Int} {t : Nat} (he : amT j pc pc' (.ifnull off) op) (ht : amTg pc off = some t) (k : Ex j pc' ls st S I J R Q) : Ex j pc ls (.ref a :: st) S I J R Q := by
  obtain ⟨len, he, rfl⟩ := he
  exact Ex.pure he rfl rfl (amBr_of ht false rfl) k
theorem Z_null {off : Int} {t : Nat} (he : amT j pc pc' (.ifnull off) op) (ht : amTg pc off = some t) (k : Ex j t ls st S I J R Q) : Ex j pc ls (.null :: st) S I J R Q := by
  obtain ⟨len, he, rfl⟩ := he
  exact Ex.pure he rfl rfl (amBr_of ht true rfl) k
theorem N_nonnull {a : Nat} {off : Int} {t : Nat} (he : amT j pc pc' (.ifnonnull off) op) (ht : amTg pc off = some t) (k : Ex j t ls st S I J R Q) : Ex j pc ls (.ref a :: st) S I J R Q := by
  obtain ⟨len, he, rfl⟩ := he
  exact Ex.pure he rfl rfl (amBr_of ht true rfl) k
theorem Z_nonnull {off : Int} {t : Nat} (he : amT j pc pc' (.ifnonnull off) op) (ht : amTg pc off = some t) (k : Ex j pc' ls st S I J R Q) : Ex j pc ls (.null :: st) S I J R Q := by
  obtain ⟨len, he, rfl⟩ := he
  exact Ex.pure he rfl rfl (amBr_of ht false rfl) k
theorem Tout {x : Int32} {d lo hi : Int} {offs : Array Int} {t : Nat} (he : amT j pc pc' (.tableswitch d lo hi offs) op) (ht : amTg pc d = some t) (h : x.toInt < lo ∨ hi < x.toInt) (k : Ex j t ls st S I J R Q) : Ex j pc ls (.int x :: st) S I J R Q := by
  obtain ⟨len, he, rfl⟩ := he
  refine Ex.pure he rfl rfl (pc'' := t) (ls' := ls) (st' := st) ?_ k
  show (if x.toInt < lo ∨ hi < x.toInt then (amTg pc d).map fun t => (t, ls, st) else _) = _
  rw [if_pos h, ht]
  rfl
theorem Tin {x : Int32} {d lo hi o : Int} {offs : Array Int} {t : Nat} (he : amT j pc pc' (.tableswitch d lo hi offs) op) (n : Int) (hx : x.toInt = n) (h : ¬ (n < lo ∨ hi < n)) (ho : offs[(n - lo).toNat]? = some o) (ht : amTg pc o = some t) (k : Ex j t ls st S I J R Q) : Ex j pc ls (.int x :: st) S I J R Q := by
  obtain ⟨len, he, rfl⟩ := he
  refine Ex.pure he rfl rfl (pc'' := t) (ls' := ls) (st' := st) ?_ k
  show (if x.toInt < lo ∨ hi < x.toInt then _ else (offs[(x.toInt - lo).toNat]?).bind fun o => (amTg pc o).map fun t => (t, ls, st)) = _
  rw [hx, if_neg h, ho]
  show (amTg pc o).map _ = _
  rw [ht]
  rfl
theorem amCall_no {k : Nat} {K : Nat → amK} (h : 900 ≤ k) : amCall i j k st K = none := by
  unfold amCall
  split
  · exact if_neg (by omega)
  · exact if_neg (by omega)
  · exact if_neg (by omega)
  · rfl
/-- Math, String -/
theorem Mmax {x y : Int64} {n : Nat} (he : amT j pc pc' (.invokestatic n) 902) (hcat : amCat st ≤ 8) (k : Ex j pc' ls (.long (if y < x then x else y) :: st) S I J R Q) : Ex j pc ls (.long y :: .long x :: st) S I J R Q := by
  obtain ⟨len, he, rfl⟩ := he
  exact Ex.pure he rfl (amCall_no (by decide)) (if_pos ⟨rfl, hcat⟩) k
theorem Mabs {x : Int64} {n : Nat} (he : amT j pc pc' (.invokestatic n) 903) (hcat : amCat st ≤ 8) (k : Ex j pc' ls (.long (if 0 < x then x else -x) :: st) S I J R Q) : Ex j pc ls (.long x :: st) S I J R Q := by
  obtain ⟨len, he, rfl⟩ := he
  refine Ex.pure he rfl (amCall_no (by decide)) ?_ k
  cases st with
  | nil => simp [amPure, hcat]
  | cons v r => cases v <;> simp [amPure, hcat]
theorem Slen {a n : Nat} (he : amT j pc pc' (.invokevirtual n) 900) (hcat : amCat st ≤ 8) (ha : a < 12) (k : Ex j pc' ls (.int (nI (amTx a).length) :: st) S I J R Q) : Ex j pc ls (.ref (1000000 + a) :: st) S I J R Q := by
  obtain ⟨len, he, rfl⟩ := he
  refine Ex.pure he rfl (amCall_no (by decide)) ?_ k
  show (if 900 = 900 ∧ amCat st ≤ 8 ∧ 1000000 ≤ 1000000 + a ∧ 1000000 + a < 1000012 then some (pc + len, ls, .int (nI (amTx (1000000 + a - 1000000)).length) :: st) else none) = _
  rw [if_pos ⟨rfl, hcat, by omega, by omega⟩, Nat.add_sub_cancel_left]
theorem Sat {a n : Nat} {x : Int32} (he : amT j pc pc' (.invokevirtual n) 901) (hcat : amCat st ≤ 8) (ha : a < 12) (h0 : 0 ≤ x) (hx : x.toNatClampNeg < (amTx a).length) (k : Ex j pc' ls (.int ((amTx a).getD x.toNatClampNeg 0) :: st) S I J R Q) : Ex j pc ls (.int x :: .ref (1000000 + a) :: st) S I J R Q := by
  obtain ⟨len, he, rfl⟩ := he
  refine Ex.pure he rfl (amCall_no (by decide)) ?_ k
  show (if 901 = 901 ∧ amCat st ≤ 8 ∧ 1000000 ≤ 1000000 + a ∧ 1000000 + a < 1000012 ∧ 0 ≤ x ∧ x.toNatClampNeg < (amTx (1000000 + a - 1000000)).length then some (pc + len, ls, .int ((amTx (1000000 + a - 1000000)).getD x.toNatClampNeg 0) :: st) else none) = _
  rw [Nat.add_sub_cancel_left, if_pos ⟨rfl, hcat, by omega, by omega, h0, hx⟩]
/-- fields -/
theorem Gi {a c k n : Nat} (he : amT j pc pc' (.getfield n) op) (ho : amO S a c) (hop : op / 64 = c ∧ op % 64 = k ∧ k < amFn c ∧ (amFk c k = 0 ∨ amFk c k = 3)) (kk : Ex j pc' ls (.int (I a k) :: st) S I J R Q) : Ex j pc ls (.ref a :: st) S I J R Q := by
  obtain ⟨rfl, rfl, h3, h4⟩ := hop
  refine Ex.heap he rfl rfl (fun _ => rfl) ?_ kk
  show (if 0 < a ∧ a ≤ S.1 ∧ S.2.2 a = .inl (op / 64) ∧ op % 64 < amFn (op / 64) then some (amFv (op / 64) a (op % 64) (S, I, J, R) :: st, (S, I, J, R)) else none) = _
  rw [if_pos ⟨ho.1, ho.2.1, ho.2.2, h3⟩]
  unfold amFv
  rcases h4 with h4 | h4 <;> rw [h4] <;> rfl
theorem Gj {a c k n : Nat} (he : amT j pc pc' (.getfield n) op) (ho : amO S a c) (hop : op / 64 = c ∧ op % 64 = k ∧ k < amFn c ∧ amFk c k = 1) (kk : Ex j pc' ls (.long (J a k) :: st) S I J R Q) : Ex j pc ls (.ref a :: st) S I J R Q := by
  obtain ⟨rfl, rfl, h3, h4⟩ := hop
  refine Ex.heap he rfl rfl (fun _ => rfl) ?_ kk
  show (if 0 < a ∧ a ≤ S.1 ∧ S.2.2 a = .inl (op / 64) ∧ op % 64 < amFn (op / 64) then some (amFv (op / 64) a (op % 64) (S, I, J, R) :: st, (S, I, J, R)) else none) = _
  rw [if_pos ⟨ho.1, ho.2.1, ho.2.2, h3⟩]
  unfold amFv
  rw [h4]
  rfl
theorem Gr {a b c k n : Nat} (he : amT j pc pc' (.getfield n) op) (ho : amO S a c) (hr : R a k = some b) (hop : op / 64 = c ∧ op % 64 = k ∧ k < amFn c ∧ amFk c k = 2) (kk : Ex j pc' ls (.ref b :: st) S I J R Q) : Ex j pc ls (.ref a :: st) S I J R Q := by
  obtain ⟨rfl, rfl, h3, h4⟩ := hop
  refine Ex.heap he rfl rfl (fun _ => rfl) ?_ kk
  show (if 0 < a ∧ a ≤ S.1 ∧ S.2.2 a = .inl (op / 64) ∧ op % 64 < amFn (op / 64) then some (amFv (op / 64) a (op % 64) (S, I, J, R) :: st, (S, I, J, R)) else none) = _
  rw [if_pos ⟨ho.1, ho.2.1, ho.2.2, h3⟩]
  unfold amFv
  rw [h4]
  show some (va_rf (R a (op % 64)) :: st, _) = _
  rw [hr]
  rfl
theorem Pi {a c k n : Nat} {x : Int32} (he : amT j pc pc' (.putfield n) op) (ho : amO S a c) (hop : op / 64 = c ∧ op % 64 = k ∧ k < amFn c ∧ amFk c k = 0) (kk : Ex j pc' ls st S (amU I a k x) J R Q) : Ex j pc ls (.int x :: .ref a :: st) S I J R Q := by
  obtain ⟨rfl, rfl, h3, h4⟩ := hop
  refine Ex.heap he rfl rfl (fun _ => rfl) ?_ kk
  unfold amHeap
  dsimp only
  rw [if_pos ⟨ho.1, ho.2.1, ho.2.2, h3⟩, h4]
  rfl
theorem Pz {a c k n : Nat} {x : Int32} (he : amT j pc pc' (.putfield n) op) (ho : amO S a c) (hop : op / 64 = c ∧ op % 64 = k ∧ k < amFn c ∧ amFk c k = 3) (hx : x = 0 ∨ x = 1) (kk : Ex j pc' ls st S (amU I a k x) J R Q) : Ex j pc ls (.int x :: .ref a :: st) S I J R Q := by
  obtain ⟨rfl, rfl, h3, h4⟩ := hop
  refine Ex.heap he rfl rfl (fun _ => rfl) ?_ kk
  unfold amHeap
  dsimp only
  rw [if_pos ⟨ho.1, ho.2.1, ho.2.2, h3⟩, h4]
  exact if_pos hx
theorem Pj {a c k n : Nat} {x : Int64} (he : amT j pc pc' (.putfield n) op) (ho : amO S a c) (hop : op / 64 = c ∧ op % 64 = k ∧ k < amFn c ∧ amFk c k = 1) (kk : Ex j pc' ls st S I (amU J a k x) R Q) : Ex j pc ls (.long x :: .ref a :: st) S I J R Q := by
  obtain ⟨rfl, rfl, h3, h4⟩ := hop
  refine Ex.heap he rfl rfl (fun _ => rfl) ?_ kk
  unfold amHeap
  dsimp only
  rw [if_pos ⟨ho.1, ho.2.1, ho.2.2, h3⟩, h4]
  rfl
theorem Pr {a b c k n : Nat} (he : amT j pc pc' (.putfield n) op) (ho : amO S a c) (hop : op / 64 = c ∧ op % 64 = k ∧ k < amFn c ∧ amFk c k = 2) (kk : Ex j pc' ls st S I J (amU R a k (some b)) Q) : Ex j pc ls (.ref b :: .ref a :: st) S I J R Q := by
  obtain ⟨rfl, rfl, h3, h4⟩ := hop
  refine Ex.heap he rfl rfl (fun _ => rfl) ?_ kk
  unfold amHeap
  dsimp only
  rw [if_pos ⟨ho.1, ho.2.1, ho.2.2, h3⟩, h4]
  rfl
/-- arrays -/
theorem Ai {a n : Nat} {x : Int32} (he : amT j pc pc' .iaload op) (ha : amA S a 0 n) (h0 : 0 ≤ x) (h1 : x.toNatClampNeg < n) (kk : Ex j pc' ls (.int (I a x.toNatClampNeg) :: st) S I J R Q) : Ex j pc ls (.int x :: .ref a :: st) S I J R Q := by
  refine Ex.heap he rfl rfl (fun _ => rfl) ?_ kk
  unfold amHeap
  dsimp only
  rw [ha.2.2]
  exact if_pos ⟨ha.2.1, Or.inl ⟨rfl, ha.1⟩, h0, h1⟩
theorem As0 {L : Nat} {x : Int32} (he : amT j pc pc' .iaload op) (hK : S.2.2 0 = .inr (8, L)) (h0 : 0 ≤ x) (h1 : x.toNatClampNeg < L) (kk : Ex j pc' ls (.int (I 0 x.toNatClampNeg) :: st) S I J R Q) : Ex j pc ls (.int x :: .ref 0 :: st) S I J R Q := by
  refine Ex.heap he rfl rfl (fun _ => rfl) ?_ kk
  unfold amHeap
  dsimp only
  rw [hK]
  exact if_pos ⟨Nat.zero_le _, Or.inr rfl, h0, h1⟩
theorem Len0 {L : Nat} (he : amT j pc pc' .arraylength op) (hK : S.2.2 0 = .inr (8, L)) (kk : Ex j pc' ls (.int (Int32.ofNat L) :: st) S I J R Q) : Ex j pc ls (.ref 0 :: st) S I J R Q := by
  refine Ex.heap he rfl rfl (fun _ => rfl) ?_ kk
  unfold amHeap
  dsimp only
  rw [hK]
  exact if_pos ⟨Nat.zero_le _, Or.inr rfl⟩
theorem LenN {a t n : Nat} (he : amT j pc pc' .arraylength op) (ha : amA S a t n) (ht : t < 5) (kk : Ex j pc' ls (.int (Int32.ofNat n) :: st) S I J R Q) : Ex j pc ls (.ref a :: st) S I J R Q := by
  refine Ex.heap he rfl rfl (fun _ => rfl) ?_ kk
  unfold amHeap
  dsimp only
  rw [ha.2.2]
  exact if_pos ⟨ha.2.1, Or.inl ⟨ht, ha.1⟩⟩
theorem Ab {a n : Nat} {x : Int32} (he : amT j pc pc' .baload op) (ha : amA S a 2 n) (h0 : 0 ≤ x) (h1 : x.toNatClampNeg < n) (kk : Ex j pc' ls (.int (I a x.toNatClampNeg) :: st) S I J R Q) : Ex j pc ls (.int x :: .ref a :: st) S I J R Q := by
  refine Ex.heap he rfl rfl (fun _ => rfl) ?_ kk
  unfold amHeap
  dsimp only
  rw [ha.2.2]
  exact if_pos ⟨ha.1, ha.2.1, rfl, h0, h1⟩
theorem Aj {a n : Nat} {x : Int32} (he : amT j pc pc' .laload op) (ha : amA S a 1 n) (h0 : 0 ≤ x) (h1 : x.toNatClampNeg < n) (kk : Ex j pc' ls (.long (J a x.toNatClampNeg) :: st) S I J R Q) : Ex j pc ls (.int x :: .ref a :: st) S I J R Q := by
  refine Ex.heap he rfl rfl (fun _ => rfl) ?_ kk
  unfold amHeap
  dsimp only
  rw [ha.2.2]
  exact if_pos ⟨ha.1, ha.2.1, rfl, h0, h1⟩
theorem Ar {a b n t : Nat} {x : Int32} (he : amT j pc pc' .aaload op) (ha : amA S a t n) (ht : t = 3 ∨ t = 4) (h0 : 0 ≤ x) (h1 : x.toNatClampNeg < n) (hr : R a x.toNatClampNeg = some b) (kk : Ex j pc' ls (.ref b :: st) S I J R Q) : Ex j pc ls (.int x :: .ref a :: st) S I J R Q := by
  refine Ex.heap he rfl rfl (fun _ => rfl) ?_ kk
  unfold amHeap
  dsimp only
  rw [ha.2.2]
  refine (if_pos ⟨ha.1, ha.2.1, ht, h0, h1⟩).trans ?_
  rw [hr]
  rfl
theorem Wi {a n : Nat} {x v : Int32} (he : amT j pc pc' .iastore op) (ha : amA S a 0 n) (h0 : 0 ≤ x) (h1 : x.toNatClampNeg < n) (kk : Ex j pc' ls st S (amU I a x.toNatClampNeg v) J R Q) : Ex j pc ls (.int v :: .int x :: .ref a :: st) S I J R Q := by
  refine Ex.heap he rfl rfl (fun _ => rfl) ?_ kk
  unfold amHeap
  dsimp only
  rw [ha.2.2]
  exact if_pos ⟨ha.1, ha.2.1, rfl, h0, h1⟩
theorem Wb {a n : Nat} {x v : Int32} (he : amT j pc pc' .bastore op) (ha : amA S a 2 n) (h0 : 0 ≤ x) (h1 : x.toNatClampNeg < n) (kk : Ex j pc' ls st S (amU I a x.toNatClampNeg v.toInt8.toInt32) J R Q) : Ex j pc ls (.int v :: .int x :: .ref a :: st) S I J R Q := by
  refine Ex.heap he rfl rfl (fun _ => rfl) ?_ kk
  unfold amHeap
  dsimp only
  rw [ha.2.2]
  exact if_pos ⟨ha.1, ha.2.1, rfl, h0, h1⟩
theorem Wj {a n : Nat} {x : Int32} {v : Int64} (he : amT j pc pc' .lastore op) (ha : amA S a 1 n) (h0 : 0 ≤ x) (h1 : x.toNatClampNeg < n) (kk : Ex j pc' ls st S I (amU J a x.toNatClampNeg v) R Q) : Ex j pc ls (.long v :: .int x :: .ref a :: st) S I J R Q := by
  refine Ex.heap he rfl rfl (fun _ => rfl) ?_ kk
  unfold amHeap
  dsimp only
  rw [ha.2.2]
  exact if_pos ⟨ha.1, ha.2.1, rfl, h0, h1⟩
/-- ends -/
theorem Ri {v : Int32} (he : amT j pc pc' .ireturn op) (hr : amRt j = some .int) (hQ : Q (some (.int v)) I J R) : Ex j pc ls [.int v] S I J R Q := Ex.ret he (by rw [hr]; rfl) hQ
theorem Rz {v : Int32} (he : amT j pc pc' .ireturn op) (hr : amRt j = some .boolean) (h01 : v = 0 ∨ v = 1) (hQ : Q (some (.int v)) I J R) : Ex j pc ls [.int v] S I J R Q := Ex.ret he (by rw [hr]; exact if_pos h01) hQ
theorem Rj {v : Int64} (he : amT j pc pc' .lreturn op) (hr : amRt j = some .long) (hQ : Q (some (.long v)) I J R) : Ex j pc ls [.long v] S I J R Q := Ex.ret he (by rw [hr]; rfl) hQ
theorem Ra {a : Nat} {n : String} (he : amT j pc pc' .areturn op) (hr : amRt j = some (.object n)) (hQ : Q (some (.ref a)) I J R) : Ex j pc ls [.ref a] S I J R Q := Ex.ret he (by rw [hr]; rfl) hQ
theorem Rn {n : String} (he : amT j pc pc' .areturn op) (hr : amRt j = some (.object n)) (hQ : Q (some .null) I J R) : Ex j pc ls [.null] S I J R Q := Ex.ret he (by rw [hr]; rfl) hQ
theorem Rvd (he : amT j pc pc' .return_ op) (hr : amRt j = none) (hQ : Q none I J R) : Ex j pc ls [] S I J R Q := Ex.ret he (by rw [hr]; rfl) hQ
theorem LI0 {x : Int32} (he : amT j pc pc' (.iload_n 0) op) (k : Ex j pc' (some (.int x) :: ls) (.int x :: st) S I J R Q) : Ex j pc (some (.int x) :: ls) st S I J R Q := by
  obtain ⟨len, he, rfl⟩ := he
  exact Ex.pure he rfl rfl rfl k
theorem LJ0 {x : Int64} (he : amT j pc pc' (.lload_n 0) op) (k : Ex j pc' (some (.long x) :: ls) (.long x :: st) S I J R Q) : Ex j pc (some (.long x) :: ls) st S I J R Q := by
  obtain ⟨len, he, rfl⟩ := he
  exact Ex.pure he rfl rfl rfl k
theorem LA0 {x : Nat} (he : amT j pc pc' (.aload_n 0) op) (k : Ex j pc' (some (.ref x) :: ls) (.ref x :: st) S I J R Q) : Ex j pc (some (.ref x) :: ls) st S I J R Q := by
  obtain ⟨len, he, rfl⟩ := he
  exact Ex.pure he rfl rfl rfl k
theorem LN0 (he : amT j pc pc' (.aload_n 0) op) (k : Ex j pc' (some .null :: ls) (.null :: st) S I J R Q) : Ex j pc (some .null :: ls) st S I J R Q := by
  obtain ⟨len, he, rfl⟩ := he
  exact Ex.pure he rfl rfl rfl k
theorem SI0 {y : Option Value} {x : Int32} (he : amT j pc pc' (.istore_n 0) op) (k : Ex j pc' (some (.int x) :: ls) st S I J R Q) : Ex j pc (y :: ls) (.int x :: st) S I J R Q := by
  obtain ⟨len, he, rfl⟩ := he
  exact Ex.pure he rfl rfl (by simp [amPure, amSt]) k
theorem SA0 {y : Option Value} {x : Nat} (he : amT j pc pc' (.astore_n 0) op) (k : Ex j pc' (some (.ref x) :: ls) st S I J R Q) : Ex j pc (y :: ls) (.ref x :: st) S I J R Q := by
  obtain ⟨len, he, rfl⟩ := he
  exact Ex.pure he rfl rfl (by simp [amPure, amSt]) k
theorem SN0 {y : Option Value} (he : amT j pc pc' (.astore_n 0) op) (k : Ex j pc' (some .null :: ls) st S I J R Q) : Ex j pc (y :: ls) (.null :: st) S I J R Q := by
  obtain ⟨len, he, rfl⟩ := he
  exact Ex.pure he rfl rfl (by simp [amPure, amSt]) k
theorem SJ0 {y z : Option Value} {x : Int64} (he : amT j pc pc' (.lstore_n 0) op) (k : Ex j pc' (some (.long x) :: none :: ls) st S I J R Q) : Ex j pc (y :: z :: ls) (.long x :: st) S I J R Q := by
  obtain ⟨len, he, rfl⟩ := he
  exact Ex.pure he rfl rfl (by simp [amPure, amSt2]) k
theorem Inc0 {x : Int32} {n : Int} {d : Int32} (he : amT j pc pc' (.iinc 0 n) op) (hd : Int32.ofInt n = d) (k : Ex j pc' (some (.int (x + d)) :: ls) st S I J R Q) : Ex j pc (some (.int x) :: ls) st S I J R Q := by
  obtain ⟨len, he, rfl⟩ := he
  subst hd
  exact Ex.pure he rfl rfl (by simp [amPure, amSt]) k
theorem LI1 {x0 : Option Value} {x : Int32} (he : amT j pc pc' (.iload_n 1) op) (k : Ex j pc' (x0 :: some (.int x) :: ls) (.int x :: st) S I J R Q) : Ex j pc (x0 :: some (.int x) :: ls) st S I J R Q := by
  obtain ⟨len, he, rfl⟩ := he
  exact Ex.pure he rfl rfl rfl k
theorem LJ1 {x0 : Option Value} {x : Int64} (he : amT j pc pc' (.lload_n 1) op) (k : Ex j pc' (x0 :: some (.long x) :: ls) (.long x :: st) S I J R Q) : Ex j pc (x0 :: some (.long x) :: ls) st S I J R Q := by
  obtain ⟨len, he, rfl⟩ := he
  exact Ex.pure he rfl rfl rfl k
theorem LA1 {x0 : Option Value} {x : Nat} (he : amT j pc pc' (.aload_n 1) op) (k : Ex j pc' (x0 :: some (.ref x) :: ls) (.ref x :: st) S I J R Q) : Ex j pc (x0 :: some (.ref x) :: ls) st S I J R Q := by
  obtain ⟨len, he, rfl⟩ := he
  exact Ex.pure he rfl rfl rfl k
theorem LN1 {x0 : Option Value} (he : amT j pc pc' (.aload_n 1) op) (k : Ex j pc' (x0 :: some .null :: ls) (.null :: st) S I J R Q) : Ex j pc (x0 :: some .null :: ls) st S I J R Q := by
  obtain ⟨len, he, rfl⟩ := he
  exact Ex.pure he rfl rfl rfl k
theorem SI1 {x0 : Option Value} {y : Option Value} {x : Int32} (he : amT j pc pc' (.istore_n 1) op) (hcl : amClr x0 = x0) (k : Ex j pc' (x0 :: some (.int x) :: ls) st S I J R Q) : Ex j pc (x0 :: y :: ls) (.int x :: st) S I J R Q := by
  obtain ⟨len, he, rfl⟩ := he
  exact Ex.pure he rfl rfl (by simp [amPure, amSt, hcl]) k
theorem SA1 {x0 : Option Value} {y : Option Value} {x : Nat} (he : amT j pc pc' (.astore_n 1) op) (hcl : amClr x0 = x0) (k : Ex j pc' (x0 :: some (.ref x) :: ls) st S I J R Q) : Ex j pc (x0 :: y :: ls) (.ref x :: st) S I J R Q := by
  obtain ⟨len, he, rfl⟩ := he
  exact Ex.pure he rfl rfl (by simp [amPure, amSt, hcl]) k
theorem SN1 {x0 : Option Value} {y : Option Value} (he : amT j pc pc' (.astore_n 1) op) (hcl : amClr x0 = x0) (k : Ex j pc' (x0 :: some .null :: ls) st S I J R Q) : Ex j pc (x0 :: y :: ls) (.null :: st) S I J R Q := by
  obtain ⟨len, he, rfl⟩ := he
  exact Ex.pure he rfl rfl (by simp [amPure, amSt, hcl]) k
theorem SJ1 {x0 : Option Value} {y z : Option Value} {x : Int64} (he : amT j pc pc' (.lstore_n 1) op) (hcl : amClr x0 = x0) (k : Ex j pc' (x0 :: some (.long x) :: none :: ls) st S I J R Q) : Ex j pc (x0 :: y :: z :: ls) (.long x :: st) S I J R Q := by
  obtain ⟨len, he, rfl⟩ := he
  exact Ex.pure he rfl rfl (by simp [amPure, amSt2, hcl]) k
theorem SId1 {y : Option Value} {q : Int64} {x : Int32} (he : amT j pc pc' (.istore_n 1) op) (k : Ex j pc' (none :: some (.int x) :: ls) st S I J R Q) : Ex j pc (some (.long q) :: y :: ls) (.int x :: st) S I J R Q := by
  obtain ⟨len, he, rfl⟩ := he
  exact Ex.pure he rfl rfl (by simp [amPure, amSt, amClr]) k
theorem SAd1 {y : Option Value} {q : Int64} {x : Nat} (he : amT j pc pc' (.astore_n 1) op) (k : Ex j pc' (none :: some (.ref x) :: ls) st S I J R Q) : Ex j pc (some (.long q) :: y :: ls) (.ref x :: st) S I J R Q := by
  obtain ⟨len, he, rfl⟩ := he
  exact Ex.pure he rfl rfl (by simp [amPure, amSt, amClr]) k
theorem Inc1 {x0 : Option Value} {x : Int32} {n : Int} {d : Int32} (he : amT j pc pc' (.iinc 1 n) op) (hd : Int32.ofInt n = d) (hcl : amClr x0 = x0) (k : Ex j pc' (x0 :: some (.int (x + d)) :: ls) st S I J R Q) : Ex j pc (x0 :: some (.int x) :: ls) st S I J R Q := by
  obtain ⟨len, he, rfl⟩ := he
  subst hd
  exact Ex.pure he rfl rfl (by simp [amPure, amSt, hcl]) k
theorem LI2 {x0 x1 : Option Value} {x : Int32} (he : amT j pc pc' (.iload_n 2) op) (k : Ex j pc' (x0 :: x1 :: some (.int x) :: ls) (.int x :: st) S I J R Q) : Ex j pc (x0 :: x1 :: some (.int x) :: ls) st S I J R Q := by
  obtain ⟨len, he, rfl⟩ := he
  exact Ex.pure he rfl rfl rfl k
theorem LJ2 {x0 x1 : Option Value} {x : Int64} (he : amT j pc pc' (.lload_n 2) op) (k : Ex j pc' (x0 :: x1 :: some (.long x) :: ls) (.long x :: st) S I J R Q) : Ex j pc (x0 :: x1 :: some (.long x) :: ls) st S I J R Q := by
  obtain ⟨len, he, rfl⟩ := he
  exact Ex.pure he rfl rfl rfl k
theorem LA2 {x0 x1 : Option Value} {x : Nat} (he : amT j pc pc' (.aload_n 2) op) (k : Ex j pc' (x0 :: x1 :: some (.ref x) :: ls) (.ref x :: st) S I J R Q) : Ex j pc (x0 :: x1 :: some (.ref x) :: ls) st S I J R Q := by
  obtain ⟨len, he, rfl⟩ := he
  exact Ex.pure he rfl rfl rfl k
theorem LN2 {x0 x1 : Option Value} (he : amT j pc pc' (.aload_n 2) op) (k : Ex j pc' (x0 :: x1 :: some .null :: ls) (.null :: st) S I J R Q) : Ex j pc (x0 :: x1 :: some .null :: ls) st S I J R Q := by
  obtain ⟨len, he, rfl⟩ := he
  exact Ex.pure he rfl rfl rfl k
theorem SI2 {x0 x1 : Option Value} {y : Option Value} {x : Int32} (he : amT j pc pc' (.istore_n 2) op) (hcl : amClr x1 = x1) (k : Ex j pc' (x0 :: x1 :: some (.int x) :: ls) st S I J R Q) : Ex j pc (x0 :: x1 :: y :: ls) (.int x :: st) S I J R Q := by
  obtain ⟨len, he, rfl⟩ := he
  exact Ex.pure he rfl rfl (by simp [amPure, amSt, hcl]) k
theorem SA2 {x0 x1 : Option Value} {y : Option Value} {x : Nat} (he : amT j pc pc' (.astore_n 2) op) (hcl : amClr x1 = x1) (k : Ex j pc' (x0 :: x1 :: some (.ref x) :: ls) st S I J R Q) : Ex j pc (x0 :: x1 :: y :: ls) (.ref x :: st) S I J R Q := by
  obtain ⟨len, he, rfl⟩ := he
  exact Ex.pure he rfl rfl (by simp [amPure, amSt, hcl]) k
theorem SN2 {x0 x1 : Option Value} {y : Option Value} (he : amT j pc pc' (.astore_n 2) op) (hcl : amClr x1 = x1) (k : Ex j pc' (x0 :: x1 :: some .null :: ls) st S I J R Q) : Ex j pc (x0 :: x1 :: y :: ls) (.null :: st) S I J R Q := by
  obtain ⟨len, he, rfl⟩ := he
  exact Ex.pure he rfl rfl (by simp [amPure, amSt, hcl]) k
theorem SJ2 {x0 x1 : Option Value} {y z : Option Value} {x : Int64} (he : amT j pc pc' (.lstore_n 2) op) (hcl : amClr x1 = x1) (k : Ex j pc' (x0 :: x1 :: some (.long x) :: none :: ls) st S I J R Q) : Ex j pc (x0 :: x1 :: y :: z :: ls) (.long x :: st) S I J R Q := by
  obtain ⟨len, he, rfl⟩ := he
  exact Ex.pure he rfl rfl (by simp [amPure, amSt2, hcl]) k
theorem SId2 {x0 : Option Value} {y : Option Value} {q : Int64} {x : Int32} (he : amT j pc pc' (.istore_n 2) op) (k : Ex j pc' (x0 :: none :: some (.int x) :: ls) st S I J R Q) : Ex j pc (x0 :: some (.long q) :: y :: ls) (.int x :: st) S I J R Q := by
  obtain ⟨len, he, rfl⟩ := he
  exact Ex.pure he rfl rfl (by simp [amPure, amSt, amClr]) k
theorem SAd2 {x0 : Option Value} {y : Option Value} {q : Int64} {x : Nat} (he : amT j pc pc' (.astore_n 2) op) (k : Ex j pc' (x0 :: none :: some (.ref x) :: ls) st S I J R Q) : Ex j pc (x0 :: some (.long q) :: y :: ls) (.ref x :: st) S I J R Q := by
  obtain ⟨len, he, rfl⟩ := he
  exact Ex.pure he rfl rfl (by simp [amPure, amSt, amClr]) k
theorem Inc2 {x0 x1 : Option Value} {x : Int32} {n : Int} {d : Int32} (he : amT j pc pc' (.iinc 2 n) op) (hd : Int32.ofInt n = d) (hcl : amClr x1 = x1) (k : Ex j pc' (x0 :: x1 :: some (.int (x + d)) :: ls) st S I J R Q) : Ex j pc (x0 :: x1 :: some (.int x) :: ls) st S I J R Q := by
  obtain ⟨len, he, rfl⟩ := he
  subst hd
  exact Ex.pure he rfl rfl (by simp [amPure, amSt, hcl]) k
theorem LI3 {x0 x1 x2 : Option Value} {x : Int32} (he : amT j pc pc' (.iload_n 3) op) (k : Ex j pc' (x0 :: x1 :: x2 :: some (.int x) :: ls) (.int x :: st) S I J R Q) : Ex j pc (x0 :: x1 :: x2 :: some (.int x) :: ls) st S I J R Q := by
  obtain ⟨len, he, rfl⟩ := he
  exact Ex.pure he rfl rfl rfl k
theorem LJ3 {x0 x1 x2 : Option Value} {x : Int64} (he : amT j pc pc' (.lload_n 3) op) (k : Ex j pc' (x0 :: x1 :: x2 :: some (.long x) :: ls) (.long x :: st) S I J R Q) : Ex j pc (x0 :: x1 :: x2 :: some (.long x) :: ls) st S I J R Q := by
  obtain ⟨len, he, rfl⟩ := he
  exact Ex.pure he rfl rfl rfl k
theorem LA3 {x0 x1 x2 : Option Value} {x : Nat} (he : amT j pc pc' (.aload_n 3) op) (k : Ex j pc' (x0 :: x1 :: x2 :: some (.ref x) :: ls) (.ref x :: st) S I J R Q) : Ex j pc (x0 :: x1 :: x2 :: some (.ref x) :: ls) st S I J R Q := by
  obtain ⟨len, he, rfl⟩ := he
  exact Ex.pure he rfl rfl rfl k
theorem LN3 {x0 x1 x2 : Option Value} (he : amT j pc pc' (.aload_n 3) op) (k : Ex j pc' (x0 :: x1 :: x2 :: some .null :: ls) (.null :: st) S I J R Q) : Ex j pc (x0 :: x1 :: x2 :: some .null :: ls) st S I J R Q := by
  obtain ⟨len, he, rfl⟩ := he
  exact Ex.pure he rfl rfl rfl k
theorem SI3 {x0 x1 x2 : Option Value} {y : Option Value} {x : Int32} (he : amT j pc pc' (.istore_n 3) op) (hcl : amClr x2 = x2) (k : Ex j pc' (x0 :: x1 :: x2 :: some (.int x) :: ls) st S I J R Q) : Ex j pc (x0 :: x1 :: x2 :: y :: ls) (.int x :: st) S I J R Q := by
  obtain ⟨len, he, rfl⟩ := he
  exact Ex.pure he rfl rfl (by simp [amPure, amSt, hcl] <;> (show 3 < _; omega)) k
theorem SA3 {x0 x1 x2 : Option Value} {y : Option Value} {x : Nat} (he : amT j pc pc' (.astore_n 3) op) (hcl : amClr x2 = x2) (k : Ex j pc' (x0 :: x1 :: x2 :: some (.ref x) :: ls) st S I J R Q) : Ex j pc (x0 :: x1 :: x2 :: y :: ls) (.ref x :: st) S I J R Q := by
  obtain ⟨len, he, rfl⟩ := he
  exact Ex.pure he rfl rfl (by simp [amPure, amSt, hcl] <;> (show 3 < _; omega)) k
theorem SN3 {x0 x1 x2 : Option Value} {y : Option Value} (he : amT j pc pc' (.astore_n 3) op) (hcl : amClr x2 = x2) (k : Ex j pc' (x0 :: x1 :: x2 :: some .null :: ls) st S I J R Q) : Ex j pc (x0 :: x1 :: x2 :: y :: ls) (.null :: st) S I J R Q := by
  obtain ⟨len, he, rfl⟩ := he
  exact Ex.pure he rfl rfl (by simp [amPure, amSt, hcl] <;> (show 3 < _; omega)) k
theorem SJ3 {x0 x1 x2 : Option Value} {y z : Option Value} {x : Int64} (he : amT j pc pc' (.lstore_n 3) op) (hcl : amClr x2 = x2) (k : Ex j pc' (x0 :: x1 :: x2 :: some (.long x) :: none :: ls) st S I J R Q) : Ex j pc (x0 :: x1 :: x2 :: y :: z :: ls) (.long x :: st) S I J R Q := by
  obtain ⟨len, he, rfl⟩ := he
  exact Ex.pure he rfl rfl (by simp [amPure, amSt2, hcl] <;> (show 3 < _; omega)) k
theorem SId3 {x0 x1 : Option Value} {y : Option Value} {q : Int64} {x : Int32} (he : amT j pc pc' (.istore_n 3) op) (k : Ex j pc' (x0 :: x1 :: none :: some (.int x) :: ls) st S I J R Q) : Ex j pc (x0 :: x1 :: some (.long q) :: y :: ls) (.int x :: st) S I J R Q := by
  obtain ⟨len, he, rfl⟩ := he
  exact Ex.pure he rfl rfl (by simp [amPure, amSt, amClr] <;> (show 3 < _; omega)) k
theorem SAd3 {x0 x1 : Option Value} {y : Option Value} {q : Int64} {x : Nat} (he : amT j pc pc' (.astore_n 3) op) (k : Ex j pc' (x0 :: x1 :: none :: some (.ref x) :: ls) st S I J R Q) : Ex j pc (x0 :: x1 :: some (.long q) :: y :: ls) (.ref x :: st) S I J R Q := by
  obtain ⟨len, he, rfl⟩ := he
  exact Ex.pure he rfl rfl (by simp [amPure, amSt, amClr] <;> (show 3 < _; omega)) k
theorem Inc3 {x0 x1 x2 : Option Value} {x : Int32} {n : Int} {d : Int32} (he : amT j pc pc' (.iinc 3 n) op) (hd : Int32.ofInt n = d) (hcl : amClr x2 = x2) (k : Ex j pc' (x0 :: x1 :: x2 :: some (.int (x + d)) :: ls) st S I J R Q) : Ex j pc (x0 :: x1 :: x2 :: some (.int x) :: ls) st S I J R Q := by
  obtain ⟨len, he, rfl⟩ := he
  subst hd
  exact Ex.pure he rfl rfl (by simp [amPure, amSt, hcl] <;> (show 3 < _; omega)) k
theorem LI4 {x0 x1 x2 x3 : Option Value} {x : Int32} (he : amT j pc pc' (.iload 4) op) (k : Ex j pc' (x0 :: x1 :: x2 :: x3 :: some (.int x) :: ls) (.int x :: st) S I J R Q) : Ex j pc (x0 :: x1 :: x2 :: x3 :: some (.int x) :: ls) st S I J R Q := by
  obtain ⟨len, he, rfl⟩ := he
  exact Ex.pure he rfl rfl rfl k
theorem LJ4 {x0 x1 x2 x3 : Option Value} {x : Int64} (he : amT j pc pc' (.lload 4) op) (k : Ex j pc' (x0 :: x1 :: x2 :: x3 :: some (.long x) :: ls) (.long x :: st) S I J R Q) : Ex j pc (x0 :: x1 :: x2 :: x3 :: some (.long x) :: ls) st S I J R Q := by
  obtain ⟨len, he, rfl⟩ := he
  exact Ex.pure he rfl rfl rfl k
theorem LA4 {x0 x1 x2 x3 : Option Value} {x : Nat} (he : amT j pc pc' (.aload 4) op) (k : Ex j pc' (x0 :: x1 :: x2 :: x3 :: some (.ref x) :: ls) (.ref x :: st) S I J R Q) : Ex j pc (x0 :: x1 :: x2 :: x3 :: some (.ref x) :: ls) st S I J R Q := by
  obtain ⟨len, he, rfl⟩ := he
  exact Ex.pure he rfl rfl rfl k
theorem LN4 {x0 x1 x2 x3 : Option Value} (he : amT j pc pc' (.aload 4) op) (k : Ex j pc' (x0 :: x1 :: x2 :: x3 :: some .null :: ls) (.null :: st) S I J R Q) : Ex j pc (x0 :: x1 :: x2 :: x3 :: some .null :: ls) st S I J R Q := by
  obtain ⟨len, he, rfl⟩ := he
  exact Ex.pure he rfl rfl rfl k
theorem SI4 {x0 x1 x2 x3 : Option Value} {y : Option Value} {x : Int32} (he : amT j pc pc' (.istore 4) op) (hcl : amClr x3 = x3) (k : Ex j pc' (x0 :: x1 :: x2 :: x3 :: some (.int x) :: ls) st S I J R Q) : Ex j pc (x0 :: x1 :: x2 :: x3 :: y :: ls) (.int x :: st) S I J R Q := by
  obtain ⟨len, he, rfl⟩ := he
  exact Ex.pure he rfl rfl (by simp [amPure, amSt, hcl]) k
theorem SA4 {x0 x1 x2 x3 : Option Value} {y : Option Value} {x : Nat} (he : amT j pc pc' (.astore 4) op) (hcl : amClr x3 = x3) (k : Ex j pc' (x0 :: x1 :: x2 :: x3 :: some (.ref x) :: ls) st S I J R Q) : Ex j pc (x0 :: x1 :: x2 :: x3 :: y :: ls) (.ref x :: st) S I J R Q := by
  obtain ⟨len, he, rfl⟩ := he
  exact Ex.pure he rfl rfl (by simp [amPure, amSt, hcl]) k
theorem SN4 {x0 x1 x2 x3 : Option Value} {y : Option Value} (he : amT j pc pc' (.astore 4) op) (hcl : amClr x3 = x3) (k : Ex j pc' (x0 :: x1 :: x2 :: x3 :: some .null :: ls) st S I J R Q) : Ex j pc (x0 :: x1 :: x2 :: x3 :: y :: ls) (.null :: st) S I J R Q := by
  obtain ⟨len, he, rfl⟩ := he
  exact Ex.pure he rfl rfl (by simp [amPure, amSt, hcl]) k
theorem SJ4 {x0 x1 x2 x3 : Option Value} {y z : Option Value} {x : Int64} (he : amT j pc pc' (.lstore 4) op) (hcl : amClr x3 = x3) (k : Ex j pc' (x0 :: x1 :: x2 :: x3 :: some (.long x) :: none :: ls) st S I J R Q) : Ex j pc (x0 :: x1 :: x2 :: x3 :: y :: z :: ls) (.long x :: st) S I J R Q := by
  obtain ⟨len, he, rfl⟩ := he
  exact Ex.pure he rfl rfl (by simp [amPure, amSt2, hcl]) k
theorem SId4 {x0 x1 x2 : Option Value} {y : Option Value} {q : Int64} {x : Int32} (he : amT j pc pc' (.istore 4) op) (k : Ex j pc' (x0 :: x1 :: x2 :: none :: some (.int x) :: ls) st S I J R Q) : Ex j pc (x0 :: x1 :: x2 :: some (.long q) :: y :: ls) (.int x :: st) S I J R Q := by
  obtain ⟨len, he, rfl⟩ := he
  exact Ex.pure he rfl rfl (by simp [amPure, amSt, amClr]) k
theorem SAd4 {x0 x1 x2 : Option Value} {y : Option Value} {q : Int64} {x : Nat} (he : amT j pc pc' (.astore 4) op) (k : Ex j pc' (x0 :: x1 :: x2 :: none :: some (.ref x) :: ls) st S I J R Q) : Ex j pc (x0 :: x1 :: x2 :: some (.long q) :: y :: ls) (.ref x :: st) S I J R Q := by
  obtain ⟨len, he, rfl⟩ := he
  exact Ex.pure he rfl rfl (by simp [amPure, amSt, amClr]) k
theorem Inc4 {x0 x1 x2 x3 : Option Value} {x : Int32} {n : Int} {d : Int32} (he : amT j pc pc' (.iinc 4 n) op) (hd : Int32.ofInt n = d) (hcl : amClr x3 = x3) (k : Ex j pc' (x0 :: x1 :: x2 :: x3 :: some (.int (x + d)) :: ls) st S I J R Q) : Ex j pc (x0 :: x1 :: x2 :: x3 :: some (.int x) :: ls) st S I J R Q := by
  obtain ⟨len, he, rfl⟩ := he
  subst hd
  exact Ex.pure he rfl rfl (by simp [amPure, amSt, hcl]) k
theorem LI5 {x0 x1 x2 x3 x4 : Option Value} {x : Int32} (he : amT j pc pc' (.iload 5) op) (k : Ex j pc' (x0 :: x1 :: x2 :: x3 :: x4 :: some (.int x) :: ls) (.int x :: st) S I J R Q) : Ex j pc (x0 :: x1 :: x2 :: x3 :: x4 :: some (.int x) :: ls) st S I J R Q := by
  obtain ⟨len, he, rfl⟩ := he
  exact Ex.pure he rfl rfl rfl k
theorem LJ5 {x0 x1 x2 x3 x4 : Option Value} {x : Int64} (he : amT j pc pc' (.lload 5) op) (k : Ex j pc' (x0 :: x1 :: x2 :: x3 :: x4 :: some (.long x) :: ls) (.long x :: st) S I J R Q) : Ex j pc (x0 :: x1 :: x2 :: x3 :: x4 :: some (.long x) :: ls) st S I J R Q := by
  obtain ⟨len, he, rfl⟩ := he
  exact Ex.pure he rfl rfl rfl k
theorem LA5 {x0 x1 x2 x3 x4 : Option Value} {x : Nat} (he : amT j pc pc' (.aload 5) op) (k : Ex j pc' (x0 :: x1 :: x2 :: x3 :: x4 :: some (.ref x) :: ls) (.ref x :: st) S I J R Q) : Ex j pc (x0 :: x1 :: x2 :: x3 :: x4 :: some (.ref x) :: ls) st S I J R Q := by
  obtain ⟨len, he, rfl⟩ := he
  exact Ex.pure he rfl rfl rfl k
theorem LN5 {x0 x1 x2 x3 x4 : Option Value} (he : amT j pc pc' (.aload 5) op) (k : Ex j pc' (x0 :: x1 :: x2 :: x3 :: x4 :: some .null :: ls) (.null :: st) S I J R Q) : Ex j pc (x0 :: x1 :: x2 :: x3 :: x4 :: some .null :: ls) st S I J R Q := by
  obtain ⟨len, he, rfl⟩ := he
  exact Ex.pure he rfl rfl rfl k
theorem SI5 {x0 x1 x2 x3 x4 : Option Value} {y : Option Value} {x : Int32} (he : amT j pc pc' (.istore 5) op) (hcl : amClr x4 = x4) (k : Ex j pc' (x0 :: x1 :: x2 :: x3 :: x4 :: some (.int x) :: ls) st S I J R Q) : Ex j pc (x0 :: x1 :: x2 :: x3 :: x4 :: y :: ls) (.int x :: st) S I J R Q := by
  obtain ⟨len, he, rfl⟩ := he
  exact Ex.pure he rfl rfl (by simp [amPure, amSt, hcl]) k
theorem SA5 {x0 x1 x2 x3 x4 : Option Value} {y : Option Value} {x : Nat} (he : amT j pc pc' (.astore 5) op) (hcl : amClr x4 = x4) (k : Ex j pc' (x0 :: x1 :: x2 :: x3 :: x4 :: some (.ref x) :: ls) st S I J R Q) : Ex j pc (x0 :: x1 :: x2 :: x3 :: x4 :: y :: ls) (.ref x :: st) S I J R Q := by
  obtain ⟨len, he, rfl⟩ := he
  exact Ex.pure he rfl rfl (by simp [amPure, amSt, hcl]) k
theorem SN5 {x0 x1 x2 x3 x4 : Option Value} {y : Option Value} (he : amT j pc pc' (.astore 5) op) (hcl : amClr x4 = x4) (k : Ex j pc' (x0 :: x1 :: x2 :: x3 :: x4 :: some .null :: ls) st S I J R Q) : Ex j pc (x0 :: x1 :: x2 :: x3 :: x4 :: y :: ls) (.null :: st) S I J R Q := by
  obtain ⟨len, he, rfl⟩ := he
  exact Ex.pure he rfl rfl (by simp [amPure, amSt, hcl]) k
theorem SJ5 {x0 x1 x2 x3 x4 : Option Value} {y z : Option Value} {x : Int64} (he : amT j pc pc' (.lstore 5) op) (hcl : amClr x4 = x4) (k : Ex j pc' (x0 :: x1 :: x2 :: x3 :: x4 :: some (.long x) :: none :: ls) st S I J R Q) : Ex j pc (x0 :: x1 :: x2 :: x3 :: x4 :: y :: z :: ls) (.long x :: st) S I J R Q := by
  obtain ⟨len, he, rfl⟩ := he
  exact Ex.pure he rfl rfl (by simp [amPure, amSt2, hcl]) k
theorem SId5 {x0 x1 x2 x3 : Option Value} {y : Option Value} {q : Int64} {x : Int32} (he : amT j pc pc' (.istore 5) op) (k : Ex j pc' (x0 :: x1 :: x2 :: x3 :: none :: some (.int x) :: ls) st S I J R Q) : Ex j pc (x0 :: x1 :: x2 :: x3 :: some (.long q) :: y :: ls) (.int x :: st) S I J R Q := by
  obtain ⟨len, he, rfl⟩ := he
  exact Ex.pure he rfl rfl (by simp [amPure, amSt, amClr]) k
theorem SAd5 {x0 x1 x2 x3 : Option Value} {y : Option Value} {q : Int64} {x : Nat} (he : amT j pc pc' (.astore 5) op) (k : Ex j pc' (x0 :: x1 :: x2 :: x3 :: none :: some (.ref x) :: ls) st S I J R Q) : Ex j pc (x0 :: x1 :: x2 :: x3 :: some (.long q) :: y :: ls) (.ref x :: st) S I J R Q := by
  obtain ⟨len, he, rfl⟩ := he
  exact Ex.pure he rfl rfl (by simp [amPure, amSt, amClr]) k
theorem Inc5 {x0 x1 x2 x3 x4 : Option Value} {x : Int32} {n : Int} {d : Int32} (he : amT j pc pc' (.iinc 5 n) op) (hd : Int32.ofInt n = d) (hcl : amClr x4 = x4) (k : Ex j pc' (x0 :: x1 :: x2 :: x3 :: x4 :: some (.int (x + d)) :: ls) st S I J R Q) : Ex j pc (x0 :: x1 :: x2 :: x3 :: x4 :: some (.int x) :: ls) st S I J R Q := by
  obtain ⟨len, he, rfl⟩ := he
  subst hd
  exact Ex.pure he rfl rfl (by simp [amPure, amSt, hcl]) k
theorem LI6 {x0 x1 x2 x3 x4 x5 : Option Value} {x : Int32} (he : amT j pc pc' (.iload 6) op) (k : Ex j pc' (x0 :: x1 :: x2 :: x3 :: x4 :: x5 :: some (.int x) :: ls) (.int x :: st) S I J R Q) : Ex j pc (x0 :: x1 :: x2 :: x3 :: x4 :: x5 :: some (.int x) :: ls) st S I J R Q := by
  obtain ⟨len, he, rfl⟩ := he
  exact Ex.pure he rfl rfl rfl k
theorem LJ6 {x0 x1 x2 x3 x4 x5 : Option Value} {x : Int64} (he : amT j pc pc' (.lload 6) op) (k : Ex j pc' (x0 :: x1 :: x2 :: x3 :: x4 :: x5 :: some (.long x) :: ls) (.long x :: st) S I J R Q) : Ex j pc (x0 :: x1 :: x2 :: x3 :: x4 :: x5 :: some (.long x) :: ls) st S I J R Q := by
  obtain ⟨len, he, rfl⟩ := he
  exact Ex.pure he rfl rfl rfl k
theorem LA6 {x0 x1 x2 x3 x4 x5 : Option Value} {x : Nat} (he : amT j pc pc' (.aload 6) op) (k : Ex j pc' (x0 :: x1 :: x2 :: x3 :: x4 :: x5 :: some (.ref x) :: ls) (.ref x :: st) S I J R Q) : Ex j pc (x0 :: x1 :: x2 :: x3 :: x4 :: x5 :: some (.ref x) :: ls) st S I J R Q := by
  obtain ⟨len, he, rfl⟩ := he
  exact Ex.pure he rfl rfl rfl k
theorem LN6 {x0 x1 x2 x3 x4 x5 : Option Value} (he : amT j pc pc' (.aload 6) op) (k : Ex j pc' (x0 :: x1 :: x2 :: x3 :: x4 :: x5 :: some .null :: ls) (.null :: st) S I J R Q) : Ex j pc (x0 :: x1 :: x2 :: x3 :: x4 :: x5 :: some .null :: ls) st S I J R Q := by
  obtain ⟨len, he, rfl⟩ := he
  exact Ex.pure he rfl rfl rfl k
theorem SI6 {x0 x1 x2 x3 x4 x5 : Option Value} {y : Option Value} {x : Int32} (he : amT j pc pc' (.istore 6) op) (hcl : amClr x5 = x5) (k : Ex j pc' (x0 :: x1 :: x2 :: x3 :: x4 :: x5 :: some (.int x) :: ls) st S I J R Q) : Ex j pc (x0 :: x1 :: x2 :: x3 :: x4 :: x5 :: y :: ls) (.int x :: st) S I J R Q := by
  obtain ⟨len, he, rfl⟩ := he
  exact Ex.pure he rfl rfl (by simp [amPure, amSt, hcl]) k
theorem SA6 {x0 x1 x2 x3 x4 x5 : Option Value} {y : Option Value} {x : Nat} (he : amT j pc pc' (.astore 6) op) (hcl : amClr x5 = x5) (k : Ex j pc' (x0 :: x1 :: x2 :: x3 :: x4 :: x5 :: some (.ref x) :: ls) st S I J R Q) : Ex j pc (x0 :: x1 :: x2 :: x3 :: x4 :: x5 :: y :: ls) (.ref x :: st) S I J R Q := by
  obtain ⟨len, he, rfl⟩ := he
  exact Ex.pure he rfl rfl (by simp [amPure, amSt, hcl]) k
theorem SN6 {x0 x1 x2 x3 x4 x5 : Option Value} {y : Option Value} (he : amT j pc pc' (.astore 6) op) (hcl : amClr x5 = x5) (k : Ex j pc' (x0 :: x1 :: x2 :: x3 :: x4 :: x5 :: some .null :: ls) st S I J R Q) : Ex j pc (x0 :: x1 :: x2 :: x3 :: x4 :: x5 :: y :: ls) (.null :: st) S I J R Q := by
  obtain ⟨len, he, rfl⟩ := he
  exact Ex.pure he rfl rfl (by simp [amPure, amSt, hcl]) k
theorem SJ6 {x0 x1 x2 x3 x4 x5 : Option Value} {y z : Option Value} {x : Int64} (he : amT j pc pc' (.lstore 6) op) (hcl : amClr x5 = x5) (k : Ex j pc' (x0 :: x1 :: x2 :: x3 :: x4 :: x5 :: some (.long x) :: none :: ls) st S I J R Q) : Ex j pc (x0 :: x1 :: x2 :: x3 :: x4 :: x5 :: y :: z :: ls) (.long x :: st) S I J R Q := by
  obtain ⟨len, he, rfl⟩ := he
  exact Ex.pure he rfl rfl (by simp [amPure, amSt2, hcl]) k
theorem SId6 {x0 x1 x2 x3 x4 : Option Value} {y : Option Value} {q : Int64} {x : Int32} (he : amT j pc pc' (.istore 6) op) (k : Ex j pc' (x0 :: x1 :: x2 :: x3 :: x4 :: none :: some (.int x) :: ls) st S I J R Q) : Ex j pc (x0 :: x1 :: x2 :: x3 :: x4 :: some (.long q) :: y :: ls) (.int x :: st) S I J R Q := by
  obtain ⟨len, he, rfl⟩ := he
  exact Ex.pure he rfl rfl (by simp [amPure, amSt, amClr]) k
theorem SAd6 {x0 x1 x2 x3 x4 : Option Value} {y : Option Value} {q : Int64} {x : Nat} (he : amT j pc pc' (.astore 6) op) (k : Ex j pc' (x0 :: x1 :: x2 :: x3 :: x4 :: none :: some (.ref x) :: ls) st S I J R Q) : Ex j pc (x0 :: x1 :: x2 :: x3 :: x4 :: some (.long q) :: y :: ls) (.ref x :: st) S I J R Q := by
  obtain ⟨len, he, rfl⟩ := he
  exact Ex.pure he rfl rfl (by simp [amPure, amSt, amClr]) k
theorem Inc6 {x0 x1 x2 x3 x4 x5 : Option Value} {x : Int32} {n : Int} {d : Int32} (he : amT j pc pc' (.iinc 6 n) op) (hd : Int32.ofInt n = d) (hcl : amClr x5 = x5) (k : Ex j pc' (x0 :: x1 :: x2 :: x3 :: x4 :: x5 :: some (.int (x + d)) :: ls) st S I J R Q) : Ex j pc (x0 :: x1 :: x2 :: x3 :: x4 :: x5 :: some (.int x) :: ls) st S I J R Q := by
  obtain ⟨len, he, rfl⟩ := he
  subst hd
  exact Ex.pure he rfl rfl (by simp [amPure, amSt, hcl]) k
theorem LI7 {x0 x1 x2 x3 x4 x5 x6 : Option Value} {x : Int32} (he : amT j pc pc' (.iload 7) op) (k : Ex j pc' (x0 :: x1 :: x2 :: x3 :: x4 :: x5 :: x6 :: some (.int x) :: ls) (.int x :: st) S I J R Q) : Ex j pc (x0 :: x1 :: x2 :: x3 :: x4 :: x5 :: x6 :: some (.int x) :: ls) st S I J R Q := by
  obtain ⟨len, he, rfl⟩ := he
  exact Ex.pure he rfl rfl rfl k
theorem LJ7 {x0 x1 x2 x3 x4 x5 x6 : Option Value} {x : Int64} (he : amT j pc pc' (.lload 7) op) (k : Ex j pc' (x0 :: x1 :: x2 :: x3 :: x4 :: x5 :: x6 :: some (.long x) :: ls) (.long x :: st) S I J R Q) : Ex j pc (x0 :: x1 :: x2 :: x3 :: x4 :: x5 :: x6 :: some (.long x) :: ls) st S I J R Q := by
  obtain ⟨len, he, rfl⟩ := he
  exact Ex.pure he rfl rfl rfl k
theorem LA7 {x0 x1 x2 x3 x4 x5 x6 : Option Value} {x : Nat} (he : amT j pc pc' (.aload 7) op) (k : Ex j pc' (x0 :: x1 :: x2 :: x3 :: x4 :: x5 :: x6 :: some (.ref x) :: ls) (.ref x :: st) S I J R Q) : Ex j pc (x0 :: x1 :: x2 :: x3 :: x4 :: x5 :: x6 :: some (.ref x) :: ls) st S I J R Q := by
  obtain ⟨len, he, rfl⟩ := he
  exact Ex.pure he rfl rfl rfl k
theorem LN7 {x0 x1 x2 x3 x4 x5 x6 : Option Value} (he : amT j pc pc' (.aload 7) op) (k : Ex j pc' (x0 :: x1 :: x2 :: x3 :: x4 :: x5 :: x6 :: some .null :: ls) (.null :: st) S I J R Q) : Ex j pc (x0 :: x1 :: x2 :: x3 :: x4 :: x5 :: x6 :: some .null :: ls) st S I J R Q := by
  obtain ⟨len, he, rfl⟩ := he
  exact Ex.pure he rfl rfl rfl k
theorem SI7 {x0 x1 x2 x3 x4 x5 x6 : Option Value} {y : Option Value} {x : Int32} (he : amT j pc pc' (.istore 7) op) (hcl : amClr x6 = x6) (k : Ex j pc' (x0 :: x1 :: x2 :: x3 :: x4 :: x5 :: x6 :: some (.int x) :: ls) st S I J R Q) : Ex j pc (x0 :: x1 :: x2 :: x3 :: x4 :: x5 :: x6 :: y :: ls) (.int x :: st) S I J R Q := by
  obtain ⟨len, he, rfl⟩ := he
  exact Ex.pure he rfl rfl (by simp [amPure, amSt, hcl]) k
theorem SA7 {x0 x1 x2 x3 x4 x5 x6 : Option Value} {y : Option Value} {x : Nat} (he : amT j pc pc' (.astore 7) op) (hcl : amClr x6 = x6) (k : Ex j pc' (x0 :: x1 :: x2 :: x3 :: x4 :: x5 :: x6 :: some (.ref x) :: ls) st S I J R Q) : Ex j pc (x0 :: x1 :: x2 :: x3 :: x4 :: x5 :: x6 :: y :: ls) (.ref x :: st) S I J R Q := by
  obtain ⟨len, he, rfl⟩ := he
  exact Ex.pure he rfl rfl (by simp [amPure, amSt, hcl]) k
theorem SN7 {x0 x1 x2 x3 x4 x5 x6 : Option Value} {y : Option Value} (he : amT j pc pc' (.astore 7) op) (hcl : amClr x6 = x6) (k : Ex j pc' (x0 :: x1 :: x2 :: x3 :: x4 :: x5 :: x6 :: some .null :: ls) st S I J R Q) : Ex j pc (x0 :: x1 :: x2 :: x3 :: x4 :: x5 :: x6 :: y :: ls) (.null :: st) S I J R Q := by
  obtain ⟨len, he, rfl⟩ := he
  exact Ex.pure he rfl rfl (by simp [amPure, amSt, hcl]) k
theorem SJ7 {x0 x1 x2 x3 x4 x5 x6 : Option Value} {y z : Option Value} {x : Int64} (he : amT j pc pc' (.lstore 7) op) (hcl : amClr x6 = x6) (k : Ex j pc' (x0 :: x1 :: x2 :: x3 :: x4 :: x5 :: x6 :: some (.long x) :: none :: ls) st S I J R Q) : Ex j pc (x0 :: x1 :: x2 :: x3 :: x4 :: x5 :: x6 :: y :: z :: ls) (.long x :: st) S I J R Q := by
  obtain ⟨len, he, rfl⟩ := he
  exact Ex.pure he rfl rfl (by simp [amPure, amSt2, hcl]) k
theorem SId7 {x0 x1 x2 x3 x4 x5 : Option Value} {y : Option Value} {q : Int64} {x : Int32} (he : amT j pc pc' (.istore 7) op) (k : Ex j pc' (x0 :: x1 :: x2 :: x3 :: x4 :: x5 :: none :: some (.int x) :: ls) st S I J R Q) : Ex j pc (x0 :: x1 :: x2 :: x3 :: x4 :: x5 :: some (.long q) :: y :: ls) (.int x :: st) S I J R Q := by
  obtain ⟨len, he, rfl⟩ := he
  exact Ex.pure he rfl rfl (by simp [amPure, amSt, amClr]) k
theorem SAd7 {x0 x1 x2 x3 x4 x5 : Option Value} {y : Option Value} {q : Int64} {x : Nat} (he : amT j pc pc' (.astore 7) op) (k : Ex j pc' (x0 :: x1 :: x2 :: x3 :: x4 :: x5 :: none :: some (.ref x) :: ls) st S I J R Q) : Ex j pc (x0 :: x1 :: x2 :: x3 :: x4 :: x5 :: some (.long q) :: y :: ls) (.ref x :: st) S I J R Q := by
  obtain ⟨len, he, rfl⟩ := he
  exact Ex.pure he rfl rfl (by simp [amPure, amSt, amClr]) k
theorem Inc7 {x0 x1 x2 x3 x4 x5 x6 : Option Value} {x : Int32} {n : Int} {d : Int32} (he : amT j pc pc' (.iinc 7 n) op) (hd : Int32.ofInt n = d) (hcl : amClr x6 = x6) (k : Ex j pc' (x0 :: x1 :: x2 :: x3 :: x4 :: x5 :: x6 :: some (.int (x + d)) :: ls) st S I J R Q) : Ex j pc (x0 :: x1 :: x2 :: x3 :: x4 :: x5 :: x6 :: some (.int x) :: ls) st S I J R Q := by
  obtain ⟨len, he, rfl⟩ := he
  subst hd
  exact Ex.pure he rfl rfl (by simp [amPure, amSt, hcl]) k
theorem LI8 {x0 x1 x2 x3 x4 x5 x6 x7 : Option Value} {x : Int32} (he : amT j pc pc' (.iload 8) op) (k : Ex j pc' (x0 :: x1 :: x2 :: x3 :: x4 :: x5 :: x6 :: x7 :: some (.int x) :: ls) (.int x :: st) S I J R Q) : Ex j pc (x0 :: x1 :: x2 :: x3 :: x4 :: x5 :: x6 :: x7 :: some (.int x) :: ls) st S I J R Q := by
  obtain ⟨len, he, rfl⟩ := he
  exact Ex.pure he rfl rfl rfl k
theorem LJ8 {x0 x1 x2 x3 x4 x5 x6 x7 : Option Value} {x : Int64} (he : amT j pc pc' (.lload 8) op) (k : Ex j pc' (x0 :: x1 :: x2 :: x3 :: x4 :: x5 :: x6 :: x7 :: some (.long x) :: ls) (.long x :: st) S I J R Q) : Ex j pc (x0 :: x1 :: x2 :: x3 :: x4 :: x5 :: x6 :: x7 :: some (.long x) :: ls) st S I J R Q := by
  obtain ⟨len, he, rfl⟩ := he
  exact Ex.pure he rfl rfl rfl k
theorem LA8 {x0 x1 x2 x3 x4 x5 x6 x7 : Option Value} {x : Nat} (he : amT j pc pc' (.aload 8) op) (k : Ex j pc' (x0 :: x1 :: x2 :: x3 :: x4 :: x5 :: x6 :: x7 :: some (.ref x) :: ls) (.ref x :: st) S I J R Q) : Ex j pc (x0 :: x1 :: x2 :: x3 :: x4 :: x5 :: x6 :: x7 :: some (.ref x) :: ls) st S I J R Q := by
  obtain ⟨len, he, rfl⟩ := he
  exact Ex.pure he rfl rfl rfl k
theorem LN8 {x0 x1 x2 x3 x4 x5 x6 x7 : Option Value} (he : amT j pc pc' (.aload 8) op) (k : Ex j pc' (x0 :: x1 :: x2 :: x3 :: x4 :: x5 :: x6 :: x7 :: some .null :: ls) (.null :: st) S I J R Q) : Ex j pc (x0 :: x1 :: x2 :: x3 :: x4 :: x5 :: x6 :: x7 :: some .null :: ls) st S I J R Q := by
  obtain ⟨len, he, rfl⟩ := he
  exact Ex.pure he rfl rfl rfl k
theorem SI8 {x0 x1 x2 x3 x4 x5 x6 x7 : Option Value} {y : Option Value} {x : Int32} (he : amT j pc pc' (.istore 8) op) (hcl : amClr x7 = x7) (k : Ex j pc' (x0 :: x1 :: x2 :: x3 :: x4 :: x5 :: x6 :: x7 :: some (.int x) :: ls) st S I J R Q) : Ex j pc (x0 :: x1 :: x2 :: x3 :: x4 :: x5 :: x6 :: x7 :: y :: ls) (.int x :: st) S I J R Q := by
  obtain ⟨len, he, rfl⟩ := he
  exact Ex.pure he rfl rfl (by simp [amPure, amSt, hcl]) k
theorem SA8 {x0 x1 x2 x3 x4 x5 x6 x7 : Option Value} {y : Option Value} {x : Nat} (he : amT j pc pc' (.astore 8) op) (hcl : amClr x7 = x7) (k : Ex j pc' (x0 :: x1 :: x2 :: x3 :: x4 :: x5 :: x6 :: x7 :: some (.ref x) :: ls) st S I J R Q) : Ex j pc (x0 :: x1 :: x2 :: x3 :: x4 :: x5 :: x6 :: x7 :: y :: ls) (.ref x :: st) S I J R Q := by
  obtain ⟨len, he, rfl⟩ := he
  exact Ex.pure he rfl rfl (by simp [amPure, amSt, hcl]) k
theorem SN8 {x0 x1 x2 x3 x4 x5 x6 x7 : Option Value} {y : Option Value} (he : amT j pc pc' (.astore 8) op) (hcl : amClr x7 = x7) (k : Ex j pc' (x0 :: x1 :: x2 :: x3 :: x4 :: x5 :: x6 :: x7 :: some .null :: ls) st S I J R Q) : Ex j pc (x0 :: x1 :: x2 :: x3 :: x4 :: x5 :: x6 :: x7 :: y :: ls) (.null :: st) S I J R Q := by
  obtain ⟨len, he, rfl⟩ := he
  exact Ex.pure he rfl rfl (by simp [amPure, amSt, hcl]) k
theorem SJ8 {x0 x1 x2 x3 x4 x5 x6 x7 : Option Value} {y z : Option Value} {x : Int64} (he : amT j pc pc' (.lstore 8) op) (hcl : amClr x7 = x7) (k : Ex j pc' (x0 :: x1 :: x2 :: x3 :: x4 :: x5 :: x6 :: x7 :: some (.long x) :: none :: ls) st S I J R Q) : Ex j pc (x0 :: x1 :: x2 :: x3 :: x4 :: x5 :: x6 :: x7 :: y :: z :: ls) (.long x :: st) S I J R Q := by
  obtain ⟨len, he, rfl⟩ := he
  exact Ex.pure he rfl rfl (by simp [amPure, amSt2, hcl]) k
theorem SId8 {x0 x1 x2 x3 x4 x5 x6 : Option Value} {y : Option Value} {q : Int64} {x : Int32} (he : amT j pc pc' (.istore 8) op) (k : Ex j pc' (x0 :: x1 :: x2 :: x3 :: x4 :: x5 :: x6 :: none :: some (.int x) :: ls) st S I J R Q) : Ex j pc (x0 :: x1 :: x2 :: x3 :: x4 :: x5 :: x6 :: some (.long q) :: y :: ls) (.int x :: st) S I J R Q := by
  obtain ⟨len, he, rfl⟩ := he
  exact Ex.pure he rfl rfl (by simp [amPure, amSt, amClr]) k
theorem SAd8 {x0 x1 x2 x3 x4 x5 x6 : Option Value} {y : Option Value} {q : Int64} {x : Nat} (he : amT j pc pc' (.astore 8) op) (k : Ex j pc' (x0 :: x1 :: x2 :: x3 :: x4 :: x5 :: x6 :: none :: some (.ref x) :: ls) st S I J R Q) : Ex j pc (x0 :: x1 :: x2 :: x3 :: x4 :: x5 :: x6 :: some (.long q) :: y :: ls) (.ref x :: st) S I J R Q := by
  obtain ⟨len, he, rfl⟩ := he
  exact Ex.pure he rfl rfl (by simp [amPure, amSt, amClr]) k
theorem Inc8 {x0 x1 x2 x3 x4 x5 x6 x7 : Option Value} {x : Int32} {n : Int} {d : Int32} (he : amT j pc pc' (.iinc 8 n) op) (hd : Int32.ofInt n = d) (hcl : amClr x7 = x7) (k : Ex j pc' (x0 :: x1 :: x2 :: x3 :: x4 :: x5 :: x6 :: x7 :: some (.int (x + d)) :: ls) st S I J R Q) : Ex j pc (x0 :: x1 :: x2 :: x3 :: x4 :: x5 :: x6 :: x7 :: some (.int x) :: ls) st S I J R Q := by
  obtain ⟨len, he, rfl⟩ := he
  subst hd
  exact Ex.pure he rfl rfl (by simp [amPure, amSt, hcl]) k
theorem LI9 {x0 x1 x2 x3 x4 x5 x6 x7 x8 : Option Value} {x : Int32} (he : amT j pc pc' (.iload 9) op) (k : Ex j pc' (x0 :: x1 :: x2 :: x3 :: x4 :: x5 :: x6 :: x7 :: x8 :: some (.int x) :: ls) (.int x :: st) S I J R Q) : Ex j pc (x0 :: x1 :: x2 :: x3 :: x4 :: x5 :: x6 :: x7 :: x8 :: some (.int x) :: ls) st S I J R Q := by
  obtain ⟨len, he, rfl⟩ := he
  exact Ex.pure he rfl rfl rfl k
theorem LJ9 {x0 x1 x2 x3 x4 x5 x6 x7 x8 : Option Value} {x : Int64} (he : amT j pc pc' (.lload 9) op) (k : Ex j pc' (x0 :: x1 :: x2 :: x3 :: x4 :: x5 :: x6 :: x7 :: x8 :: some (.long x) :: ls) (.long x :: st) S I J R Q) : Ex j pc (x0 :: x1 :: x2 :: x3 :: x4 :: x5 :: x6 :: x7 :: x8 :: some (.long x) :: ls) st S I J R Q := by
  obtain ⟨len, he, rfl⟩ := he
  exact Ex.pure he rfl rfl rfl k
theorem LA9 {x0 x1 x2 x3 x4 x5 x6 x7 x8 : Option Value} {x : Nat} (he : amT j pc pc' (.aload 9) op) (k : Ex j pc' (x0 :: x1 :: x2 :: x3 :: x4 :: x5 :: x6 :: x7 :: x8 :: some (.ref x) :: ls) (.ref x :: st) S I J R Q) : Ex j pc (x0 :: x1 :: x2 :: x3 :: x4 :: x5 :: x6 :: x7 :: x8 :: some (.ref x) :: ls) st S I J R Q := by
  obtain ⟨len, he, rfl⟩ := he
  exact Ex.pure he rfl rfl rfl k
theorem LN9 {x0 x1 x2 x3 x4 x5 x6 x7 x8 : Option Value} (he : amT j pc pc' (.aload 9) op) (k : Ex j pc' (x0 :: x1 :: x2 :: x3 :: x4 :: x5 :: x6 :: x7 :: x8 :: some .null :: ls) (.null :: st) S I J R Q) : Ex j pc (x0 :: x1 :: x2 :: x3 :: x4 :: x5 :: x6 :: x7 :: x8 :: some .null :: ls) st S I J R Q := by
  obtain ⟨len, he, rfl⟩ := he
  exact Ex.pure he rfl rfl rfl k
theorem SI9 {x0 x1 x2 x3 x4 x5 x6 x7 x8 : Option Value} {y : Option Value} {x : Int32} (he : amT j pc pc' (.istore 9) op) (hcl : amClr x8 = x8) (k : Ex j pc' (x0 :: x1 :: x2 :: x3 :: x4 :: x5 :: x6 :: x7 :: x8 :: some (.int x) :: ls) st S I J R Q) : Ex j pc (x0 :: x1 :: x2 :: x3 :: x4 :: x5 :: x6 :: x7 :: x8 :: y :: ls) (.int x :: st) S I J R Q := by
  obtain ⟨len, he, rfl⟩ := he
  exact Ex.pure he rfl rfl (by simp [amPure, amSt, hcl]) k
theorem SA9 {x0 x1 x2 x3 x4 x5 x6 x7 x8 : Option Value} {y : Option Value} {x : Nat} (he : amT j pc pc' (.astore 9) op) (hcl : amClr x8 = x8) (k : Ex j pc' (x0 :: x1 :: x2 :: x3 :: x4 :: x5 :: x6 :: x7 :: x8 :: some (.ref x) :: ls) st S I J R Q) : Ex j pc (x0 :: x1 :: x2 :: x3 :: x4 :: x5 :: x6 :: x7 :: x8 :: y :: ls) (.ref x :: st) S I J R Q := by
  obtain ⟨len, he, rfl⟩ := he
  exact Ex.pure he rfl rfl (by simp [amPure, amSt, hcl]) k
theorem SN9 {x0 x1 x2 x3 x4 x5 x6 x7 x8 : Option Value} {y : Option Value} (he : amT j pc pc' (.astore 9) op) (hcl : amClr x8 = x8) (k : Ex j pc' (x0 :: x1 :: x2 :: x3 :: x4 :: x5 :: x6 :: x7 :: x8 :: some .null :: ls) st S I J R Q) : Ex j pc (x0 :: x1 :: x2 :: x3 :: x4 :: x5 :: x6 :: x7 :: x8 :: y :: ls) (.null :: st) S I J R Q := by
  obtain ⟨len, he, rfl⟩ := he
  exact Ex.pure he rfl rfl (by simp [amPure, amSt, hcl]) k
theorem SJ9 {x0 x1 x2 x3 x4 x5 x6 x7 x8 : Option Value} {y z : Option Value} {x : Int64} (he : amT j pc pc' (.lstore 9) op) (hcl : amClr x8 = x8) (k : Ex j pc' (x0 :: x1 :: x2 :: x3 :: x4 :: x5 :: x6 :: x7 :: x8 :: some (.long x) :: none :: ls) st S I J R Q) : Ex j pc (x0 :: x1 :: x2 :: x3 :: x4 :: x5 :: x6 :: x7 :: x8 :: y :: z :: ls) (.long x :: st) S I J R Q := by
  obtain ⟨len, he, rfl⟩ := he
  exact Ex.pure he rfl rfl (by simp [amPure, amSt2, hcl]) k
theorem SId9 {x0 x1 x2 x3 x4 x5 x6 x7 : Option Value} {y : Option Value} {q : Int64} {x : Int32} (he : amT j pc pc' (.istore 9) op) (k : Ex j pc' (x0 :: x1 :: x2 :: x3 :: x4 :: x5 :: x6 :: x7 :: none :: some (.int x) :: ls) st S I J R Q) : Ex j pc (x0 :: x1 :: x2 :: x3 :: x4 :: x5 :: x6 :: x7 :: some (.long q) :: y :: ls) (.int x :: st) S I J R Q := by
  obtain ⟨len, he, rfl⟩ := he
  exact Ex.pure he rfl rfl (by simp [amPure, amSt, amClr]) k
theorem SAd9 {x0 x1 x2 x3 x4 x5 x6 x7 : Option Value} {y : Option Value} {q : Int64} {x : Nat} (he : amT j pc pc' (.astore 9) op) (k : Ex j pc' (x0 :: x1 :: x2 :: x3 :: x4 :: x5 :: x6 :: x7 :: none :: some (.ref x) :: ls) st S I J R Q) : Ex j pc (x0 :: x1 :: x2 :: x3 :: x4 :: x5 :: x6 :: x7 :: some (.long q) :: y :: ls) (.ref x :: st) S I J R Q := by
  obtain ⟨len, he, rfl⟩ := he
  exact Ex.pure he rfl rfl (by simp [amPure, amSt, amClr]) k
theorem Inc9 {x0 x1 x2 x3 x4 x5 x6 x7 x8 : Option Value} {x : Int32} {n : Int} {d : Int32} (he : amT j pc pc' (.iinc 9 n) op) (hd : Int32.ofInt n = d) (hcl : amClr x8 = x8) (k : Ex j pc' (x0 :: x1 :: x2 :: x3 :: x4 :: x5 :: x6 :: x7 :: x8 :: some (.int (x + d)) :: ls) st S I J R Q) : Ex j pc (x0 :: x1 :: x2 :: x3 :: x4 :: x5 :: x6 :: x7 :: x8 :: some (.int x) :: ls) st S I J R Q := by
  obtain ⟨len, he, rfl⟩ := he
  subst hd
  exact Ex.pure he rfl rfl (by simp [amPure, amSt, hcl]) k
theorem LI10 {x0 x1 x2 x3 x4 x5 x6 x7 x8 x9 : Option Value} {x : Int32} (he : amT j pc pc' (.iload 10) op) (k : Ex j pc' (x0 :: x1 :: x2 :: x3 :: x4 :: x5 :: x6 :: x7 :: x8 :: x9 :: some (.int x) :: ls) (.int x :: st) S I J R Q) : Ex j pc (x0 :: x1 :: x2 :: x3 :: x4 :: x5 :: x6 :: x7 :: x8 :: x9 :: some (.int x) :: ls) st S I J R Q := by
  obtain ⟨len, he, rfl⟩ := he
  exact Ex.pure he rfl rfl rfl k
theorem LJ10 {x0 x1 x2 x3 x4 x5 x6 x7 x8 x9 : Option Value} {x : Int64} (he : amT j pc pc' (.lload 10) op) (k : Ex j pc' (x0 :: x1 :: x2 :: x3 :: x4 :: x5 :: x6 :: x7 :: x8 :: x9 :: some (.long x) :: ls) (.long x :: st) S I J R Q) : Ex j pc (x0 :: x1 :: x2 :: x3 :: x4 :: x5 :: x6 :: x7 :: x8 :: x9 :: some (.long x) :: ls) st S I J R Q := by
  obtain ⟨len, he, rfl⟩ := he
  exact Ex.pure he rfl rfl rfl k
theorem LA10 {x0 x1 x2 x3 x4 x5 x6 x7 x8 x9 : Option Value} {x : Nat} (he : amT j pc pc' (.aload 10) op) (k : Ex j pc' (x0 :: x1 :: x2 :: x3 :: x4 :: x5 :: x6 :: x7 :: x8 :: x9 :: some (.ref x) :: ls) (.ref x :: st) S I J R Q) : Ex j pc (x0 :: x1 :: x2 :: x3 :: x4 :: x5 :: x6 :: x7 :: x8 :: x9 :: some (.ref x) :: ls) st S I J R Q := by
  obtain ⟨len, he, rfl⟩ := he
  exact Ex.pure he rfl rfl rfl k
theorem LN10 {x0 x1 x2 x3 x4 x5 x6 x7 x8 x9 : Option Value} (he : amT j pc pc' (.aload 10) op) (k : Ex j pc' (x0 :: x1 :: x2 :: x3 :: x4 :: x5 :: x6 :: x7 :: x8 :: x9 :: some .null :: ls) (.null :: st) S I J R Q) : Ex j pc (x0 :: x1 :: x2 :: x3 :: x4 :: x5 :: x6 :: x7 :: x8 :: x9 :: some .null :: ls) st S I J R Q := by
  obtain ⟨len, he, rfl⟩ := he
  exact Ex.pure he rfl rfl rfl k
theorem SI10 {x0 x1 x2 x3 x4 x5 x6 x7 x8 x9 : Option Value} {y : Option Value} {x : Int32} (he : amT j pc pc' (.istore 10) op) (hcl : amClr x9 = x9) (k : Ex j pc' (x0 :: x1 :: x2 :: x3 :: x4 :: x5 :: x6 :: x7 :: x8 :: x9 :: some (.int x) :: ls) st S I J R Q) : Ex j pc (x0 :: x1 :: x2 :: x3 :: x4 :: x5 :: x6 :: x7 :: x8 :: x9 :: y :: ls) (.int x :: st) S I J R Q := by
  obtain ⟨len, he, rfl⟩ := he
  exact Ex.pure he rfl rfl (by simp [amPure, amSt, hcl]) k
theorem SA10 {x0 x1 x2 x3 x4 x5 x6 x7 x8 x9 : Option Value} {y : Option Value} {x : Nat} (he : amT j pc pc' (.astore 10) op) (hcl : amClr x9 = x9) (k : Ex j pc' (x0 :: x1 :: x2 :: x3 :: x4 :: x5 :: x6 :: x7 :: x8 :: x9 :: some (.ref x) :: ls) st S I J R Q) : Ex j pc (x0 :: x1 :: x2 :: x3 :: x4 :: x5 :: x6 :: x7 :: x8 :: x9 :: y :: ls) (.ref x :: st) S I J R Q := by
  obtain ⟨len, he, rfl⟩ := he
  exact Ex.pure he rfl rfl (by simp [amPure, amSt, hcl]) k
theorem SN10 {x0 x1 x2 x3 x4 x5 x6 x7 x8 x9 : Option Value} {y : Option Value} (he : amT j pc pc' (.astore 10) op) (hcl : amClr x9 = x9) (k : Ex j pc' (x0 :: x1 :: x2 :: x3 :: x4 :: x5 :: x6 :: x7 :: x8 :: x9 :: some .null :: ls) st S I J R Q) : Ex j pc (x0 :: x1 :: x2 :: x3 :: x4 :: x5 :: x6 :: x7 :: x8 :: x9 :: y :: ls) (.null :: st) S I J R Q := by
  obtain ⟨len, he, rfl⟩ := he
  exact Ex.pure he rfl rfl (by simp [amPure, amSt, hcl]) k
theorem SJ10 {x0 x1 x2 x3 x4 x5 x6 x7 x8 x9 : Option Value} {y z : Option Value} {x : Int64} (he : amT j pc pc' (.lstore 10) op) (hcl : amClr x9 = x9) (k : Ex j pc' (x0 :: x1 :: x2 :: x3 :: x4 :: x5 :: x6 :: x7 :: x8 :: x9 :: some (.long x) :: none :: ls) st S I J R Q) : Ex j pc (x0 :: x1 :: x2 :: x3 :: x4 :: x5 :: x6 :: x7 :: x8 :: x9 :: y :: z :: ls) (.long x :: st) S I J R Q := by
  obtain ⟨len, he, rfl⟩ := he
  exact Ex.pure he rfl rfl (by simp [amPure, amSt2, hcl]) k
theorem SId10 {x0 x1 x2 x3 x4 x5 x6 x7 x8 : Option Value} {y : Option Value} {q : Int64} {x : Int32} (he : amT j pc pc' (.istore 10) op) (k : Ex j pc' (x0 :: x1 :: x2 :: x3 :: x4 :: x5 :: x6 :: x7 :: x8 :: none :: some (.int x) :: ls) st S I J R Q) : Ex j pc (x0 :: x1 :: x2 :: x3 :: x4 :: x5 :: x6 :: x7 :: x8 :: some (.long q) :: y :: ls) (.int x :: st) S I J R Q := by
  obtain ⟨len, he, rfl⟩ := he
  exact Ex.pure he rfl rfl (by simp [amPure, amSt, amClr]) k
theorem SAd10 {x0 x1 x2 x3 x4 x5 x6 x7 x8 : Option Value} {y : Option Value} {q : Int64} {x : Nat} (he : amT j pc pc' (.astore 10) op) (k : Ex j pc' (x0 :: x1 :: x2 :: x3 :: x4 :: x5 :: x6 :: x7 :: x8 :: none :: some (.ref x) :: ls) st S I J R Q) : Ex j pc (x0 :: x1 :: x2 :: x3 :: x4 :: x5 :: x6 :: x7 :: x8 :: some (.long q) :: y :: ls) (.ref x :: st) S I J R Q := by
  obtain ⟨len, he, rfl⟩ := he
  exact Ex.pure he rfl rfl (by simp [amPure, amSt, amClr]) k
theorem Inc10 {x0 x1 x2 x3 x4 x5 x6 x7 x8 x9 : Option Value} {x : Int32} {n : Int} {d : Int32} (he : amT j pc pc' (.iinc 10 n) op) (hd : Int32.ofInt n = d) (hcl : amClr x9 = x9) (k : Ex j pc' (x0 :: x1 :: x2 :: x3 :: x4 :: x5 :: x6 :: x7 :: x8 :: x9 :: some (.int (x + d)) :: ls) st S I J R Q) : Ex j pc (x0 :: x1 :: x2 :: x3 :: x4 :: x5 :: x6 :: x7 :: x8 :: x9 :: some (.int x) :: ls) st S I J R Q := by
  obtain ⟨len, he, rfl⟩ := he
  subst hd
  exact Ex.pure he rfl rfl (by simp [amPure, amSt, hcl]) k
theorem LI11 {x0 x1 x2 x3 x4 x5 x6 x7 x8 x9 x10 : Option Value} {x : Int32} (he : amT j pc pc' (.iload 11) op) (k : Ex j pc' (x0 :: x1 :: x2 :: x3 :: x4 :: x5 :: x6 :: x7 :: x8 :: x9 :: x10 :: some (.int x) :: ls) (.int x :: st) S I J R Q) : Ex j pc (x0 :: x1 :: x2 :: x3 :: x4 :: x5 :: x6 :: x7 :: x8 :: x9 :: x10 :: some (.int x) :: ls) st S I J R Q := by
  obtain ⟨len, he, rfl⟩ := he
  exact Ex.pure he rfl rfl rfl k
theorem LJ11 {x0 x1 x2 x3 x4 x5 x6 x7 x8 x9 x10 : Option Value} {x : Int64} (he : amT j pc pc' (.lload 11) op) (k : Ex j pc' (x0 :: x1 :: x2 :: x3 :: x4 :: x5 :: x6 :: x7 :: x8 :: x9 :: x10 :: some (.long x) :: ls) (.long x :: st) S I J R Q) : Ex j pc (x0 :: x1 :: x2 :: x3 :: x4 :: x5 :: x6 :: x7 :: x8 :: x9 :: x10 :: some (.long x) :: ls) st S I J R Q := by
  obtain ⟨len, he, rfl⟩ := he
  exact Ex.pure he rfl rfl rfl k
theorem LA11 {x0 x1 x2 x3 x4 x5 x6 x7 x8 x9 x10 : Option Value} {x : Nat} (he : amT j pc pc' (.aload 11) op) (k : Ex j pc' (x0 :: x1 :: x2 :: x3 :: x4 :: x5 :: x6 :: x7 :: x8 :: x9 :: x10 :: some (.ref x) :: ls) (.ref x :: st) S I J R Q) : Ex j pc (x0 :: x1 :: x2 :: x3 :: x4 :: x5 :: x6 :: x7 :: x8 :: x9 :: x10 :: some (.ref x) :: ls) st S I J R Q := by
  obtain ⟨len, he, rfl⟩ := he
  exact Ex.pure he rfl rfl rfl k
theorem LN11 {x0 x1 x2 x3 x4 x5 x6 x7 x8 x9 x10 : Option Value} (he : amT j pc pc' (.aload 11) op) (k : Ex j pc' (x0 :: x1 :: x2 :: x3 :: x4 :: x5 :: x6 :: x7 :: x8 :: x9 :: x10 :: some .null :: ls) (.null :: st) S I J R Q) : Ex j pc (x0 :: x1 :: x2 :: x3 :: x4 :: x5 :: x6 :: x7 :: x8 :: x9 :: x10 :: some .null :: ls) st S I J R Q := by
  obtain ⟨len, he, rfl⟩ := he
  exact Ex.pure he rfl rfl rfl k
theorem SI11 {x0 x1 x2 x3 x4 x5 x6 x7 x8 x9 x10 : Option Value} {y : Option Value} {x : Int32} (he : amT j pc pc' (.istore 11) op) (hcl : amClr x10 = x10) (k : Ex j pc' (x0 :: x1 :: x2 :: x3 :: x4 :: x5 :: x6 :: x7 :: x8 :: x9 :: x10 :: some (.int x) :: ls) st S I J R Q) : Ex j pc (x0 :: x1 :: x2 :: x3 :: x4 :: x5 :: x6 :: x7 :: x8 :: x9 :: x10 :: y :: ls) (.int x :: st) S I J R Q := by
  obtain ⟨len, he, rfl⟩ := he
  exact Ex.pure he rfl rfl (by simp [amPure, amSt, hcl]) k
theorem SA11 {x0 x1 x2 x3 x4 x5 x6 x7 x8 x9 x10 : Option Value} {y : Option Value} {x : Nat} (he : amT j pc pc' (.astore 11) op) (hcl : amClr x10 = x10) (k : Ex j pc' (x0 :: x1 :: x2 :: x3 :: x4 :: x5 :: x6 :: x7 :: x8 :: x9 :: x10 :: some (.ref x) :: ls) st S I J R Q) : Ex j pc (x0 :: x1 :: x2 :: x3 :: x4 :: x5 :: x6 :: x7 :: x8 :: x9 :: x10 :: y :: ls) (.ref x :: st) S I J R Q := by
  obtain ⟨len, he, rfl⟩ := he
  exact Ex.pure he rfl rfl (by simp [amPure, amSt, hcl]) k
theorem SN11 {x0 x1 x2 x3 x4 x5 x6 x7 x8 x9 x10 : Option Value} {y : Option Value} (he : amT j pc pc' (.astore 11) op) (hcl : amClr x10 = x10) (k : Ex j pc' (x0 :: x1 :: x2 :: x3 :: x4 :: x5 :: x6 :: x7 :: x8 :: x9 :: x10 :: some .null :: ls) st S I J R Q) : Ex j pc (x0 :: x1 :: x2 :: x3 :: x4 :: x5 :: x6 :: x7 :: x8 :: x9 :: x10 :: y :: ls) (.null :: st) S I J R Q := by
  obtain ⟨len, he, rfl⟩ := he
  exact Ex.pure he rfl rfl (by simp [amPure, amSt, hcl]) k
theorem SJ11 {x0 x1 x2 x3 x4 x5 x6 x7 x8 x9 x10 : Option Value} {y z : Option Value} {x : Int64} (he : amT j pc pc' (.lstore 11) op) (hcl : amClr x10 = x10) (k : Ex j pc' (x0 :: x1 :: x2 :: x3 :: x4 :: x5 :: x6 :: x7 :: x8 :: x9 :: x10 :: some (.long x) :: none :: ls) st S I J R Q) : Ex j pc (x0 :: x1 :: x2 :: x3 :: x4 :: x5 :: x6 :: x7 :: x8 :: x9 :: x10 :: y :: z :: ls) (.long x :: st) S I J R Q := by
  obtain ⟨len, he, rfl⟩ := he
  exact Ex.pure he rfl rfl (by simp [amPure, amSt2, hcl]) k
theorem SId11 {x0 x1 x2 x3 x4 x5 x6 x7 x8 x9 : Option Value} {y : Option Value} {q : Int64} {x : Int32} (he : amT j pc pc' (.istore 11) op) (k : Ex j pc' (x0 :: x1 :: x2 :: x3 :: x4 :: x5 :: x6 :: x7 :: x8 :: x9 :: none :: some (.int x) :: ls) st S I J R Q) : Ex j pc (x0 :: x1 :: x2 :: x3 :: x4 :: x5 :: x6 :: x7 :: x8 :: x9 :: some (.long q) :: y :: ls) (.int x :: st) S I J R Q := by
  obtain ⟨len, he, rfl⟩ := he
  exact Ex.pure he rfl rfl (by simp [amPure, amSt, amClr]) k
theorem SAd11 {x0 x1 x2 x3 x4 x5 x6 x7 x8 x9 : Option Value} {y : Option Value} {q : Int64} {x : Nat} (he : amT j pc pc' (.astore 11) op) (k : Ex j pc' (x0 :: x1 :: x2 :: x3 :: x4 :: x5 :: x6 :: x7 :: x8 :: x9 :: none :: some (.ref x) :: ls) st S I J R Q) : Ex j pc (x0 :: x1 :: x2 :: x3 :: x4 :: x5 :: x6 :: x7 :: x8 :: x9 :: some (.long q) :: y :: ls) (.ref x :: st) S I J R Q := by
  obtain ⟨len, he, rfl⟩ := he
  exact Ex.pure he rfl rfl (by simp [amPure, amSt, amClr]) k
theorem Inc11 {x0 x1 x2 x3 x4 x5 x6 x7 x8 x9 x10 : Option Value} {x : Int32} {n : Int} {d : Int32} (he : amT j pc pc' (.iinc 11 n) op) (hd : Int32.ofInt n = d) (hcl : amClr x10 = x10) (k : Ex j pc' (x0 :: x1 :: x2 :: x3 :: x4 :: x5 :: x6 :: x7 :: x8 :: x9 :: x10 :: some (.int (x + d)) :: ls) st S I J R Q) : Ex j pc (x0 :: x1 :: x2 :: x3 :: x4 :: x5 :: x6 :: x7 :: x8 :: x9 :: x10 :: some (.int x) :: ls) st S I J R Q := by
  obtain ⟨len, he, rfl⟩ := he
  subst hd
  exact Ex.pure he rfl rfl (by simp [amPure, amSt, hcl]) k
theorem LI12 {x0 x1 x2 x3 x4 x5 x6 x7 x8 x9 x10 x11 : Option Value} {x : Int32} (he : amT j pc pc' (.iload 12) op) (k : Ex j pc' (x0 :: x1 :: x2 :: x3 :: x4 :: x5 :: x6 :: x7 :: x8 :: x9 :: x10 :: x11 :: some (.int x) :: ls) (.int x :: st) S I J R Q) : Ex j pc (x0 :: x1 :: x2 :: x3 :: x4 :: x5 :: x6 :: x7 :: x8 :: x9 :: x10 :: x11 :: some (.int x) :: ls) st S I J R Q := by
  obtain ⟨len, he, rfl⟩ := he
  exact Ex.pure he rfl rfl rfl k
theorem LJ12 {x0 x1 x2 x3 x4 x5 x6 x7 x8 x9 x10 x11 : Option Value} {x : Int64} (he : amT j pc pc' (.lload 12) op) (k : Ex j pc' (x0 :: x1 :: x2 :: x3 :: x4 :: x5 :: x6 :: x7 :: x8 :: x9 :: x10 :: x11 :: some (.long x) :: ls) (.long x :: st) S I J R Q) : Ex j pc (x0 :: x1 :: x2 :: x3 :: x4 :: x5 :: x6 :: x7 :: x8 :: x9 :: x10 :: x11 :: some (.long x) :: ls) st S I J R Q := by
  obtain ⟨len, he, rfl⟩ := he
  exact Ex.pure he rfl rfl rfl k
theorem LA12 {x0 x1 x2 x3 x4 x5 x6 x7 x8 x9 x10 x11 : Option Value} {x : Nat} (he : amT j pc pc' (.aload 12) op) (k : Ex j pc' (x0 :: x1 :: x2 :: x3 :: x4 :: x5 :: x6 :: x7 :: x8 :: x9 :: x10 :: x11 :: some (.ref x) :: ls) (.ref x :: st) S I J R Q) : Ex j pc (x0 :: x1 :: x2 :: x3 :: x4 :: x5 :: x6 :: x7 :: x8 :: x9 :: x10 :: x11 :: some (.ref x) :: ls) st S I J R Q := by
  obtain ⟨len, he, rfl⟩ := he
  exact Ex.pure he rfl rfl rfl k
theorem LN12 {x0 x1 x2 x3 x4 x5 x6 x7 x8 x9 x10 x11 : Option Value} (he : amT j pc pc' (.aload 12) op) (k : Ex j pc' (x0 :: x1 :: x2 :: x3 :: x4 :: x5 :: x6 :: x7 :: x8 :: x9 :: x10 :: x11 :: some .null :: ls) (.null :: st) S I J R Q) : Ex j pc (x0 :: x1 :: x2 :: x3 :: x4 :: x5 :: x6 :: x7 :: x8 :: x9 :: x10 :: x11 :: some .null :: ls) st S I J R Q := by
  obtain ⟨len, he, rfl⟩ := he
  exact Ex.pure he rfl rfl rfl k
theorem SI12 {x0 x1 x2 x3 x4 x5 x6 x7 x8 x9 x10 x11 : Option Value} {y : Option Value} {x : Int32} (he : amT j pc pc' (.istore 12) op) (hcl : amClr x11 = x11) (k : Ex j pc' (x0 :: x1 :: x2 :: x3 :: x4 :: x5 :: x6 :: x7 :: x8 :: x9 :: x10 :: x11 :: some (.int x) :: ls) st S I J R Q) : Ex j pc (x0 :: x1 :: x2 :: x3 :: x4 :: x5 :: x6 :: x7 :: x8 :: x9 :: x10 :: x11 :: y :: ls) (.int x :: st) S I J R Q := by
  obtain ⟨len, he, rfl⟩ := he
  exact Ex.pure he rfl rfl (by simp [amPure, amSt, hcl]) k
theorem SA12 {x0 x1 x2 x3 x4 x5 x6 x7 x8 x9 x10 x11 : Option Value} {y : Option Value} {x : Nat} (he : amT j pc pc' (.astore 12) op) (hcl : amClr x11 = x11) (k : Ex j pc' (x0 :: x1 :: x2 :: x3 :: x4 :: x5 :: x6 :: x7 :: x8 :: x9 :: x10 :: x11 :: some (.ref x) :: ls) st S I J R Q) : Ex j pc (x0 :: x1 :: x2 :: x3 :: x4 :: x5 :: x6 :: x7 :: x8 :: x9 :: x10 :: x11 :: y :: ls) (.ref x :: st) S I J R Q := by
  obtain ⟨len, he, rfl⟩ := he
  exact Ex.pure he rfl rfl (by simp [amPure, amSt, hcl]) k
theorem SN12 {x0 x1 x2 x3 x4 x5 x6 x7 x8 x9 x10 x11 : Option Value} {y : Option Value} (he : amT j pc pc' (.astore 12) op) (hcl : amClr x11 = x11) (k : Ex j pc' (x0 :: x1 :: x2 :: x3 :: x4 :: x5 :: x6 :: x7 :: x8 :: x9 :: x10 :: x11 :: some .null :: ls) st S I J R Q) : Ex j pc (x0 :: x1 :: x2 :: x3 :: x4 :: x5 :: x6 :: x7 :: x8 :: x9 :: x10 :: x11 :: y :: ls) (.null :: st) S I J R Q := by
  obtain ⟨len, he, rfl⟩ := he
  exact Ex.pure he rfl rfl (by simp [amPure, amSt, hcl]) k
theorem SJ12 {x0 x1 x2 x3 x4 x5 x6 x7 x8 x9 x10 x11 : Option Value} {y z : Option Value} {x : Int64} (he : amT j pc pc' (.lstore 12) op) (hcl : amClr x11 = x11) (k : Ex j pc' (x0 :: x1 :: x2 :: x3 :: x4 :: x5 :: x6 :: x7 :: x8 :: x9 :: x10 :: x11 :: some (.long x) :: none :: ls) st S I J R Q) : Ex j pc (x0 :: x1 :: x2 :: x3 :: x4 :: x5 :: x6 :: x7 :: x8 :: x9 :: x10 :: x11 :: y :: z :: ls) (.long x :: st) S I J R Q := by
  obtain ⟨len, he, rfl⟩ := he
  exact Ex.pure he rfl rfl (by simp [amPure, amSt2, hcl]) k
theorem SId12 {x0 x1 x2 x3 x4 x5 x6 x7 x8 x9 x10 : Option Value} {y : Option Value} {q : Int64} {x : Int32} (he : amT j pc pc' (.istore 12) op) (k : Ex j pc' (x0 :: x1 :: x2 :: x3 :: x4 :: x5 :: x6 :: x7 :: x8 :: x9 :: x10 :: none :: some (.int x) :: ls) st S I J R Q) : Ex j pc (x0 :: x1 :: x2 :: x3 :: x4 :: x5 :: x6 :: x7 :: x8 :: x9 :: x10 :: some (.long q) :: y :: ls) (.int x :: st) S I J R Q := by
  obtain ⟨len, he, rfl⟩ := he
  exact Ex.pure he rfl rfl (by simp [amPure, amSt, amClr]) k
theorem SAd12 {x0 x1 x2 x3 x4 x5 x6 x7 x8 x9 x10 : Option Value} {y : Option Value} {q : Int64} {x : Nat} (he : amT j pc pc' (.astore 12) op) (k : Ex j pc' (x0 :: x1 :: x2 :: x3 :: x4 :: x5 :: x6 :: x7 :: x8 :: x9 :: x10 :: none :: some (.ref x) :: ls) st S I J R Q) : Ex j pc (x0 :: x1 :: x2 :: x3 :: x4 :: x5 :: x6 :: x7 :: x8 :: x9 :: x10 :: some (.long q) :: y :: ls) (.ref x :: st) S I J R Q := by
  obtain ⟨len, he, rfl⟩ := he
  exact Ex.pure he rfl rfl (by simp [amPure, amSt, amClr]) k
theorem Inc12 {x0 x1 x2 x3 x4 x5 x6 x7 x8 x9 x10 x11 : Option Value} {x : Int32} {n : Int} {d : Int32} (he : amT j pc pc' (.iinc 12 n) op) (hd : Int32.ofInt n = d) (hcl : amClr x11 = x11) (k : Ex j pc' (x0 :: x1 :: x2 :: x3 :: x4 :: x5 :: x6 :: x7 :: x8 :: x9 :: x10 :: x11 :: some (.int (x + d)) :: ls) st S I J R Q) : Ex j pc (x0 :: x1 :: x2 :: x3 :: x4 :: x5 :: x6 :: x7 :: x8 :: x9 :: x10 :: x11 :: some (.int x) :: ls) st S I J R Q := by
  obtain ⟨len, he, rfl⟩ := he
  subst hd
  exact Ex.pure he rfl rfl (by simp [amPure, amSt, hcl]) k
theorem LI13 {x0 x1 x2 x3 x4 x5 x6 x7 x8 x9 x10 x11 x12 : Option Value} {x : Int32} (he : amT j pc pc' (.iload 13) op) (k : Ex j pc' (x0 :: x1 :: x2 :: x3 :: x4 :: x5 :: x6 :: x7 :: x8 :: x9 :: x10 :: x11 :: x12 :: some (.int x) :: ls) (.int x :: st) S I J R Q) : Ex j pc (x0 :: x1 :: x2 :: x3 :: x4 :: x5 :: x6 :: x7 :: x8 :: x9 :: x10 :: x11 :: x12 :: some (.int x) :: ls) st S I J R Q := by
  obtain ⟨len, he, rfl⟩ := he
  exact Ex.pure he rfl rfl rfl k
theorem LJ13 {x0 x1 x2 x3 x4 x5 x6 x7 x8 x9 x10 x11 x12 : Option Value} {x : Int64} (he : amT j pc pc' (.lload 13) op) (k : Ex j pc' (x0 :: x1 :: x2 :: x3 :: x4 :: x5 :: x6 :: x7 :: x8 :: x9 :: x10 :: x11 :: x12 :: some (.long x) :: ls) (.long x :: st) S I J R Q) : Ex j pc (x0 :: x1 :: x2 :: x3 :: x4 :: x5 :: x6 :: x7 :: x8 :: x9 :: x10 :: x11 :: x12 :: some (.long x) :: ls) st S I J R Q := by
  obtain ⟨len, he, rfl⟩ := he
  exact Ex.pure he rfl rfl rfl k
theorem LA13 {x0 x1 x2 x3 x4 x5 x6 x7 x8 x9 x10 x11 x12 : Option Value} {x : Nat} (he : amT j pc pc' (.aload 13) op) (k : Ex j pc' (x0 :: x1 :: x2 :: x3 :: x4 :: x5 :: x6 :: x7 :: x8 :: x9 :: x10 :: x11 :: x12 :: some (.ref x) :: ls) (.ref x :: st) S I J R Q) : Ex j pc (x0 :: x1 :: x2 :: x3 :: x4 :: x5 :: x6 :: x7 :: x8 :: x9 :: x10 :: x11 :: x12 :: some (.ref x) :: ls) st S I J R Q := by
  obtain ⟨len, he, rfl⟩ := he
  exact Ex.pure he rfl rfl rfl k
theorem LN13 {x0 x1 x2 x3 x4 x5 x6 x7 x8 x9 x10 x11 x12 : Option Value} (he : amT j pc pc' (.aload 13) op) (k : Ex j pc' (x0 :: x1 :: x2 :: x3 :: x4 :: x5 :: x6 :: x7 :: x8 :: x9 :: x10 :: x11 :: x12 :: some .null :: ls) (.null :: st) S I J R Q) : Ex j pc (x0 :: x1 :: x2 :: x3 :: x4 :: x5 :: x6 :: x7 :: x8 :: x9 :: x10 :: x11 :: x12 :: some .null :: ls) st S I J R Q := by
  obtain ⟨len, he, rfl⟩ := he
  exact Ex.pure he rfl rfl rfl k
theorem SI13 {x0 x1 x2 x3 x4 x5 x6 x7 x8 x9 x10 x11 x12 : Option Value} {y : Option Value} {x : Int32} (he : amT j pc pc' (.istore 13) op) (hcl : amClr x12 = x12) (k : Ex j pc' (x0 :: x1 :: x2 :: x3 :: x4 :: x5 :: x6 :: x7 :: x8 :: x9 :: x10 :: x11 :: x12 :: some (.int x) :: ls) st S I J R Q) : Ex j pc (x0 :: x1 :: x2 :: x3 :: x4 :: x5 :: x6 :: x7 :: x8 :: x9 :: x10 :: x11 :: x12 :: y :: ls) (.int x :: st) S I J R Q := by
  obtain ⟨len, he, rfl⟩ := he
  exact Ex.pure he rfl rfl (by simp [amPure, amSt, hcl]) k
theorem SA13 {x0 x1 x2 x3 x4 x5 x6 x7 x8 x9 x10 x11 x12 : Option Value} {y : Option Value} {x : Nat} (he : amT j pc pc' (.astore 13) op) (hcl : amClr x12 = x12) (k : Ex j pc' (x0 :: x1 :: x2 :: x3 :: x4 :: x5 :: x6 :: x7 :: x8 :: x9 :: x10 :: x11 :: x12 :: some (.ref x) :: ls) st S I J R Q) : Ex j pc (x0 :: x1 :: x2 :: x3 :: x4 :: x5 :: x6 :: x7 :: x8 :: x9 :: x10 :: x11 :: x12 :: y :: ls) (.ref x :: st) S I J R Q := by
  obtain ⟨len, he, rfl⟩ := he
  exact Ex.pure he rfl rfl (by simp [amPure, amSt, hcl]) k
theorem SN13 {x0 x1 x2 x3 x4 x5 x6 x7 x8 x9 x10 x11 x12 : Option Value} {y : Option Value} (he : amT j pc pc' (.astore 13) op) (hcl : amClr x12 = x12) (k : Ex j pc' (x0 :: x1 :: x2 :: x3 :: x4 :: x5 :: x6 :: x7 :: x8 :: x9 :: x10 :: x11 :: x12 :: some .null :: ls) st S I J R Q) : Ex j pc (x0 :: x1 :: x2 :: x3 :: x4 :: x5 :: x6 :: x7 :: x8 :: x9 :: x10 :: x11 :: x12 :: y :: ls) (.null :: st) S I J R Q := by
  obtain ⟨len, he, rfl⟩ := he
  exact Ex.pure he rfl rfl (by simp [amPure, amSt, hcl]) k
theorem SJ13 {x0 x1 x2 x3 x4 x5 x6 x7 x8 x9 x10 x11 x12 : Option Value} {y z : Option Value} {x : Int64} (he : amT j pc pc' (.lstore 13) op) (hcl : amClr x12 = x12) (k : Ex j pc' (x0 :: x1 :: x2 :: x3 :: x4 :: x5 :: x6 :: x7 :: x8 :: x9 :: x10 :: x11 :: x12 :: some (.long x) :: none :: ls) st S I J R Q) : Ex j pc (x0 :: x1 :: x2 :: x3 :: x4 :: x5 :: x6 :: x7 :: x8 :: x9 :: x10 :: x11 :: x12 :: y :: z :: ls) (.long x :: st) S I J R Q := by
  obtain ⟨len, he, rfl⟩ := he
  exact Ex.pure he rfl rfl (by simp [amPure, amSt2, hcl]) k
theorem SId13 {x0 x1 x2 x3 x4 x5 x6 x7 x8 x9 x10 x11 : Option Value} {y : Option Value} {q : Int64} {x : Int32} (he : amT j pc pc' (.istore 13) op) (k : Ex j pc' (x0 :: x1 :: x2 :: x3 :: x4 :: x5 :: x6 :: x7 :: x8 :: x9 :: x10 :: x11 :: none :: some (.int x) :: ls) st S I J R Q) : Ex j pc (x0 :: x1 :: x2 :: x3 :: x4 :: x5 :: x6 :: x7 :: x8 :: x9 :: x10 :: x11 :: some (.long q) :: y :: ls) (.int x :: st) S I J R Q := by
  obtain ⟨len, he, rfl⟩ := he
  exact Ex.pure he rfl rfl (by simp [amPure, amSt, amClr]) k
theorem SAd13 {x0 x1 x2 x3 x4 x5 x6 x7 x8 x9 x10 x11 : Option Value} {y : Option Value} {q : Int64} {x : Nat} (he : amT j pc pc' (.astore 13) op) (k : Ex j pc' (x0 :: x1 :: x2 :: x3 :: x4 :: x5 :: x6 :: x7 :: x8 :: x9 :: x10 :: x11 :: none :: some (.ref x) :: ls) st S I J R Q) : Ex j pc (x0 :: x1 :: x2 :: x3 :: x4 :: x5 :: x6 :: x7 :: x8 :: x9 :: x10 :: x11 :: some (.long q) :: y :: ls) (.ref x :: st) S I J R Q := by
  obtain ⟨len, he, rfl⟩ := he
  exact Ex.pure he rfl rfl (by simp [amPure, amSt, amClr]) k
theorem Inc13 {x0 x1 x2 x3 x4 x5 x6 x7 x8 x9 x10 x11 x12 : Option Value} {x : Int32} {n : Int} {d : Int32} (he : amT j pc pc' (.iinc 13 n) op) (hd : Int32.ofInt n = d) (hcl : amClr x12 = x12) (k : Ex j pc' (x0 :: x1 :: x2 :: x3 :: x4 :: x5 :: x6 :: x7 :: x8 :: x9 :: x10 :: x11 :: x12 :: some (.int (x + d)) :: ls) st S I J R Q) : Ex j pc (x0 :: x1 :: x2 :: x3 :: x4 :: x5 :: x6 :: x7 :: x8 :: x9 :: x10 :: x11 :: x12 :: some (.int x) :: ls) st S I J R Q := by
  obtain ⟨len, he, rfl⟩ := he
  subst hd
  exact Ex.pure he rfl rfl (by simp [amPure, amSt, hcl]) k
theorem LI14 {x0 x1 x2 x3 x4 x5 x6 x7 x8 x9 x10 x11 x12 x13 : Option Value} {x : Int32} (he : amT j pc pc' (.iload 14) op) (k : Ex j pc' (x0 :: x1 :: x2 :: x3 :: x4 :: x5 :: x6 :: x7 :: x8 :: x9 :: x10 :: x11 :: x12 :: x13 :: some (.int x) :: ls) (.int x :: st) S I J R Q) : Ex j pc (x0 :: x1 :: x2 :: x3 :: x4 :: x5 :: x6 :: x7 :: x8 :: x9 :: x10 :: x11 :: x12 :: x13 :: some (.int x) :: ls) st S I J R Q := by
  obtain ⟨len, he, rfl⟩ := he
  exact Ex.pure he rfl rfl rfl k
theorem LJ14 {x0 x1 x2 x3 x4 x5 x6 x7 x8 x9 x10 x11 x12 x13 : Option Value} {x : Int64} (he : amT j pc pc' (.lload 14) op) (k : Ex j pc' (x0 :: x1 :: x2 :: x3 :: x4 :: x5 :: x6 :: x7 :: x8 :: x9 :: x10 :: x11 :: x12 :: x13 :: some (.long x) :: ls) (.long x :: st) S I J R Q) : Ex j pc (x0 :: x1 :: x2 :: x3 :: x4 :: x5 :: x6 :: x7 :: x8 :: x9 :: x10 :: x11 :: x12 :: x13 :: some (.long x) :: ls) st S I J R Q := by
  obtain ⟨len, he, rfl⟩ := he
  exact Ex.pure he rfl rfl rfl k
theorem LA14 {x0 x1 x2 x3 x4 x5 x6 x7 x8 x9 x10 x11 x12 x13 : Option Value} {x : Nat} (he : amT j pc pc' (.aload 14) op) (k : Ex j pc' (x0 :: x1 :: x2 :: x3 :: x4 :: x5 :: x6 :: x7 :: x8 :: x9 :: x10 :: x11 :: x12 :: x13 :: some (.ref x) :: ls) (.ref x :: st) S I J R Q) : Ex j pc (x0 :: x1 :: x2 :: x3 :: x4 :: x5 :: x6 :: x7 :: x8 :: x9 :: x10 :: x11 :: x12 :: x13 :: some (.ref x) :: ls) st S I J R Q := by
  obtain ⟨len, he, rfl⟩ := he
  exact Ex.pure he rfl rfl rfl k
theorem LN14 {x0 x1 x2 x3 x4 x5 x6 x7 x8 x9 x10 x11 x12 x13 : Option Value} (he : amT j pc pc' (.aload 14) op) (k : Ex j pc' (x0 :: x1 :: x2 :: x3 :: x4 :: x5 :: x6 :: x7 :: x8 :: x9 :: x10 :: x11 :: x12 :: x13 :: some .null :: ls) (.null :: st) S I J R Q) : Ex j pc (x0 :: x1 :: x2 :: x3 :: x4 :: x5 :: x6 :: x7 :: x8 :: x9 :: x10 :: x11 :: x12 :: x13 :: some .null :: ls) st S I J R Q := by
  obtain ⟨len, he, rfl⟩ := he
  exact Ex.pure he rfl rfl rfl k
theorem SI14 {x0 x1 x2 x3 x4 x5 x6 x7 x8 x9 x10 x11 x12 x13 : Option Value} {y : Option Value} {x : Int32} (he : amT j pc pc' (.istore 14) op) (hcl : amClr x13 = x13) (k : Ex j pc' (x0 :: x1 :: x2 :: x3 :: x4 :: x5 :: x6 :: x7 :: x8 :: x9 :: x10 :: x11 :: x12 :: x13 :: some (.int x) :: ls) st S I J R Q) : Ex j pc (x0 :: x1 :: x2 :: x3 :: x4 :: x5 :: x6 :: x7 :: x8 :: x9 :: x10 :: x11 :: x12 :: x13 :: y :: ls) (.int x :: st) S I J R Q := by
  obtain ⟨len, he, rfl⟩ := he
  exact Ex.pure he rfl rfl (by simp [amPure, amSt, hcl]) k
theorem SA14 {x0 x1 x2 x3 x4 x5 x6 x7 x8 x9 x10 x11 x12 x13 : Option Value} {y : Option Value} {x : Nat} (he : amT j pc pc' (.astore 14) op) (hcl : amClr x13 = x13) (k : Ex j pc' (x0 :: x1 :: x2 :: x3 :: x4 :: x5 :: x6 :: x7 :: x8 :: x9 :: x10 :: x11 :: x12 :: x13 :: some (.ref x) :: ls) st S I J R Q) : Ex j pc (x0 :: x1 :: x2 :: x3 :: x4 :: x5 :: x6 :: x7 :: x8 :: x9 :: x10 :: x11 :: x12 :: x13 :: y :: ls) (.ref x :: st) S I J R Q := by
  obtain ⟨len, he, rfl⟩ := he
  exact Ex.pure he rfl rfl (by simp [amPure, amSt, hcl]) k
theorem SN14 {x0 x1 x2 x3 x4 x5 x6 x7 x8 x9 x10 x11 x12 x13 : Option Value} {y : Option Value} (he : amT j pc pc' (.astore 14) op) (hcl : amClr x13 = x13) (k : Ex j pc' (x0 :: x1 :: x2 :: x3 :: x4 :: x5 :: x6 :: x7 :: x8 :: x9 :: x10 :: x11 :: x12 :: x13 :: some .null :: ls) st S I J R Q) : Ex j pc (x0 :: x1 :: x2 :: x3 :: x4 :: x5 :: x6 :: x7 :: x8 :: x9 :: x10 :: x11 :: x12 :: x13 :: y :: ls) (.null :: st) S I J R Q := by
  obtain ⟨len, he, rfl⟩ := he
  exact Ex.pure he rfl rfl (by simp [amPure, amSt, hcl]) k
theorem SJ14 {x0 x1 x2 x3 x4 x5 x6 x7 x8 x9 x10 x11 x12 x13 : Option Value} {y z : Option Value} {x : Int64} (he : amT j pc pc' (.lstore 14) op) (hcl : amClr x13 = x13) (k : Ex j pc' (x0 :: x1 :: x2 :: x3 :: x4 :: x5 :: x6 :: x7 :: x8 :: x9 :: x10 :: x11 :: x12 :: x13 :: some (.long x) :: none :: ls) st S I J R Q) : Ex j pc (x0 :: x1 :: x2 :: x3 :: x4 :: x5 :: x6 :: x7 :: x8 :: x9 :: x10 :: x11 :: x12 :: x13 :: y :: z :: ls) (.long x :: st) S I J R Q := by
  obtain ⟨len, he, rfl⟩ := he
  exact Ex.pure he rfl rfl (by simp [amPure, amSt2, hcl]) k
theorem SId14 {x0 x1 x2 x3 x4 x5 x6 x7 x8 x9 x10 x11 x12 : Option Value} {y : Option Value} {q : Int64} {x : Int32} (he : amT j pc pc' (.istore 14) op) (k : Ex j pc' (x0 :: x1 :: x2 :: x3 :: x4 :: x5 :: x6 :: x7 :: x8 :: x9 :: x10 :: x11 :: x12 :: none :: some (.int x) :: ls) st S I J R Q) : Ex j pc (x0 :: x1 :: x2 :: x3 :: x4 :: x5 :: x6 :: x7 :: x8 :: x9 :: x10 :: x11 :: x12 :: some (.long q) :: y :: ls) (.int x :: st) S I J R Q := by
  obtain ⟨len, he, rfl⟩ := he
  exact Ex.pure he rfl rfl (by simp [amPure, amSt, amClr]) k
theorem SAd14 {x0 x1 x2 x3 x4 x5 x6 x7 x8 x9 x10 x11 x12 : Option Value} {y : Option Value} {q : Int64} {x : Nat} (he : amT j pc pc' (.astore 14) op) (k : Ex j pc' (x0 :: x1 :: x2 :: x3 :: x4 :: x5 :: x6 :: x7 :: x8 :: x9 :: x10 :: x11 :: x12 :: none :: some (.ref x) :: ls) st S I J R Q) : Ex j pc (x0 :: x1 :: x2 :: x3 :: x4 :: x5 :: x6 :: x7 :: x8 :: x9 :: x10 :: x11 :: x12 :: some (.long q) :: y :: ls) (.ref x :: st) S I J R Q := by
  obtain ⟨len, he, rfl⟩ := he
  exact Ex.pure he rfl rfl (by simp [amPure, amSt, amClr]) k
theorem Inc14 {x0 x1 x2 x3 x4 x5 x6 x7 x8 x9 x10 x11 x12 x13 : Option Value} {x : Int32} {n : Int} {d : Int32} (he : amT j pc pc' (.iinc 14 n) op) (hd : Int32.ofInt n = d) (hcl : amClr x13 = x13) (k : Ex j pc' (x0 :: x1 :: x2 :: x3 :: x4 :: x5 :: x6 :: x7 :: x8 :: x9 :: x10 :: x11 :: x12 :: x13 :: some (.int (x + d)) :: ls) st S I J R Q) : Ex j pc (x0 :: x1 :: x2 :: x3 :: x4 :: x5 :: x6 :: x7 :: x8 :: x9 :: x10 :: x11 :: x12 :: x13 :: some (.int x) :: ls) st S I J R Q := by
  obtain ⟨len, he, rfl⟩ := he
  subst hd
  exact Ex.pure he rfl rfl (by simp [amPure, amSt, hcl]) k
theorem LI15 {x0 x1 x2 x3 x4 x5 x6 x7 x8 x9 x10 x11 x12 x13 x14 : Option Value} {x : Int32} (he : amT j pc pc' (.iload 15) op) (k : Ex j pc' (x0 :: x1 :: x2 :: x3 :: x4 :: x5 :: x6 :: x7 :: x8 :: x9 :: x10 :: x11 :: x12 :: x13 :: x14 :: some (.int x) :: ls) (.int x :: st) S I J R Q) : Ex j pc (x0 :: x1 :: x2 :: x3 :: x4 :: x5 :: x6 :: x7 :: x8 :: x9 :: x10 :: x11 :: x12 :: x13 :: x14 :: some (.int x) :: ls) st S I J R Q := by
  obtain ⟨len, he, rfl⟩ := he
  exact Ex.pure he rfl rfl rfl k
theorem LJ15 {x0 x1 x2 x3 x4 x5 x6 x7 x8 x9 x10 x11 x12 x13 x14 : Option Value} {x : Int64} (he : amT j pc pc' (.lload 15) op) (k : Ex j pc' (x0 :: x1 :: x2 :: x3 :: x4 :: x5 :: x6 :: x7 :: x8 :: x9 :: x10 :: x11 :: x12 :: x13 :: x14 :: some (.long x) :: ls) (.long x :: st) S I J R Q) : Ex j pc (x0 :: x1 :: x2 :: x3 :: x4 :: x5 :: x6 :: x7 :: x8 :: x9 :: x10 :: x11 :: x12 :: x13 :: x14 :: some (.long x) :: ls) st S I J R Q := by
  obtain ⟨len, he, rfl⟩ := he
  exact Ex.pure he rfl rfl rfl k
theorem LA15 {x0 x1 x2 x3 x4 x5 x6 x7 x8 x9 x10 x11 x12 x13 x14 : Option Value} {x : Nat} (he : amT j pc pc' (.aload 15) op) (k : Ex j pc' (x0 :: x1 :: x2 :: x3 :: x4 :: x5 :: x6 :: x7 :: x8 :: x9 :: x10 :: x11 :: x12 :: x13 :: x14 :: some (.ref x) :: ls) (.ref x :: st) S I J R Q) : Ex j pc (x0 :: x1 :: x2 :: x3 :: x4 :: x5 :: x6 :: x7 :: x8 :: x9 :: x10 :: x11 :: x12 :: x13 :: x14 :: some (.ref x) :: ls) st S I J R Q := by
  obtain ⟨len, he, rfl⟩ := he
  exact Ex.pure he rfl rfl rfl k
theorem LN15 {x0 x1 x2 x3 x4 x5 x6 x7 x8 x9 x10 x11 x12 x13 x14 : Option Value} (he : amT j pc pc' (.aload 15) op) (k : Ex j pc' (x0 :: x1 :: x2 :: x3 :: x4 :: x5 :: x6 :: x7 :: x8 :: x9 :: x10 :: x11 :: x12 :: x13 :: x14 :: some .null :: ls) (.null :: st) S I J R Q) : Ex j pc (x0 :: x1 :: x2 :: x3 :: x4 :: x5 :: x6 :: x7 :: x8 :: x9 :: x10 :: x11 :: x12 :: x13 :: x14 :: some .null :: ls) st S I J R Q := by
  obtain ⟨len, he, rfl⟩ := he
  exact Ex.pure he rfl rfl rfl k
theorem SI15 {x0 x1 x2 x3 x4 x5 x6 x7 x8 x9 x10 x11 x12 x13 x14 : Option Value} {y : Option Value} {x : Int32} (he : amT j pc pc' (.istore 15) op) (hcl : amClr x14 = x14) (k : Ex j pc' (x0 :: x1 :: x2 :: x3 :: x4 :: x5 :: x6 :: x7 :: x8 :: x9 :: x10 :: x11 :: x12 :: x13 :: x14 :: some (.int x) :: ls) st S I J R Q) : Ex j pc (x0 :: x1 :: x2 :: x3 :: x4 :: x5 :: x6 :: x7 :: x8 :: x9 :: x10 :: x11 :: x12 :: x13 :: x14 :: y :: ls) (.int x :: st) S I J R Q := by
  obtain ⟨len, he, rfl⟩ := he
  exact Ex.pure he rfl rfl (by simp [amPure, amSt, hcl]) k
theorem SA15 {x0 x1 x2 x3 x4 x5 x6 x7 x8 x9 x10 x11 x12 x13 x14 : Option Value} {y : Option Value} {x : Nat} (he : amT j pc pc' (.astore 15) op) (hcl : amClr x14 = x14) (k : Ex j pc' (x0 :: x1 :: x2 :: x3 :: x4 :: x5 :: x6 :: x7 :: x8 :: x9 :: x10 :: x11 :: x12 :: x13 :: x14 :: some (.ref x) :: ls) st S I J R Q) : Ex j pc (x0 :: x1 :: x2 :: x3 :: x4 :: x5 :: x6 :: x7 :: x8 :: x9 :: x10 :: x11 :: x12 :: x13 :: x14 :: y :: ls) (.ref x :: st) S I J R Q := by
  obtain ⟨len, he, rfl⟩ := he
  exact Ex.pure he rfl rfl (by simp [amPure, amSt, hcl]) k
theorem SN15 {x0 x1 x2 x3 x4 x5 x6 x7 x8 x9 x10 x11 x12 x13 x14 : Option Value} {y : Option Value} (he : amT j pc pc' (.astore 15) op) (hcl : amClr x14 = x14) (k : Ex j pc' (x0 :: x1 :: x2 :: x3 :: x4 :: x5 :: x6 :: x7 :: x8 :: x9 :: x10 :: x11 :: x12 :: x13 :: x14 :: some .null :: ls) st S I J R Q) : Ex j pc (x0 :: x1 :: x2 :: x3 :: x4 :: x5 :: x6 :: x7 :: x8 :: x9 :: x10 :: x11 :: x12 :: x13 :: x14 :: y :: ls) (.null :: st) S I J R Q := by
  obtain ⟨len, he, rfl⟩ := he
  exact Ex.pure he rfl rfl (by simp [amPure, amSt, hcl]) k
theorem SJ15 {x0 x1 x2 x3 x4 x5 x6 x7 x8 x9 x10 x11 x12 x13 x14 : Option Value} {y z : Option Value} {x : Int64} (he : amT j pc pc' (.lstore 15) op) (hcl : amClr x14 = x14) (k : Ex j pc' (x0 :: x1 :: x2 :: x3 :: x4 :: x5 :: x6 :: x7 :: x8 :: x9 :: x10 :: x11 :: x12 :: x13 :: x14 :: some (.long x) :: none :: ls) st S I J R Q) : Ex j pc (x0 :: x1 :: x2 :: x3 :: x4 :: x5 :: x6 :: x7 :: x8 :: x9 :: x10 :: x11 :: x12 :: x13 :: x14 :: y :: z :: ls) (.long x :: st) S I J R Q := by
  obtain ⟨len, he, rfl⟩ := he
  exact Ex.pure he rfl rfl (by simp [amPure, amSt2, hcl]) k
theorem SId15 {x0 x1 x2 x3 x4 x5 x6 x7 x8 x9 x10 x11 x12 x13 : Option Value} {y : Option Value} {q : Int64} {x : Int32} (he : amT j pc pc' (.istore 15) op) (k : Ex j pc' (x0 :: x1 :: x2 :: x3 :: x4 :: x5 :: x6 :: x7 :: x8 :: x9 :: x10 :: x11 :: x12 :: x13 :: none :: some (.int x) :: ls) st S I J R Q) : Ex j pc (x0 :: x1 :: x2 :: x3 :: x4 :: x5 :: x6 :: x7 :: x8 :: x9 :: x10 :: x11 :: x12 :: x13 :: some (.long q) :: y :: ls) (.int x :: st) S I J R Q := by
  obtain ⟨len, he, rfl⟩ := he
  exact Ex.pure he rfl rfl (by simp [amPure, amSt, amClr]) k
theorem SAd15 {x0 x1 x2 x3 x4 x5 x6 x7 x8 x9 x10 x11 x12 x13 : Option Value} {y : Option Value} {q : Int64} {x : Nat} (he : amT j pc pc' (.astore 15) op) (k : Ex j pc' (x0 :: x1 :: x2 :: x3 :: x4 :: x5 :: x6 :: x7 :: x8 :: x9 :: x10 :: x11 :: x12 :: x13 :: none :: some (.ref x) :: ls) st S I J R Q) : Ex j pc (x0 :: x1 :: x2 :: x3 :: x4 :: x5 :: x6 :: x7 :: x8 :: x9 :: x10 :: x11 :: x12 :: x13 :: some (.long q) :: y :: ls) (.ref x :: st) S I J R Q := by
  obtain ⟨len, he, rfl⟩ := he
  exact Ex.pure he rfl rfl (by simp [amPure, amSt, amClr]) k
theorem Inc15 {x0 x1 x2 x3 x4 x5 x6 x7 x8 x9 x10 x11 x12 x13 x14 : Option Value} {x : Int32} {n : Int} {d : Int32} (he : amT j pc pc' (.iinc 15 n) op) (hd : Int32.ofInt n = d) (hcl : amClr x14 = x14) (k : Ex j pc' (x0 :: x1 :: x2 :: x3 :: x4 :: x5 :: x6 :: x7 :: x8 :: x9 :: x10 :: x11 :: x12 :: x13 :: x14 :: some (.int (x + d)) :: ls) st S I J R Q) : Ex j pc (x0 :: x1 :: x2 :: x3 :: x4 :: x5 :: x6 :: x7 :: x8 :: x9 :: x10 :: x11 :: x12 :: x13 :: x14 :: some (.int x) :: ls) st S I J R Q := by
  obtain ⟨len, he, rfl⟩ := he
  subst hd
  exact Ex.pure he rfl rfl (by simp [amPure, amSt, hcl]) k
theorem LI16 {x0 x1 x2 x3 x4 x5 x6 x7 x8 x9 x10 x11 x12 x13 x14 x15 : Option Value} {x : Int32} (he : amT j pc pc' (.iload 16) op) (k : Ex j pc' (x0 :: x1 :: x2 :: x3 :: x4 :: x5 :: x6 :: x7 :: x8 :: x9 :: x10 :: x11 :: x12 :: x13 :: x14 :: x15 :: some (.int x) :: ls) (.int x :: st) S I J R Q) : Ex j pc (x0 :: x1 :: x2 :: x3 :: x4 :: x5 :: x6 :: x7 :: x8 :: x9 :: x10 :: x11 :: x12 :: x13 :: x14 :: x15 :: some (.int x) :: ls) st S I J R Q := by
  obtain ⟨len, he, rfl⟩ := he
  exact Ex.pure he rfl rfl rfl k
theorem LJ16 {x0 x1 x2 x3 x4 x5 x6 x7 x8 x9 x10 x11 x12 x13 x14 x15 : Option Value} {x : Int64} (he : amT j pc pc' (.lload 16) op) (k : Ex j pc' (x0 :: x1 :: x2 :: x3 :: x4 :: x5 :: x6 :: x7 :: x8 :: x9 :: x10 :: x11 :: x12 :: x13 :: x14 :: x15 :: some (.long x) :: ls) (.long x :: st) S I J R Q) : Ex j pc (x0 :: x1 :: x2 :: x3 :: x4 :: x5 :: x6 :: x7 :: x8 :: x9 :: x10 :: x11 :: x12 :: x13 :: x14 :: x15 :: some (.long x) :: ls) st S I J R Q := by
  obtain ⟨len, he, rfl⟩ := he
  exact Ex.pure he rfl rfl rfl k
theorem LA16 {x0 x1 x2 x3 x4 x5 x6 x7 x8 x9 x10 x11 x12 x13 x14 x15 : Option Value} {x : Nat} (he : amT j pc pc' (.aload 16) op) (k : Ex j pc' (x0 :: x1 :: x2 :: x3 :: x4 :: x5 :: x6 :: x7 :: x8 :: x9 :: x10 :: x11 :: x12 :: x13 :: x14 :: x15 :: some (.ref x) :: ls) (.ref x :: st) S I J R Q) : Ex j pc (x0 :: x1 :: x2 :: x3 :: x4 :: x5 :: x6 :: x7 :: x8 :: x9 :: x10 :: x11 :: x12 :: x13 :: x14 :: x15 :: some (.ref x) :: ls) st S I J R Q := by
  obtain ⟨len, he, rfl⟩ := he
  exact Ex.pure he rfl rfl rfl k
theorem LN16 {x0 x1 x2 x3 x4 x5 x6 x7 x8 x9 x10 x11 x12 x13 x14 x15 : Option Value} (he : amT j pc pc' (.aload 16) op) (k : Ex j pc' (x0 :: x1 :: x2 :: x3 :: x4 :: x5 :: x6 :: x7 :: x8 :: x9 :: x10 :: x11 :: x12 :: x13 :: x14 :: x15 :: some .null :: ls) (.null :: st) S I J R Q) : Ex j pc (x0 :: x1 :: x2 :: x3 :: x4 :: x5 :: x6 :: x7 :: x8 :: x9 :: x10 :: x11 :: x12 :: x13 :: x14 :: x15 :: some .null :: ls) st S I J R Q := by
  obtain ⟨len, he, rfl⟩ := he
  exact Ex.pure he rfl rfl rfl k
theorem SI16 {x0 x1 x2 x3 x4 x5 x6 x7 x8 x9 x10 x11 x12 x13 x14 x15 : Option Value} {y : Option Value} {x : Int32} (he : amT j pc pc' (.istore 16) op) (hcl : amClr x15 = x15) (k : Ex j pc' (x0 :: x1 :: x2 :: x3 :: x4 :: x5 :: x6 :: x7 :: x8 :: x9 :: x10 :: x11 :: x12 :: x13 :: x14 :: x15 :: some (.int x) :: ls) st S I J R Q) : Ex j pc (x0 :: x1 :: x2 :: x3 :: x4 :: x5 :: x6 :: x7 :: x8 :: x9 :: x10 :: x11 :: x12 :: x13 :: x14 :: x15 :: y :: ls) (.int x :: st) S I J R Q := by
  obtain ⟨len, he, rfl⟩ := he
  exact Ex.pure he rfl rfl (by simp [amPure, amSt, hcl]) k
theorem SA16 {x0 x1 x2 x3 x4 x5 x6 x7 x8 x9 x10 x11 x12 x13 x14 x15 : Option Value} {y : Option Value} {x : Nat} (he : amT j pc pc' (.astore 16) op) (hcl : amClr x15 = x15) (k : Ex j pc' (x0 :: x1 :: x2 :: x3 :: x4 :: x5 :: x6 :: x7 :: x8 :: x9 :: x10 :: x11 :: x12 :: x13 :: x14 :: x15 :: some (.ref x) :: ls) st S I J R Q) : Ex j pc (x0 :: x1 :: x2 :: x3 :: x4 :: x5 :: x6 :: x7 :: x8 :: x9 :: x10 :: x11 :: x12 :: x13 :: x14 :: x15 :: y :: ls) (.ref x :: st) S I J R Q := by
  obtain ⟨len, he, rfl⟩ := he
  exact Ex.pure he rfl rfl (by simp [amPure, amSt, hcl]) k
theorem SN16 {x0 x1 x2 x3 x4 x5 x6 x7 x8 x9 x10 x11 x12 x13 x14 x15 : Option Value} {y : Option Value} (he : amT j pc pc' (.astore 16) op) (hcl : amClr x15 = x15) (k : Ex j pc' (x0 :: x1 :: x2 :: x3 :: x4 :: x5 :: x6 :: x7 :: x8 :: x9 :: x10 :: x11 :: x12 :: x13 :: x14 :: x15 :: some .null :: ls) st S I J R Q) : Ex j pc (x0 :: x1 :: x2 :: x3 :: x4 :: x5 :: x6 :: x7 :: x8 :: x9 :: x10 :: x11 :: x12 :: x13 :: x14 :: x15 :: y :: ls) (.null :: st) S I J R Q := by
  obtain ⟨len, he, rfl⟩ := he
  exact Ex.pure he rfl rfl (by simp [amPure, amSt, hcl]) k
theorem SJ16 {x0 x1 x2 x3 x4 x5 x6 x7 x8 x9 x10 x11 x12 x13 x14 x15 : Option Value} {y z : Option Value} {x : Int64} (he : amT j pc pc' (.lstore 16) op) (hcl : amClr x15 = x15) (k : Ex j pc' (x0 :: x1 :: x2 :: x3 :: x4 :: x5 :: x6 :: x7 :: x8 :: x9 :: x10 :: x11 :: x12 :: x13 :: x14 :: x15 :: some (.long x) :: none :: ls) st S I J R Q) : Ex j pc (x0 :: x1 :: x2 :: x3 :: x4 :: x5 :: x6 :: x7 :: x8 :: x9 :: x10 :: x11 :: x12 :: x13 :: x14 :: x15 :: y :: z :: ls) (.long x :: st) S I J R Q := by
  obtain ⟨len, he, rfl⟩ := he
  exact Ex.pure he rfl rfl (by simp [amPure, amSt2, hcl]) k
theorem SId16 {x0 x1 x2 x3 x4 x5 x6 x7 x8 x9 x10 x11 x12 x13 x14 : Option Value} {y : Option Value} {q : Int64} {x : Int32} (he : amT j pc pc' (.istore 16) op) (k : Ex j pc' (x0 :: x1 :: x2 :: x3 :: x4 :: x5 :: x6 :: x7 :: x8 :: x9 :: x10 :: x11 :: x12 :: x13 :: x14 :: none :: some (.int x) :: ls) st S I J R Q) : Ex j pc (x0 :: x1 :: x2 :: x3 :: x4 :: x5 :: x6 :: x7 :: x8 :: x9 :: x10 :: x11 :: x12 :: x13 :: x14 :: some (.long q) :: y :: ls) (.int x :: st) S I J R Q := by
  obtain ⟨len, he, rfl⟩ := he
  exact Ex.pure he rfl rfl (by simp [amPure, amSt, amClr]) k
theorem SAd16 {x0 x1 x2 x3 x4 x5 x6 x7 x8 x9 x10 x11 x12 x13 x14 : Option Value} {y : Option Value} {q : Int64} {x : Nat} (he : amT j pc pc' (.astore 16) op) (k : Ex j pc' (x0 :: x1 :: x2 :: x3 :: x4 :: x5 :: x6 :: x7 :: x8 :: x9 :: x10 :: x11 :: x12 :: x13 :: x14 :: none :: some (.ref x) :: ls) st S I J R Q) : Ex j pc (x0 :: x1 :: x2 :: x3 :: x4 :: x5 :: x6 :: x7 :: x8 :: x9 :: x10 :: x11 :: x12 :: x13 :: x14 :: some (.long q) :: y :: ls) (.ref x :: st) S I J R Q := by
  obtain ⟨len, he, rfl⟩ := he
  exact Ex.pure he rfl rfl (by simp [amPure, amSt, amClr]) k
theorem Inc16 {x0 x1 x2 x3 x4 x5 x6 x7 x8 x9 x10 x11 x12 x13 x14 x15 : Option Value} {x : Int32} {n : Int} {d : Int32} (he : amT j pc pc' (.iinc 16 n) op) (hd : Int32.ofInt n = d) (hcl : amClr x15 = x15) (k : Ex j pc' (x0 :: x1 :: x2 :: x3 :: x4 :: x5 :: x6 :: x7 :: x8 :: x9 :: x10 :: x11 :: x12 :: x13 :: x14 :: x15 :: some (.int (x + d)) :: ls) st S I J R Q) : Ex j pc (x0 :: x1 :: x2 :: x3 :: x4 :: x5 :: x6 :: x7 :: x8 :: x9 :: x10 :: x11 :: x12 :: x13 :: x14 :: x15 :: some (.int x) :: ls) st S I J R Q := by
  obtain ⟨len, he, rfl⟩ := he
  subst hd
  exact Ex.pure he rfl rfl (by simp [amPure, amSt, hcl]) k
theorem LI17 {x0 x1 x2 x3 x4 x5 x6 x7 x8 x9 x10 x11 x12 x13 x14 x15 x16 : Option Value} {x : Int32} (he : amT j pc pc' (.iload 17) op) (k : Ex j pc' (x0 :: x1 :: x2 :: x3 :: x4 :: x5 :: x6 :: x7 :: x8 :: x9 :: x10 :: x11 :: x12 :: x13 :: x14 :: x15 :: x16 :: some (.int x) :: ls) (.int x :: st) S I J R Q) : Ex j pc (x0 :: x1 :: x2 :: x3 :: x4 :: x5 :: x6 :: x7 :: x8 :: x9 :: x10 :: x11 :: x12 :: x13 :: x14 :: x15 :: x16 :: some (.int x) :: ls) st S I J R Q := by
  obtain ⟨len, he, rfl⟩ := he
  exact Ex.pure he rfl rfl rfl k
theorem LJ17 {x0 x1 x2 x3 x4 x5 x6 x7 x8 x9 x10 x11 x12 x13 x14 x15 x16 : Option Value} {x : Int64} (he : amT j pc pc' (.lload 17) op) (k : Ex j pc' (x0 :: x1 :: x2 :: x3 :: x4 :: x5 :: x6 :: x7 :: x8 :: x9 :: x10 :: x11 :: x12 :: x13 :: x14 :: x15 :: x16 :: some (.long x) :: ls) (.long x :: st) S I J R Q) : Ex j pc (x0 :: x1 :: x2 :: x3 :: x4 :: x5 :: x6 :: x7 :: x8 :: x9 :: x10 :: x11 :: x12 :: x13 :: x14 :: x15 :: x16 :: some (.long x) :: ls) st S I J R Q := by
  obtain ⟨len, he, rfl⟩ := he
  exact Ex.pure he rfl rfl rfl k
theorem LA17 {x0 x1 x2 x3 x4 x5 x6 x7 x8 x9 x10 x11 x12 x13 x14 x15 x16 : Option Value} {x : Nat} (he : amT j pc pc' (.aload 17) op) (k : Ex j pc' (x0 :: x1 :: x2 :: x3 :: x4 :: x5 :: x6 :: x7 :: x8 :: x9 :: x10 :: x11 :: x12 :: x13 :: x14 :: x15 :: x16 :: some (.ref x) :: ls) (.ref x :: st) S I J R Q) : Ex j pc (x0 :: x1 :: x2 :: x3 :: x4 :: x5 :: x6 :: x7 :: x8 :: x9 :: x10 :: x11 :: x12 :: x13 :: x14 :: x15 :: x16 :: some (.ref x) :: ls) st S I J R Q := by
  obtain ⟨len, he, rfl⟩ := he
  exact Ex.pure he rfl rfl rfl k
theorem LN17 {x0 x1 x2 x3 x4 x5 x6 x7 x8 x9 x10 x11 x12 x13 x14 x15 x16 : Option Value} (he : amT j pc pc' (.aload 17) op) (k : Ex j pc' (x0 :: x1 :: x2 :: x3 :: x4 :: x5 :: x6 :: x7 :: x8 :: x9 :: x10 :: x11 :: x12 :: x13 :: x14 :: x15 :: x16 :: some .null :: ls) (.null :: st) S I J R Q) : Ex j pc (x0 :: x1 :: x2 :: x3 :: x4 :: x5 :: x6 :: x7 :: x8 :: x9 :: x10 :: x11 :: x12 :: x13 :: x14 :: x15 :: x16 :: some .null :: ls) st S I J R Q := by
  obtain ⟨len, he, rfl⟩ := he
  exact Ex.pure he rfl rfl rfl k
theorem SI17 {x0 x1 x2 x3 x4 x5 x6 x7 x8 x9 x10 x11 x12 x13 x14 x15 x16 : Option Value} {y : Option Value} {x : Int32} (he : amT j pc pc' (.istore 17) op) (hcl : amClr x16 = x16) (k : Ex j pc' (x0 :: x1 :: x2 :: x3 :: x4 :: x5 :: x6 :: x7 :: x8 :: x9 :: x10 :: x11 :: x12 :: x13 :: x14 :: x15 :: x16 :: some (.int x) :: ls) st S I J R Q) : Ex j pc (x0 :: x1 :: x2 :: x3 :: x4 :: x5 :: x6 :: x7 :: x8 :: x9 :: x10 :: x11 :: x12 :: x13 :: x14 :: x15 :: x16 :: y :: ls) (.int x :: st) S I J R Q := by
  obtain ⟨len, he, rfl⟩ := he
  exact Ex.pure he rfl rfl (by simp [amPure, amSt, hcl]) k
theorem SA17 {x0 x1 x2 x3 x4 x5 x6 x7 x8 x9 x10 x11 x12 x13 x14 x15 x16 : Option Value} {y : Option Value} {x : Nat} (he : amT j pc pc' (.astore 17) op) (hcl : amClr x16 = x16) (k : Ex j pc' (x0 :: x1 :: x2 :: x3 :: x4 :: x5 :: x6 :: x7 :: x8 :: x9 :: x10 :: x11 :: x12 :: x13 :: x14 :: x15 :: x16 :: some (.ref x) :: ls) st S I J R Q) : Ex j pc (x0 :: x1 :: x2 :: x3 :: x4 :: x5 :: x6 :: x7 :: x8 :: x9 :: x10 :: x11 :: x12 :: x13 :: x14 :: x15 :: x16 :: y :: ls) (.ref x :: st) S I J R Q := by
  obtain ⟨len, he, rfl⟩ := he
  exact Ex.pure he rfl rfl (by simp [amPure, amSt, hcl]) k
theorem SN17 {x0 x1 x2 x3 x4 x5 x6 x7 x8 x9 x10 x11 x12 x13 x14 x15 x16 : Option Value} {y : Option Value} (he : amT j pc pc' (.astore 17) op) (hcl : amClr x16 = x16) (k : Ex j pc' (x0 :: x1 :: x2 :: x3 :: x4 :: x5 :: x6 :: x7 :: x8 :: x9 :: x10 :: x11 :: x12 :: x13 :: x14 :: x15 :: x16 :: some .null :: ls) st S I J R Q) : Ex j pc (x0 :: x1 :: x2 :: x3 :: x4 :: x5 :: x6 :: x7 :: x8 :: x9 :: x10 :: x11 :: x12 :: x13 :: x14 :: x15 :: x16 :: y :: ls) (.null :: st) S I J R Q := by
  obtain ⟨len, he, rfl⟩ := he
  exact Ex.pure he rfl rfl (by simp [amPure, amSt, hcl]) k
theorem SJ17 {x0 x1 x2 x3 x4 x5 x6 x7 x8 x9 x10 x11 x12 x13 x14 x15 x16 : Option Value} {y z : Option Value} {x : Int64} (he : amT j pc pc' (.lstore 17) op) (hcl : amClr x16 = x16) (k : Ex j pc' (x0 :: x1 :: x2 :: x3 :: x4 :: x5 :: x6 :: x7 :: x8 :: x9 :: x10 :: x11 :: x12 :: x13 :: x14 :: x15 :: x16 :: some (.long x) :: none :: ls) st S I J R Q) : Ex j pc (x0 :: x1 :: x2 :: x3 :: x4 :: x5 :: x6 :: x7 :: x8 :: x9 :: x10 :: x11 :: x12 :: x13 :: x14 :: x15 :: x16 :: y :: z :: ls) (.long x :: st) S I J R Q := by
  obtain ⟨len, he, rfl⟩ := he
  exact Ex.pure he rfl rfl (by simp [amPure, amSt2, hcl]) k
theorem SId17 {x0 x1 x2 x3 x4 x5 x6 x7 x8 x9 x10 x11 x12 x13 x14 x15 : Option Value} {y : Option Value} {q : Int64} {x : Int32} (he : amT j pc pc' (.istore 17) op) (k : Ex j pc' (x0 :: x1 :: x2 :: x3 :: x4 :: x5 :: x6 :: x7 :: x8 :: x9 :: x10 :: x11 :: x12 :: x13 :: x14 :: x15 :: none :: some (.int x) :: ls) st S I J R Q) : Ex j pc (x0 :: x1 :: x2 :: x3 :: x4 :: x5 :: x6 :: x7 :: x8 :: x9 :: x10 :: x11 :: x12 :: x13 :: x14 :: x15 :: some (.long q) :: y :: ls) (.int x :: st) S I J R Q := by
  obtain ⟨len, he, rfl⟩ := he
  exact Ex.pure he rfl rfl (by simp [amPure, amSt, amClr]) k
theorem SAd17 {x0 x1 x2 x3 x4 x5 x6 x7 x8 x9 x10 x11 x12 x13 x14 x15 : Option Value} {y : Option Value} {q : Int64} {x : Nat} (he : amT j pc pc' (.astore 17) op) (k : Ex j pc' (x0 :: x1 :: x2 :: x3 :: x4 :: x5 :: x6 :: x7 :: x8 :: x9 :: x10 :: x11 :: x12 :: x13 :: x14 :: x15 :: none :: some (.ref x) :: ls) st S I J R Q) : Ex j pc (x0 :: x1 :: x2 :: x3 :: x4 :: x5 :: x6 :: x7 :: x8 :: x9 :: x10 :: x11 :: x12 :: x13 :: x14 :: x15 :: some (.long q) :: y :: ls) (.ref x :: st) S I J R Q := by
  obtain ⟨len, he, rfl⟩ := he
  exact Ex.pure he rfl rfl (by simp [amPure, amSt, amClr]) k
theorem Inc17 {x0 x1 x2 x3 x4 x5 x6 x7 x8 x9 x10 x11 x12 x13 x14 x15 x16 : Option Value} {x : Int32} {n : Int} {d : Int32} (he : amT j pc pc' (.iinc 17 n) op) (hd : Int32.ofInt n = d) (hcl : amClr x16 = x16) (k : Ex j pc' (x0 :: x1 :: x2 :: x3 :: x4 :: x5 :: x6 :: x7 :: x8 :: x9 :: x10 :: x11 :: x12 :: x13 :: x14 :: x15 :: x16 :: some (.int (x + d)) :: ls) st S I J R Q) : Ex j pc (x0 :: x1 :: x2 :: x3 :: x4 :: x5 :: x6 :: x7 :: x8 :: x9 :: x10 :: x11 :: x12 :: x13 :: x14 :: x15 :: x16 :: some (.int x) :: ls) st S I J R Q := by
  obtain ⟨len, he, rfl⟩ := he
  subst hd
  exact Ex.pure he rfl rfl (by simp [amPure, amSt, hcl]) k
theorem AiN {a n k : Nat} {x : Int32} (he : amT j pc pc' .iaload op) (ha : amA S a 0 n) (hx : x = nI k) (hk : k < n) (hn : n < 2 ^ 31) (kk : Ex j pc' ls (.int (I a k) :: st) S I J R Q) : Ex j pc ls (.int x :: .ref a :: st) S I J R Q := by
  subst hx
  have e := nI_clamp (n := k) (by omega)
  exact Ai he ha (nI_pos' (by omega)) (by rw [e]; exact hk) (by rw [e]; exact kk)
theorem AbN {a n k : Nat} {x : Int32} (he : amT j pc pc' .baload op) (ha : amA S a 2 n) (hx : x = nI k) (hk : k < n) (hn : n < 2 ^ 31) (kk : Ex j pc' ls (.int (I a k) :: st) S I J R Q) : Ex j pc ls (.int x :: .ref a :: st) S I J R Q := by
  subst hx
  have e := nI_clamp (n := k) (by omega)
  exact Ab he ha (nI_pos' (by omega)) (by rw [e]; exact hk) (by rw [e]; exact kk)
theorem AjN {a n k : Nat} {x : Int32} (he : amT j pc pc' .laload op) (ha : amA S a 1 n) (hx : x = nI k) (hk : k < n) (hn : n < 2 ^ 31) (kk : Ex j pc' ls (.long (J a k) :: st) S I J R Q) : Ex j pc ls (.int x :: .ref a :: st) S I J R Q := by
  subst hx
  have e := nI_clamp (n := k) (by omega)
  exact Aj he ha (nI_pos' (by omega)) (by rw [e]; exact hk) (by rw [e]; exact kk)
theorem ArN {a b n t k : Nat} {x : Int32} (he : amT j pc pc' .aaload op) (ha : amA S a t n) (ht : t = 3 ∨ t = 4) (hx : x = nI k) (hk : k < n) (hn : n < 2 ^ 31) (hr : R a k = some b) (kk : Ex j pc' ls (.ref b :: st) S I J R Q) : Ex j pc ls (.int x :: .ref a :: st) S I J R Q := by
  subst hx
  have e := nI_clamp (n := k) (by omega)
  exact Ar he ha ht (nI_pos' (by omega)) (by rw [e]; exact hk) (by rw [e]; exact hr) kk
theorem WiN {a n k : Nat} {x v : Int32} (he : amT j pc pc' .iastore op) (ha : amA S a 0 n) (hx : x = nI k) (hk : k < n) (hn : n < 2 ^ 31) (kk : Ex j pc' ls st S (amU I a k v) J R Q) : Ex j pc ls (.int v :: .int x :: .ref a :: st) S I J R Q := by
  subst hx
  have e := nI_clamp (n := k) (by omega)
  exact Wi he ha (nI_pos' (by omega)) (by rw [e]; exact hk) (by rw [e]; exact kk)
theorem WbN {a n k : Nat} {x v : Int32} (he : amT j pc pc' .bastore op) (ha : amA S a 2 n) (hx : x = nI k) (hk : k < n) (hn : n < 2 ^ 31) (kk : Ex j pc' ls st S (amU I a k v.toInt8.toInt32) J R Q) : Ex j pc ls (.int v :: .int x :: .ref a :: st) S I J R Q := by
  subst hx
  have e := nI_clamp (n := k) (by omega)
  exact Wb he ha (nI_pos' (by omega)) (by rw [e]; exact hk) (by rw [e]; exact kk)
theorem WjN {a n k : Nat} {x : Int32} {v : Int64} (he : amT j pc pc' .lastore op) (ha : amA S a 1 n) (hx : x = nI k) (hk : k < n) (hn : n < 2 ^ 31) (kk : Ex j pc' ls st S I (amU J a k v) R Q) : Ex j pc ls (.long v :: .int x :: .ref a :: st) S I J R Q := by
  subst hx
  have e := nI_clamp (n := k) (by omega)
  exact Wj he ha (nI_pos' (by omega)) (by rw [e]; exact hk) (by rw [e]; exact kk)
theorem IaddN {a b : Nat} {x y : Int32} (he : amT j pc pc' .iadd op) (hx : x = nI a) (hy : y = nI b) (k : Ex j pc' ls (.int (nI (a + b)) :: st) S I J R Q) : Ex j pc ls (.int y :: .int x :: st) S I J R Q := by
  subst hx; subst hy; rw [← nI_add] at k; exact Iadd he k
theorem IsubN {a b : Nat} {x y : Int32} (he : amT j pc pc' .isub op) (hx : x = nI a) (hy : y = nI b) (h : b ≤ a) (k : Ex j pc' ls (.int (nI (a - b)) :: st) S I J R Q) : Ex j pc ls (.int y :: .int x :: st) S I J R Q := by
  subst hx; subst hy; rw [← pk_sub h] at k; exact Isub he k
theorem ImulN {a b : Nat} {x y : Int32} (he : amT j pc pc' .imul op) (hx : x = nI a) (hy : y = nI b) (k : Ex j pc' ls (.int (nI (a * b)) :: st) S I J R Q) : Ex j pc ls (.int y :: .int x :: st) S I J R Q := by
  subst hx; subst hy; rw [← pk_mul] at k; exact Imul he k
theorem CN_lt {a b : Nat} {x y : Int32} {off : Int} {t : Nat} (he : amT j pc pc' (.if_icmp .lt off) op) (ht : amTg pc off = some t) (hx : x = nI a) (hy : y = nI b) (ha : a < 2 ^ 31) (hb : b < 2 ^ 31) (kt : a < b → Ex j t ls st S I J R Q) (kf : b ≤ a → Ex j pc' ls st S I J R Q) : Ex j pc ls (.int y :: .int x :: st) S I J R Q := by
  subst hx; subst hy
  exact C_lt he ht (fun h => kt ((nI_ltI ha hb).mp h)) (fun h => kf (Nat.not_lt.mp (fun q => h ((nI_ltI ha hb).mpr q))))
theorem CN_ge {a b : Nat} {x y : Int32} {off : Int} {t : Nat} (he : amT j pc pc' (.if_icmp .ge off) op) (ht : amTg pc off = some t) (hx : x = nI a) (hy : y = nI b) (ha : a < 2 ^ 31) (hb : b < 2 ^ 31) (kt : b ≤ a → Ex j t ls st S I J R Q) (kf : a < b → Ex j pc' ls st S I J R Q) : Ex j pc ls (.int y :: .int x :: st) S I J R Q := by
  subst hx; subst hy
  exact C_ge he ht (fun h => kt ((nI_leI hb ha).mp h)) (fun h => kf (Nat.not_le.mp (fun q => h ((nI_leI hb ha).mpr q))))
theorem CN_gt {a b : Nat} {x y : Int32} {off : Int} {t : Nat} (he : amT j pc pc' (.if_icmp .gt off) op) (ht : amTg pc off = some t) (hx : x = nI a) (hy : y = nI b) (ha : a < 2 ^ 31) (hb : b < 2 ^ 31) (kt : b < a → Ex j t ls st S I J R Q) (kf : a ≤ b → Ex j pc' ls st S I J R Q) : Ex j pc ls (.int y :: .int x :: st) S I J R Q := by
  subst hx; subst hy
  exact C_gt he ht (fun h => kt ((nI_ltI hb ha).mp h)) (fun h => kf (Nat.not_lt.mp (fun q => h ((nI_ltI hb ha).mpr q))))
theorem CN_le {a b : Nat} {x y : Int32} {off : Int} {t : Nat} (he : amT j pc pc' (.if_icmp .le off) op) (ht : amTg pc off = some t) (hx : x = nI a) (hy : y = nI b) (ha : a < 2 ^ 31) (hb : b < 2 ^ 31) (kt : a ≤ b → Ex j t ls st S I J R Q) (kf : b < a → Ex j pc' ls st S I J R Q) : Ex j pc ls (.int y :: .int x :: st) S I J R Q := by
  subst hx; subst hy
  exact C_le he ht (fun h => kt ((nI_leI ha hb).mp h)) (fun h => kf (Nat.not_le.mp (fun q => h ((nI_leI ha hb).mpr q))))
theorem CN_eq {a b : Nat} {x y : Int32} {off : Int} {t : Nat} (he : amT j pc pc' (.if_icmp .eq off) op) (ht : amTg pc off = some t) (hx : x = nI a) (hy : y = nI b) (ha : a < 2 ^ 31) (hb : b < 2 ^ 31) (kt : a = b → Ex j t ls st S I J R Q) (kf : a ≠ b → Ex j pc' ls st S I J R Q) : Ex j pc ls (.int y :: .int x :: st) S I J R Q := by
  subst hx; subst hy
  exact C_eq he ht (fun h => kt ((nI_eq ha hb).mp h)) (fun h => kf (id (fun q => h ((nI_eq ha hb).mpr q))))
theorem CN_ne {a b : Nat} {x y : Int32} {off : Int} {t : Nat} (he : amT j pc pc' (.if_icmp .ne off) op) (ht : amTg pc off = some t) (hx : x = nI a) (hy : y = nI b) (ha : a < 2 ^ 31) (hb : b < 2 ^ 31) (kt : a ≠ b → Ex j t ls st S I J R Q) (kf : a = b → Ex j pc' ls st S I J R Q) : Ex j pc ls (.int y :: .int x :: st) S I J R Q := by
  subst hx; subst hy
  exact C_ne he ht (fun h => kt ((not_congr (nI_eq ha hb)).mp h)) (fun h => kf (Decidable.not_not.mp (fun q => h ((not_congr (nI_eq ha hb)).mpr q))))
theorem IncN0 {m : Nat} (he : amT j pc pc' (.iinc 0 1) op) (k : Ex j pc' (some (.int (nI (m + 1))) :: ls) st S I J R Q) : Ex j pc (some (.int (nI m)) :: ls) st S I J R Q := by
  rw [← nI_1] at k
  exact Inc0 he rfl k
theorem DecN0 {m : Nat} (he : amT j pc pc' (.iinc 0 (-1)) op) (k : Ex j pc' (some (.int (nI m)) :: ls) st S I J R Q) : Ex j pc (some (.int (nI (m + 1))) :: ls) st S I J R Q := by
  rw [← pk_m1] at k
  exact Inc0 he rfl k
theorem IncN1 {x0 : Option Value} {m : Nat} (he : amT j pc pc' (.iinc 1 1) op) (hcl : amClr x0 = x0) (k : Ex j pc' (x0 :: some (.int (nI (m + 1))) :: ls) st S I J R Q) : Ex j pc (x0 :: some (.int (nI m)) :: ls) st S I J R Q := by
  rw [← nI_1] at k
  exact Inc1 he rfl hcl k
theorem DecN1 {x0 : Option Value} {m : Nat} (he : amT j pc pc' (.iinc 1 (-1)) op) (hcl : amClr x0 = x0) (k : Ex j pc' (x0 :: some (.int (nI m)) :: ls) st S I J R Q) : Ex j pc (x0 :: some (.int (nI (m + 1))) :: ls) st S I J R Q := by
  rw [← pk_m1] at k
  exact Inc1 he rfl hcl k
theorem IncN2 {x0 x1 : Option Value} {m : Nat} (he : amT j pc pc' (.iinc 2 1) op) (hcl : amClr x1 = x1) (k : Ex j pc' (x0 :: x1 :: some (.int (nI (m + 1))) :: ls) st S I J R Q) : Ex j pc (x0 :: x1 :: some (.int (nI m)) :: ls) st S I J R Q := by
  rw [← nI_1] at k
  exact Inc2 he rfl hcl k
theorem DecN2 {x0 x1 : Option Value} {m : Nat} (he : amT j pc pc' (.iinc 2 (-1)) op) (hcl : amClr x1 = x1) (k : Ex j pc' (x0 :: x1 :: some (.int (nI m)) :: ls) st S I J R Q) : Ex j pc (x0 :: x1 :: some (.int (nI (m + 1))) :: ls) st S I J R Q := by
  rw [← pk_m1] at k
  exact Inc2 he rfl hcl k
theorem IncN3 {x0 x1 x2 : Option Value} {m : Nat} (he : amT j pc pc' (.iinc 3 1) op) (hcl : amClr x2 = x2) (k : Ex j pc' (x0 :: x1 :: x2 :: some (.int (nI (m + 1))) :: ls) st S I J R Q) : Ex j pc (x0 :: x1 :: x2 :: some (.int (nI m)) :: ls) st S I J R Q := by
  rw [← nI_1] at k
  exact Inc3 he rfl hcl k
theorem DecN3 {x0 x1 x2 : Option Value} {m : Nat} (he : amT j pc pc' (.iinc 3 (-1)) op) (hcl : amClr x2 = x2) (k : Ex j pc' (x0 :: x1 :: x2 :: some (.int (nI m)) :: ls) st S I J R Q) : Ex j pc (x0 :: x1 :: x2 :: some (.int (nI (m + 1))) :: ls) st S I J R Q := by
  rw [← pk_m1] at k
  exact Inc3 he rfl hcl k
theorem IncN4 {x0 x1 x2 x3 : Option Value} {m : Nat} (he : amT j pc pc' (.iinc 4 1) op) (hcl : amClr x3 = x3) (k : Ex j pc' (x0 :: x1 :: x2 :: x3 :: some (.int (nI (m + 1))) :: ls) st S I J R Q) : Ex j pc (x0 :: x1 :: x2 :: x3 :: some (.int (nI m)) :: ls) st S I J R Q := by
  rw [← nI_1] at k
  exact Inc4 he rfl hcl k
theorem DecN4 {x0 x1 x2 x3 : Option Value} {m : Nat} (he : amT j pc pc' (.iinc 4 (-1)) op) (hcl : amClr x3 = x3) (k : Ex j pc' (x0 :: x1 :: x2 :: x3 :: some (.int (nI m)) :: ls) st S I J R Q) : Ex j pc (x0 :: x1 :: x2 :: x3 :: some (.int (nI (m + 1))) :: ls) st S I J R Q := by
  rw [← pk_m1] at k
  exact Inc4 he rfl hcl k
theorem IncN5 {x0 x1 x2 x3 x4 : Option Value} {m : Nat} (he : amT j pc pc' (.iinc 5 1) op) (hcl : amClr x4 = x4) (k : Ex j pc' (x0 :: x1 :: x2 :: x3 :: x4 :: some (.int (nI (m + 1))) :: ls) st S I J R Q) : Ex j pc (x0 :: x1 :: x2 :: x3 :: x4 :: some (.int (nI m)) :: ls) st S I J R Q := by
  rw [← nI_1] at k
  exact Inc5 he rfl hcl k
theorem DecN5 {x0 x1 x2 x3 x4 : Option Value} {m : Nat} (he : amT j pc pc' (.iinc 5 (-1)) op) (hcl : amClr x4 = x4) (k : Ex j pc' (x0 :: x1 :: x2 :: x3 :: x4 :: some (.int (nI m)) :: ls) st S I J R Q) : Ex j pc (x0 :: x1 :: x2 :: x3 :: x4 :: some (.int (nI (m + 1))) :: ls) st S I J R Q := by
  rw [← pk_m1] at k
  exact Inc5 he rfl hcl k
theorem IncN6 {x0 x1 x2 x3 x4 x5 : Option Value} {m : Nat} (he : amT j pc pc' (.iinc 6 1) op) (hcl : amClr x5 = x5) (k : Ex j pc' (x0 :: x1 :: x2 :: x3 :: x4 :: x5 :: some (.int (nI (m + 1))) :: ls) st S I J R Q) : Ex j pc (x0 :: x1 :: x2 :: x3 :: x4 :: x5 :: some (.int (nI m)) :: ls) st S I J R Q := by
  rw [← nI_1] at k
  exact Inc6 he rfl hcl k
theorem DecN6 {x0 x1 x2 x3 x4 x5 : Option Value} {m : Nat} (he : amT j pc pc' (.iinc 6 (-1)) op) (hcl : amClr x5 = x5) (k : Ex j pc' (x0 :: x1 :: x2 :: x3 :: x4 :: x5 :: some (.int (nI m)) :: ls) st S I J R Q) : Ex j pc (x0 :: x1 :: x2 :: x3 :: x4 :: x5 :: some (.int (nI (m + 1))) :: ls) st S I J R Q := by
  rw [← pk_m1] at k
  exact Inc6 he rfl hcl k
theorem IncN7 {x0 x1 x2 x3 x4 x5 x6 : Option Value} {m : Nat} (he : amT j pc pc' (.iinc 7 1) op) (hcl : amClr x6 = x6) (k : Ex j pc' (x0 :: x1 :: x2 :: x3 :: x4 :: x5 :: x6 :: some (.int (nI (m + 1))) :: ls) st S I J R Q) : Ex j pc (x0 :: x1 :: x2 :: x3 :: x4 :: x5 :: x6 :: some (.int (nI m)) :: ls) st S I J R Q := by
  rw [← nI_1] at k
  exact Inc7 he rfl hcl k
theorem DecN7 {x0 x1 x2 x3 x4 x5 x6 : Option Value} {m : Nat} (he : amT j pc pc' (.iinc 7 (-1)) op) (hcl : amClr x6 = x6) (k : Ex j pc' (x0 :: x1 :: x2 :: x3 :: x4 :: x5 :: x6 :: some (.int (nI m)) :: ls) st S I J R Q) : Ex j pc (x0 :: x1 :: x2 :: x3 :: x4 :: x5 :: x6 :: some (.int (nI (m + 1))) :: ls) st S I J R Q := by
  rw [← pk_m1] at k
  exact Inc7 he rfl hcl k
theorem IncN8 {x0 x1 x2 x3 x4 x5 x6 x7 : Option Value} {m : Nat} (he : amT j pc pc' (.iinc 8 1) op) (hcl : amClr x7 = x7) (k : Ex j pc' (x0 :: x1 :: x2 :: x3 :: x4 :: x5 :: x6 :: x7 :: some (.int (nI (m + 1))) :: ls) st S I J R Q) : Ex j pc (x0 :: x1 :: x2 :: x3 :: x4 :: x5 :: x6 :: x7 :: some (.int (nI m)) :: ls) st S I J R Q := by
  rw [← nI_1] at k
  exact Inc8 he rfl hcl k
theorem DecN8 {x0 x1 x2 x3 x4 x5 x6 x7 : Option Value} {m : Nat} (he : amT j pc pc' (.iinc 8 (-1)) op) (hcl : amClr x7 = x7) (k : Ex j pc' (x0 :: x1 :: x2 :: x3 :: x4 :: x5 :: x6 :: x7 :: some (.int (nI m)) :: ls) st S I J R Q) : Ex j pc (x0 :: x1 :: x2 :: x3 :: x4 :: x5 :: x6 :: x7 :: some (.int (nI (m + 1))) :: ls) st S I J R Q := by
  rw [← pk_m1] at k
  exact Inc8 he rfl hcl k
theorem IncN9 {x0 x1 x2 x3 x4 x5 x6 x7 x8 : Option Value} {m : Nat} (he : amT j pc pc' (.iinc 9 1) op) (hcl : amClr x8 = x8) (k : Ex j pc' (x0 :: x1 :: x2 :: x3 :: x4 :: x5 :: x6 :: x7 :: x8 :: some (.int (nI (m + 1))) :: ls) st S I J R Q) : Ex j pc (x0 :: x1 :: x2 :: x3 :: x4 :: x5 :: x6 :: x7 :: x8 :: some (.int (nI m)) :: ls) st S I J R Q := by
  rw [← nI_1] at k
  exact Inc9 he rfl hcl k
theorem DecN9 {x0 x1 x2 x3 x4 x5 x6 x7 x8 : Option Value} {m : Nat} (he : amT j pc pc' (.iinc 9 (-1)) op) (hcl : amClr x8 = x8) (k : Ex j pc' (x0 :: x1 :: x2 :: x3 :: x4 :: x5 :: x6 :: x7 :: x8 :: some (.int (nI m)) :: ls) st S I J R Q) : Ex j pc (x0 :: x1 :: x2 :: x3 :: x4 :: x5 :: x6 :: x7 :: x8 :: some (.int (nI (m + 1))) :: ls) st S I J R Q := by
  rw [← pk_m1] at k
  exact Inc9 he rfl hcl k
theorem IncN10 {x0 x1 x2 x3 x4 x5 x6 x7 x8 x9 : Option Value} {m : Nat} (he : amT j pc pc' (.iinc 10 1) op) (hcl : amClr x9 = x9) (k : Ex j pc' (x0 :: x1 :: x2 :: x3 :: x4 :: x5 :: x6 :: x7 :: x8 :: x9 :: some (.int (nI (m + 1))) :: ls) st S I J R Q) : Ex j pc (x0 :: x1 :: x2 :: x3 :: x4 :: x5 :: x6 :: x7 :: x8 :: x9 :: some (.int (nI m)) :: ls) st S I J R Q := by
  rw [← nI_1] at k
  exact Inc10 he rfl hcl k
theorem DecN10 {x0 x1 x2 x3 x4 x5 x6 x7 x8 x9 : Option Value} {m : Nat} (he : amT j pc pc' (.iinc 10 (-1)) op) (hcl : amClr x9 = x9) (k : Ex j pc' (x0 :: x1 :: x2 :: x3 :: x4 :: x5 :: x6 :: x7 :: x8 :: x9 :: some (.int (nI m)) :: ls) st S I J R Q) : Ex j pc (x0 :: x1 :: x2 :: x3 :: x4 :: x5 :: x6 :: x7 :: x8 :: x9 :: some (.int (nI (m + 1))) :: ls) st S I J R Q := by
  rw [← pk_m1] at k
  exact Inc10 he rfl hcl k
theorem IncN11 {x0 x1 x2 x3 x4 x5 x6 x7 x8 x9 x10 : Option Value} {m : Nat} (he : amT j pc pc' (.iinc 11 1) op) (hcl : amClr x10 = x10) (k : Ex j pc' (x0 :: x1 :: x2 :: x3 :: x4 :: x5 :: x6 :: x7 :: x8 :: x9 :: x10 :: some (.int (nI (m + 1))) :: ls) st S I J R Q) : Ex j pc (x0 :: x1 :: x2 :: x3 :: x4 :: x5 :: x6 :: x7 :: x8 :: x9 :: x10 :: some (.int (nI m)) :: ls) st S I J R Q := by
  rw [← nI_1] at k
  exact Inc11 he rfl hcl k
theorem DecN11 {x0 x1 x2 x3 x4 x5 x6 x7 x8 x9 x10 : Option Value} {m : Nat} (he : amT j pc pc' (.iinc 11 (-1)) op) (hcl : amClr x10 = x10) (k : Ex j pc' (x0 :: x1 :: x2 :: x3 :: x4 :: x5 :: x6 :: x7 :: x8 :: x9 :: x10 :: some (.int (nI m)) :: ls) st S I J R Q) : Ex j pc (x0 :: x1 :: x2 :: x3 :: x4 :: x5 :: x6 :: x7 :: x8 :: x9 :: x10 :: some (.int (nI (m + 1))) :: ls) st S I J R Q := by
  rw [← pk_m1] at k
  exact Inc11 he rfl hcl k
theorem IncN12 {x0 x1 x2 x3 x4 x5 x6 x7 x8 x9 x10 x11 : Option Value} {m : Nat} (he : amT j pc pc' (.iinc 12 1) op) (hcl : amClr x11 = x11) (k : Ex j pc' (x0 :: x1 :: x2 :: x3 :: x4 :: x5 :: x6 :: x7 :: x8 :: x9 :: x10 :: x11 :: some (.int (nI (m + 1))) :: ls) st S I J R Q) : Ex j pc (x0 :: x1 :: x2 :: x3 :: x4 :: x5 :: x6 :: x7 :: x8 :: x9 :: x10 :: x11 :: some (.int (nI m)) :: ls) st S I J R Q := by
  rw [← nI_1] at k
  exact Inc12 he rfl hcl k
theorem DecN12 {x0 x1 x2 x3 x4 x5 x6 x7 x8 x9 x10 x11 : Option Value} {m : Nat} (he : amT j pc pc' (.iinc 12 (-1)) op) (hcl : amClr x11 = x11) (k : Ex j pc' (x0 :: x1 :: x2 :: x3 :: x4 :: x5 :: x6 :: x7 :: x8 :: x9 :: x10 :: x11 :: some (.int (nI m)) :: ls) st S I J R Q) : Ex j pc (x0 :: x1 :: x2 :: x3 :: x4 :: x5 :: x6 :: x7 :: x8 :: x9 :: x10 :: x11 :: some (.int (nI (m + 1))) :: ls) st S I J R Q := by
  rw [← pk_m1] at k
  exact Inc12 he rfl hcl k
theorem IncN13 {x0 x1 x2 x3 x4 x5 x6 x7 x8 x9 x10 x11 x12 : Option Value} {m : Nat} (he : amT j pc pc' (.iinc 13 1) op) (hcl : amClr x12 = x12) (k : Ex j pc' (x0 :: x1 :: x2 :: x3 :: x4 :: x5 :: x6 :: x7 :: x8 :: x9 :: x10 :: x11 :: x12 :: some (.int (nI (m + 1))) :: ls) st S I J R Q) : Ex j pc (x0 :: x1 :: x2 :: x3 :: x4 :: x5 :: x6 :: x7 :: x8 :: x9 :: x10 :: x11 :: x12 :: some (.int (nI m)) :: ls) st S I J R Q := by
  rw [← nI_1] at k
  exact Inc13 he rfl hcl k
theorem DecN13 {x0 x1 x2 x3 x4 x5 x6 x7 x8 x9 x10 x11 x12 : Option Value} {m : Nat} (he : amT j pc pc' (.iinc 13 (-1)) op) (hcl : amClr x12 = x12) (k : Ex j pc' (x0 :: x1 :: x2 :: x3 :: x4 :: x5 :: x6 :: x7 :: x8 :: x9 :: x10 :: x11 :: x12 :: some (.int (nI m)) :: ls) st S I J R Q) : Ex j pc (x0 :: x1 :: x2 :: x3 :: x4 :: x5 :: x6 :: x7 :: x8 :: x9 :: x10 :: x11 :: x12 :: some (.int (nI (m + 1))) :: ls) st S I J R Q := by
  rw [← pk_m1] at k
  exact Inc13 he rfl hcl k
theorem IncN14 {x0 x1 x2 x3 x4 x5 x6 x7 x8 x9 x10 x11 x12 x13 : Option Value} {m : Nat} (he : amT j pc pc' (.iinc 14 1) op) (hcl : amClr x13 = x13) (k : Ex j pc' (x0 :: x1 :: x2 :: x3 :: x4 :: x5 :: x6 :: x7 :: x8 :: x9 :: x10 :: x11 :: x12 :: x13 :: some (.int (nI (m + 1))) :: ls) st S I J R Q) : Ex j pc (x0 :: x1 :: x2 :: x3 :: x4 :: x5 :: x6 :: x7 :: x8 :: x9 :: x10 :: x11 :: x12 :: x13 :: some (.int (nI m)) :: ls) st S I J R Q := by
  rw [← nI_1] at k
  exact Inc14 he rfl hcl k
theorem DecN14 {x0 x1 x2 x3 x4 x5 x6 x7 x8 x9 x10 x11 x12 x13 : Option Value} {m : Nat} (he : amT j pc pc' (.iinc 14 (-1)) op) (hcl : amClr x13 = x13) (k : Ex j pc' (x0 :: x1 :: x2 :: x3 :: x4 :: x5 :: x6 :: x7 :: x8 :: x9 :: x10 :: x11 :: x12 :: x13 :: some (.int (nI m)) :: ls) st S I J R Q) : Ex j pc (x0 :: x1 :: x2 :: x3 :: x4 :: x5 :: x6 :: x7 :: x8 :: x9 :: x10 :: x11 :: x12 :: x13 :: some (.int (nI (m + 1))) :: ls) st S I J R Q := by
  rw [← pk_m1] at k
  exact Inc14 he rfl hcl k
theorem IncN15 {x0 x1 x2 x3 x4 x5 x6 x7 x8 x9 x10 x11 x12 x13 x14 : Option Value} {m : Nat} (he : amT j pc pc' (.iinc 15 1) op) (hcl : amClr x14 = x14) (k : Ex j pc' (x0 :: x1 :: x2 :: x3 :: x4 :: x5 :: x6 :: x7 :: x8 :: x9 :: x10 :: x11 :: x12 :: x13 :: x14 :: some (.int (nI (m + 1))) :: ls) st S I J R Q) : Ex j pc (x0 :: x1 :: x2 :: x3 :: x4 :: x5 :: x6 :: x7 :: x8 :: x9 :: x10 :: x11 :: x12 :: x13 :: x14 :: some (.int (nI m)) :: ls) st S I J R Q := by
  rw [← nI_1] at k
  exact Inc15 he rfl hcl k
theorem DecN15 {x0 x1 x2 x3 x4 x5 x6 x7 x8 x9 x10 x11 x12 x13 x14 : Option Value} {m : Nat} (he : amT j pc pc' (.iinc 15 (-1)) op) (hcl : amClr x14 = x14) (k : Ex j pc' (x0 :: x1 :: x2 :: x3 :: x4 :: x5 :: x6 :: x7 :: x8 :: x9 :: x10 :: x11 :: x12 :: x13 :: x14 :: some (.int (nI m)) :: ls) st S I J R Q) : Ex j pc (x0 :: x1 :: x2 :: x3 :: x4 :: x5 :: x6 :: x7 :: x8 :: x9 :: x10 :: x11 :: x12 :: x13 :: x14 :: some (.int (nI (m + 1))) :: ls) st S I J R Q := by
  rw [← pk_m1] at k
  exact Inc15 he rfl hcl k
theorem IncN16 {x0 x1 x2 x3 x4 x5 x6 x7 x8 x9 x10 x11 x12 x13 x14 x15 : Option Value} {m : Nat} (he : amT j pc pc' (.iinc 16 1) op) (hcl : amClr x15 = x15) (k : Ex j pc' (x0 :: x1 :: x2 :: x3 :: x4 :: x5 :: x6 :: x7 :: x8 :: x9 :: x10 :: x11 :: x12 :: x13 :: x14 :: x15 :: some (.int (nI (m + 1))) :: ls) st S I J R Q) : Ex j pc (x0 :: x1 :: x2 :: x3 :: x4 :: x5 :: x6 :: x7 :: x8 :: x9 :: x10 :: x11 :: x12 :: x13 :: x14 :: x15 :: some (.int (nI m)) :: ls) st S I J R Q := by
  rw [← nI_1] at k
  exact Inc16 he rfl hcl k
theorem DecN16 {x0 x1 x2 x3 x4 x5 x6 x7 x8 x9 x10 x11 x12 x13 x14 x15 : Option Value} {m : Nat} (he : amT j pc pc' (.iinc 16 (-1)) op) (hcl : amClr x15 = x15) (k : Ex j pc' (x0 :: x1 :: x2 :: x3 :: x4 :: x5 :: x6 :: x7 :: x8 :: x9 :: x10 :: x11 :: x12 :: x13 :: x14 :: x15 :: some (.int (nI m)) :: ls) st S I J R Q) : Ex j pc (x0 :: x1 :: x2 :: x3 :: x4 :: x5 :: x6 :: x7 :: x8 :: x9 :: x10 :: x11 :: x12 :: x13 :: x14 :: x15 :: some (.int (nI (m + 1))) :: ls) st S I J R Q := by
  rw [← pk_m1] at k
  exact Inc16 he rfl hcl k
theorem IncN17 {x0 x1 x2 x3 x4 x5 x6 x7 x8 x9 x10 x11 x12 x13 x14 x15 x16 : Option Value} {m : Nat} (he : amT j pc pc' (.iinc 17 1) op) (hcl : amClr x16 = x16) (k : Ex j pc' (x0 :: x1 :: x2 :: x3 :: x4 :: x5 :: x6 :: x7 :: x8 :: x9 :: x10 :: x11 :: x12 :: x13 :: x14 :: x15 :: x16 :: some (.int (nI (m + 1))) :: ls) st S I J R Q) : Ex j pc (x0 :: x1 :: x2 :: x3 :: x4 :: x5 :: x6 :: x7 :: x8 :: x9 :: x10 :: x11 :: x12 :: x13 :: x14 :: x15 :: x16 :: some (.int (nI m)) :: ls) st S I J R Q := by
  rw [← nI_1] at k
  exact Inc17 he rfl hcl k
theorem DecN17 {x0 x1 x2 x3 x4 x5 x6 x7 x8 x9 x10 x11 x12 x13 x14 x15 x16 : Option Value} {m : Nat} (he : amT j pc pc' (.iinc 17 (-1)) op) (hcl : amClr x16 = x16) (k : Ex j pc' (x0 :: x1 :: x2 :: x3 :: x4 :: x5 :: x6 :: x7 :: x8 :: x9 :: x10 :: x11 :: x12 :: x13 :: x14 :: x15 :: x16 :: some (.int (nI m)) :: ls) st S I J R Q) : Ex j pc (x0 :: x1 :: x2 :: x3 :: x4 :: x5 :: x6 :: x7 :: x8 :: x9 :: x10 :: x11 :: x12 :: x13 :: x14 :: x15 :: x16 :: some (.int (nI (m + 1))) :: ls) st S I J R Q := by
  rw [← pk_m1] at k
  exact Inc17 he rfl hcl k
theorem Cs0 {n : Nat} (he : amT j pc pc' (.invokestatic n) op) (hk : (0 < op ∧ op < 900) ∧ amSt? op = true ∧ amNa op = 0 ∧ amRk op < amRk j) (hcat : amCat st ≤ 8) (hfl : (amFlat []).length ≤ amMx op) {v : Value} (hc : Rv op [] S I J R v) (kk : Ex j pc' ls (v :: st) S I J R Q) : Ex j pc ls (st) S I J R Q := by
  have hcl : amCall (.invokestatic n) j op (st) S.2.2 = some ([], st) := by
    unfold amCall
    dsimp only
    rw [hk.2.2.1]
    exact if_pos ⟨hk.1.1, hk.1.2, hk.2.1, by simp, hk.2.2.2, hcat, hfl⟩
  exact Ex.call he rfl hcl (hc _ ⟨rfl, rfl, rfl, rfl⟩ : Cl op [] S I J R (fun v' I' J' R' => v' = some v ∧ I' = I ∧ J' = J ∧ R' = R)) (by rintro _ _ _ _ ⟨rfl, rfl, rfl, rfl⟩; exact kk)
theorem Cv0 {a : Nat} {n : Nat} (he : amT j pc pc' (.invokevirtual n) op) (hk : (0 < op ∧ op < 900) ∧ amSt? op = false ∧ amNa op = 1 ∧ amRk op < amRk j) (ho : amO S a (amCi op)) (hcat : amCat st ≤ 8) (hfl : (amFlat [.ref a]).length ≤ amMx op) {v : Value} (hc : Rv op [.ref a] S I J R v) (kk : Ex j pc' ls (v :: st) S I J R Q) : Ex j pc ls (.ref a :: st) S I J R Q := by
  have hcl : amCall (.invokevirtual n) j op (.ref a :: st) S.2.2 = some ([.ref a], st) := by
    unfold amCall
    dsimp only
    rw [hk.2.2.1]
    refine (if_pos ⟨hk.1.1, hk.1.2, hk.2.1, by simp, hk.2.2.2, hcat, hfl⟩).trans ?_
    exact if_pos ⟨ho.1, ho.2.2⟩
  exact Ex.call he rfl hcl (hc _ ⟨rfl, rfl, rfl, rfl⟩ : Cl op [.ref a] S I J R (fun v' I' J' R' => v' = some v ∧ I' = I ∧ J' = J ∧ R' = R)) (by rintro _ _ _ _ ⟨rfl, rfl, rfl, rfl⟩; exact kk)
theorem Ci0 {a : Nat} {n : Nat} (he : amT j pc pc' (.invokespecial n) op) (hk : (0 < op ∧ op < 900) ∧ amSt? op = false ∧ amNa op = 1 ∧ amRk op < amRk j) (hcat : amCat st ≤ 8) (hfl : (amFlat [.ref a]).length ≤ amMx op) {v : Value} (hc : Rv op [.ref a] S I J R v) (kk : Ex j pc' ls (v :: st) S I J R Q) : Ex j pc ls (.ref a :: st) S I J R Q := by
  have hcl : amCall (.invokespecial n) j op (.ref a :: st) S.2.2 = some ([.ref a], st) := by
    unfold amCall
    dsimp only
    rw [hk.2.2.1]
    refine (if_pos ⟨hk.1.1, hk.1.2, hk.2.1, by simp, hk.2.2.2, hcat, hfl⟩).trans ?_
    rfl
  exact Ex.call he rfl hcl (hc _ ⟨rfl, rfl, rfl, rfl⟩ : Cl op [.ref a] S I J R (fun v' I' J' R' => v' = some v ∧ I' = I ∧ J' = J ∧ R' = R)) (by rintro _ _ _ _ ⟨rfl, rfl, rfl, rfl⟩; exact kk)
theorem Cs0p {n : Nat} (he : amT j pc pc' (.invokestatic n) op) (hk : (0 < op ∧ op < 900) ∧ amSt? op = true ∧ amNa op = 0 ∧ amRk op < amRk j) (hcat : amCat st ≤ 8) (hfl : (amFlat []).length ≤ amMx op) {P : amQ} (hc : Cl op [] S I J R P) (kk : ∀ v I' J' R', P v I' J' R' → Ex j pc' ls (v.toList ++ st) S I' J' R' Q) : Ex j pc ls (st) S I J R Q := by
  have hcl : amCall (.invokestatic n) j op (st) S.2.2 = some ([], st) := by
    unfold amCall
    dsimp only
    rw [hk.2.2.1]
    exact if_pos ⟨hk.1.1, hk.1.2, hk.2.1, by simp, hk.2.2.2, hcat, hfl⟩
  exact Ex.call he rfl hcl hc kk
theorem Cv0p {a : Nat} {n : Nat} (he : amT j pc pc' (.invokevirtual n) op) (hk : (0 < op ∧ op < 900) ∧ amSt? op = false ∧ amNa op = 1 ∧ amRk op < amRk j) (ho : amO S a (amCi op)) (hcat : amCat st ≤ 8) (hfl : (amFlat [.ref a]).length ≤ amMx op) {P : amQ} (hc : Cl op [.ref a] S I J R P) (kk : ∀ v I' J' R', P v I' J' R' → Ex j pc' ls (v.toList ++ st) S I' J' R' Q) : Ex j pc ls (.ref a :: st) S I J R Q := by
  have hcl : amCall (.invokevirtual n) j op (.ref a :: st) S.2.2 = some ([.ref a], st) := by
    unfold amCall
    dsimp only
    rw [hk.2.2.1]
    refine (if_pos ⟨hk.1.1, hk.1.2, hk.2.1, by simp, hk.2.2.2, hcat, hfl⟩).trans ?_
    exact if_pos ⟨ho.1, ho.2.2⟩
  exact Ex.call he rfl hcl hc kk
theorem Ci0p {a : Nat} {n : Nat} (he : amT j pc pc' (.invokespecial n) op) (hk : (0 < op ∧ op < 900) ∧ amSt? op = false ∧ amNa op = 1 ∧ amRk op < amRk j) (hcat : amCat st ≤ 8) (hfl : (amFlat [.ref a]).length ≤ amMx op) {P : amQ} (hc : Cl op [.ref a] S I J R P) (kk : ∀ v I' J' R', P v I' J' R' → Ex j pc' ls (v.toList ++ st) S I' J' R' Q) : Ex j pc ls (.ref a :: st) S I J R Q := by
  have hcl : amCall (.invokespecial n) j op (.ref a :: st) S.2.2 = some ([.ref a], st) := by
    unfold amCall
    dsimp only
    rw [hk.2.2.1]
    refine (if_pos ⟨hk.1.1, hk.1.2, hk.2.1, by simp, hk.2.2.2, hcat, hfl⟩).trans ?_
    rfl
  exact Ex.call he rfl hcl hc kk
theorem Cs1 {v0 : Value} {n : Nat} (he : amT j pc pc' (.invokestatic n) op) (hk : (0 < op ∧ op < 900) ∧ amSt? op = true ∧ amNa op = 1 ∧ amRk op < amRk j) (hcat : amCat st ≤ 8) (hfl : (amFlat [v0]).length ≤ amMx op) {v : Value} (hc : Rv op [v0] S I J R v) (kk : Ex j pc' ls (v :: st) S I J R Q) : Ex j pc ls (v0 :: st) S I J R Q := by
  have hcl : amCall (.invokestatic n) j op (v0 :: st) S.2.2 = some ([v0], st) := by
    unfold amCall
    dsimp only
    rw [hk.2.2.1]
    exact if_pos ⟨hk.1.1, hk.1.2, hk.2.1, by simp, hk.2.2.2, hcat, hfl⟩
  exact Ex.call he rfl hcl (hc _ ⟨rfl, rfl, rfl, rfl⟩ : Cl op [v0] S I J R (fun v' I' J' R' => v' = some v ∧ I' = I ∧ J' = J ∧ R' = R)) (by rintro _ _ _ _ ⟨rfl, rfl, rfl, rfl⟩; exact kk)
theorem Cv1 {a : Nat} {v0 : Value} {n : Nat} (he : amT j pc pc' (.invokevirtual n) op) (hk : (0 < op ∧ op < 900) ∧ amSt? op = false ∧ amNa op = 2 ∧ amRk op < amRk j) (ho : amO S a (amCi op)) (hcat : amCat st ≤ 8) (hfl : (amFlat [.ref a, v0]).length ≤ amMx op) {v : Value} (hc : Rv op [.ref a, v0] S I J R v) (kk : Ex j pc' ls (v :: st) S I J R Q) : Ex j pc ls (v0 :: .ref a :: st) S I J R Q := by
  have hcl : amCall (.invokevirtual n) j op (v0 :: .ref a :: st) S.2.2 = some ([.ref a, v0], st) := by
    unfold amCall
    dsimp only
    rw [hk.2.2.1]
    refine (if_pos ⟨hk.1.1, hk.1.2, hk.2.1, by simp, hk.2.2.2, hcat, hfl⟩).trans ?_
    exact if_pos ⟨ho.1, ho.2.2⟩
  exact Ex.call he rfl hcl (hc _ ⟨rfl, rfl, rfl, rfl⟩ : Cl op [.ref a, v0] S I J R (fun v' I' J' R' => v' = some v ∧ I' = I ∧ J' = J ∧ R' = R)) (by rintro _ _ _ _ ⟨rfl, rfl, rfl, rfl⟩; exact kk)
theorem Ci1 {a : Nat} {v0 : Value} {n : Nat} (he : amT j pc pc' (.invokespecial n) op) (hk : (0 < op ∧ op < 900) ∧ amSt? op = false ∧ amNa op = 2 ∧ amRk op < amRk j) (hcat : amCat st ≤ 8) (hfl : (amFlat [.ref a, v0]).length ≤ amMx op) {v : Value} (hc : Rv op [.ref a, v0] S I J R v) (kk : Ex j pc' ls (v :: st) S I J R Q) : Ex j pc ls (v0 :: .ref a :: st) S I J R Q := by
  have hcl : amCall (.invokespecial n) j op (v0 :: .ref a :: st) S.2.2 = some ([.ref a, v0], st) := by
    unfold amCall
    dsimp only
    rw [hk.2.2.1]
    refine (if_pos ⟨hk.1.1, hk.1.2, hk.2.1, by simp, hk.2.2.2, hcat, hfl⟩).trans ?_
    rfl
  exact Ex.call he rfl hcl (hc _ ⟨rfl, rfl, rfl, rfl⟩ : Cl op [.ref a, v0] S I J R (fun v' I' J' R' => v' = some v ∧ I' = I ∧ J' = J ∧ R' = R)) (by rintro _ _ _ _ ⟨rfl, rfl, rfl, rfl⟩; exact kk)
theorem Cs1p {v0 : Value} {n : Nat} (he : amT j pc pc' (.invokestatic n) op) (hk : (0 < op ∧ op < 900) ∧ amSt? op = true ∧ amNa op = 1 ∧ amRk op < amRk j) (hcat : amCat st ≤ 8) (hfl : (amFlat [v0]).length ≤ amMx op) {P : amQ} (hc : Cl op [v0] S I J R P) (kk : ∀ v I' J' R', P v I' J' R' → Ex j pc' ls (v.toList ++ st) S I' J' R' Q) : Ex j pc ls (v0 :: st) S I J R Q := by
  have hcl : amCall (.invokestatic n) j op (v0 :: st) S.2.2 = some ([v0], st) := by
    unfold amCall
    dsimp only
    rw [hk.2.2.1]
    exact if_pos ⟨hk.1.1, hk.1.2, hk.2.1, by simp, hk.2.2.2, hcat, hfl⟩
  exact Ex.call he rfl hcl hc kk
theorem Cv1p {a : Nat} {v0 : Value} {n : Nat} (he : amT j pc pc' (.invokevirtual n) op) (hk : (0 < op ∧ op < 900) ∧ amSt? op = false ∧ amNa op = 2 ∧ amRk op < amRk j) (ho : amO S a (amCi op)) (hcat : amCat st ≤ 8) (hfl : (amFlat [.ref a, v0]).length ≤ amMx op) {P : amQ} (hc : Cl op [.ref a, v0] S I J R P) (kk : ∀ v I' J' R', P v I' J' R' → Ex j pc' ls (v.toList ++ st) S I' J' R' Q) : Ex j pc ls (v0 :: .ref a :: st) S I J R Q := by
  have hcl : amCall (.invokevirtual n) j op (v0 :: .ref a :: st) S.2.2 = some ([.ref a, v0], st) := by
    unfold amCall
    dsimp only
    rw [hk.2.2.1]
    refine (if_pos ⟨hk.1.1, hk.1.2, hk.2.1, by simp, hk.2.2.2, hcat, hfl⟩).trans ?_
    exact if_pos ⟨ho.1, ho.2.2⟩
  exact Ex.call he rfl hcl hc kk
theorem Ci1p {a : Nat} {v0 : Value} {n : Nat} (he : amT j pc pc' (.invokespecial n) op) (hk : (0 < op ∧ op < 900) ∧ amSt? op = false ∧ amNa op = 2 ∧ amRk op < amRk j) (hcat : amCat st ≤ 8) (hfl : (amFlat [.ref a, v0]).length ≤ amMx op) {P : amQ} (hc : Cl op [.ref a, v0] S I J R P) (kk : ∀ v I' J' R', P v I' J' R' → Ex j pc' ls (v.toList ++ st) S I' J' R' Q) : Ex j pc ls (v0 :: .ref a :: st) S I J R Q := by
  have hcl : amCall (.invokespecial n) j op (v0 :: .ref a :: st) S.2.2 = some ([.ref a, v0], st) := by
    unfold amCall
    dsimp only
    rw [hk.2.2.1]
    refine (if_pos ⟨hk.1.1, hk.1.2, hk.2.1, by simp, hk.2.2.2, hcat, hfl⟩).trans ?_
    rfl
  exact Ex.call he rfl hcl hc kk
theorem Cs2 {v0 v1 : Value} {n : Nat} (he : amT j pc pc' (.invokestatic n) op) (hk : (0 < op ∧ op < 900) ∧ amSt? op = true ∧ amNa op = 2 ∧ amRk op < amRk j) (hcat : amCat st ≤ 8) (hfl : (amFlat [v0, v1]).length ≤ amMx op) {v : Value} (hc : Rv op [v0, v1] S I J R v) (kk : Ex j pc' ls (v :: st) S I J R Q) : Ex j pc ls (v1 :: v0 :: st) S I J R Q := by
  have hcl : amCall (.invokestatic n) j op (v1 :: v0 :: st) S.2.2 = some ([v0, v1], st) := by
    unfold amCall
    dsimp only
    rw [hk.2.2.1]
    exact if_pos ⟨hk.1.1, hk.1.2, hk.2.1, by simp, hk.2.2.2, hcat, hfl⟩
  exact Ex.call he rfl hcl (hc _ ⟨rfl, rfl, rfl, rfl⟩ : Cl op [v0, v1] S I J R (fun v' I' J' R' => v' = some v ∧ I' = I ∧ J' = J ∧ R' = R)) (by rintro _ _ _ _ ⟨rfl, rfl, rfl, rfl⟩; exact kk)
theorem Cv2 {a : Nat} {v0 v1 : Value} {n : Nat} (he : amT j pc pc' (.invokevirtual n) op) (hk : (0 < op ∧ op < 900) ∧ amSt? op = false ∧ amNa op = 3 ∧ amRk op < amRk j) (ho : amO S a (amCi op)) (hcat : amCat st ≤ 8) (hfl : (amFlat [.ref a, v0, v1]).length ≤ amMx op) {v : Value} (hc : Rv op [.ref a, v0, v1] S I J R v) (kk : Ex j pc' ls (v :: st) S I J R Q) : Ex j pc ls (v1 :: v0 :: .ref a :: st) S I J R Q := by
  have hcl : amCall (.invokevirtual n) j op (v1 :: v0 :: .ref a :: st) S.2.2 = some ([.ref a, v0, v1], st) := by
    unfold amCall
    dsimp only
    rw [hk.2.2.1]
    refine (if_pos ⟨hk.1.1, hk.1.2, hk.2.1, by simp, hk.2.2.2, hcat, hfl⟩).trans ?_
    exact if_pos ⟨ho.1, ho.2.2⟩
  exact Ex.call he rfl hcl (hc _ ⟨rfl, rfl, rfl, rfl⟩ : Cl op [.ref a, v0, v1] S I J R (fun v' I' J' R' => v' = some v ∧ I' = I ∧ J' = J ∧ R' = R)) (by rintro _ _ _ _ ⟨rfl, rfl, rfl, rfl⟩; exact kk)
theorem Ci2 {a : Nat} {v0 v1 : Value} {n : Nat} (he : amT j pc pc' (.invokespecial n) op) (hk : (0 < op ∧ op < 900) ∧ amSt? op = false ∧ amNa op = 3 ∧ amRk op < amRk j) (hcat : amCat st ≤ 8) (hfl : (amFlat [.ref a, v0, v1]).length ≤ amMx op) {v : Value} (hc : Rv op [.ref a, v0, v1] S I J R v) (kk : Ex j pc' ls (v :: st) S I J R Q) : Ex j pc ls (v1 :: v0 :: .ref a :: st) S I J R Q := by
  have hcl : amCall (.invokespecial n) j op (v1 :: v0 :: .ref a :: st) S.2.2 = some ([.ref a, v0, v1], st) := by
    unfold amCall
    dsimp only
    rw [hk.2.2.1]
    refine (if_pos ⟨hk.1.1, hk.1.2, hk.2.1, by simp, hk.2.2.2, hcat, hfl⟩).trans ?_
    rfl
  exact Ex.call he rfl hcl (hc _ ⟨rfl, rfl, rfl, rfl⟩ : Cl op [.ref a, v0, v1] S I J R (fun v' I' J' R' => v' = some v ∧ I' = I ∧ J' = J ∧ R' = R)) (by rintro _ _ _ _ ⟨rfl, rfl, rfl, rfl⟩; exact kk)
theorem Cs2p {v0 v1 : Value} {n : Nat} (he : amT j pc pc' (.invokestatic n) op) (hk : (0 < op ∧ op < 900) ∧ amSt? op = true ∧ amNa op = 2 ∧ amRk op < amRk j) (hcat : amCat st ≤ 8) (hfl : (amFlat [v0, v1]).length ≤ amMx op) {P : amQ} (hc : Cl op [v0, v1] S I J R P) (kk : ∀ v I' J' R', P v I' J' R' → Ex j pc' ls (v.toList ++ st) S I' J' R' Q) : Ex j pc ls (v1 :: v0 :: st) S I J R Q := by
  have hcl : amCall (.invokestatic n) j op (v1 :: v0 :: st) S.2.2 = some ([v0, v1], st) := by
    unfold amCall
    dsimp only
    rw [hk.2.2.1]
    exact if_pos ⟨hk.1.1, hk.1.2, hk.2.1, by simp, hk.2.2.2, hcat, hfl⟩
  exact Ex.call he rfl hcl hc kk
theorem Cv2p {a : Nat} {v0 v1 : Value} {n : Nat} (he : amT j pc pc' (.invokevirtual n) op) (hk : (0 < op ∧ op < 900) ∧ amSt? op = false ∧ amNa op = 3 ∧ amRk op < amRk j) (ho : amO S a (amCi op)) (hcat : amCat st ≤ 8) (hfl : (amFlat [.ref a, v0, v1]).length ≤ amMx op) {P : amQ} (hc : Cl op [.ref a, v0, v1] S I J R P) (kk : ∀ v I' J' R', P v I' J' R' → Ex j pc' ls (v.toList ++ st) S I' J' R' Q) : Ex j pc ls (v1 :: v0 :: .ref a :: st) S I J R Q := by
  have hcl : amCall (.invokevirtual n) j op (v1 :: v0 :: .ref a :: st) S.2.2 = some ([.ref a, v0, v1], st) := by
    unfold amCall
    dsimp only
    rw [hk.2.2.1]
    refine (if_pos ⟨hk.1.1, hk.1.2, hk.2.1, by simp, hk.2.2.2, hcat, hfl⟩).trans ?_
    exact if_pos ⟨ho.1, ho.2.2⟩
  exact Ex.call he rfl hcl hc kk
theorem Ci2p {a : Nat} {v0 v1 : Value} {n : Nat} (he : amT j pc pc' (.invokespecial n) op) (hk : (0 < op ∧ op < 900) ∧ amSt? op = false ∧ amNa op = 3 ∧ amRk op < amRk j) (hcat : amCat st ≤ 8) (hfl : (amFlat [.ref a, v0, v1]).length ≤ amMx op) {P : amQ} (hc : Cl op [.ref a, v0, v1] S I J R P) (kk : ∀ v I' J' R', P v I' J' R' → Ex j pc' ls (v.toList ++ st) S I' J' R' Q) : Ex j pc ls (v1 :: v0 :: .ref a :: st) S I J R Q := by
  have hcl : amCall (.invokespecial n) j op (v1 :: v0 :: .ref a :: st) S.2.2 = some ([.ref a, v0, v1], st) := by
    unfold amCall
    dsimp only
    rw [hk.2.2.1]
    refine (if_pos ⟨hk.1.1, hk.1.2, hk.2.1, by simp, hk.2.2.2, hcat, hfl⟩).trans ?_
    rfl
  exact Ex.call he rfl hcl hc kk
theorem Cs3 {v0 v1 v2 : Value} {n : Nat} (he : amT j pc pc' (.invokestatic n) op) (hk : (0 < op ∧ op < 900) ∧ amSt? op = true ∧ amNa op = 3 ∧ amRk op < amRk j) (hcat : amCat st ≤ 8) (hfl : (amFlat [v0, v1, v2]).length ≤ amMx op) {v : Value} (hc : Rv op [v0, v1, v2] S I J R v) (kk : Ex j pc' ls (v :: st) S I J R Q) : Ex j pc ls (v2 :: v1 :: v0 :: st) S I J R Q := by
  have hcl : amCall (.invokestatic n) j op (v2 :: v1 :: v0 :: st) S.2.2 = some ([v0, v1, v2], st) := by
    unfold amCall
    dsimp only
    rw [hk.2.2.1]
    exact if_pos ⟨hk.1.1, hk.1.2, hk.2.1, by simp, hk.2.2.2, hcat, hfl⟩
  exact Ex.call he rfl hcl (hc _ ⟨rfl, rfl, rfl, rfl⟩ : Cl op [v0, v1, v2] S I J R (fun v' I' J' R' => v' = some v ∧ I' = I ∧ J' = J ∧ R' = R)) (by rintro _ _ _ _ ⟨rfl, rfl, rfl, rfl⟩; exact kk)
theorem Cv3 {a : Nat} {v0 v1 v2 : Value} {n : Nat} (he : amT j pc pc' (.invokevirtual n) op) (hk : (0 < op ∧ op < 900) ∧ amSt? op = false ∧ amNa op = 4 ∧ amRk op < amRk j) (ho : amO S a (amCi op)) (hcat : amCat st ≤ 8) (hfl : (amFlat [.ref a, v0, v1, v2]).length ≤ amMx op) {v : Value} (hc : Rv op [.ref a, v0, v1, v2] S I J R v) (kk : Ex j pc' ls (v :: st) S I J R Q) : Ex j pc ls (v2 :: v1 :: v0 :: .ref a :: st) S I J R Q := by
  have hcl : amCall (.invokevirtual n) j op (v2 :: v1 :: v0 :: .ref a :: st) S.2.2 = some ([.ref a, v0, v1, v2], st) := by
    unfold amCall
    dsimp only
    rw [hk.2.2.1]
    refine (if_pos ⟨hk.1.1, hk.1.2, hk.2.1, by simp, hk.2.2.2, hcat, hfl⟩).trans ?_
    exact if_pos ⟨ho.1, ho.2.2⟩
  exact Ex.call he rfl hcl (hc _ ⟨rfl, rfl, rfl, rfl⟩ : Cl op [.ref a, v0, v1, v2] S I J R (fun v' I' J' R' => v' = some v ∧ I' = I ∧ J' = J ∧ R' = R)) (by rintro _ _ _ _ ⟨rfl, rfl, rfl, rfl⟩; exact kk)
theorem Ci3 {a : Nat} {v0 v1 v2 : Value} {n : Nat} (he : amT j pc pc' (.invokespecial n) op) (hk : (0 < op ∧ op < 900) ∧ amSt? op = false ∧ amNa op = 4 ∧ amRk op < amRk j) (hcat : amCat st ≤ 8) (hfl : (amFlat [.ref a, v0, v1, v2]).length ≤ amMx op) {v : Value} (hc : Rv op [.ref a, v0, v1, v2] S I J R v) (kk : Ex j pc' ls (v :: st) S I J R Q) : Ex j pc ls (v2 :: v1 :: v0 :: .ref a :: st) S I J R Q := by
  have hcl : amCall (.invokespecial n) j op (v2 :: v1 :: v0 :: .ref a :: st) S.2.2 = some ([.ref a, v0, v1, v2], st) := by
    unfold amCall
    dsimp only
    rw [hk.2.2.1]
    refine (if_pos ⟨hk.1.1, hk.1.2, hk.2.1, by simp, hk.2.2.2, hcat, hfl⟩).trans ?_
    rfl
  exact Ex.call he rfl hcl (hc _ ⟨rfl, rfl, rfl, rfl⟩ : Cl op [.ref a, v0, v1, v2] S I J R (fun v' I' J' R' => v' = some v ∧ I' = I ∧ J' = J ∧ R' = R)) (by rintro _ _ _ _ ⟨rfl, rfl, rfl, rfl⟩; exact kk)
theorem Cs3p {v0 v1 v2 : Value} {n : Nat} (he : amT j pc pc' (.invokestatic n) op) (hk : (0 < op ∧ op < 900) ∧ amSt? op = true ∧ amNa op = 3 ∧ amRk op < amRk j) (hcat : amCat st ≤ 8) (hfl : (amFlat [v0, v1, v2]).length ≤ amMx op) {P : amQ} (hc : Cl op [v0, v1, v2] S I J R P) (kk : ∀ v I' J' R', P v I' J' R' → Ex j pc' ls (v.toList ++ st) S I' J' R' Q) : Ex j pc ls (v2 :: v1 :: v0 :: st) S I J R Q := by
  have hcl : amCall (.invokestatic n) j op (v2 :: v1 :: v0 :: st) S.2.2 = some ([v0, v1, v2], st) := by
    unfold amCall
    dsimp only
    rw [hk.2.2.1]
    exact if_pos ⟨hk.1.1, hk.1.2, hk.2.1, by simp, hk.2.2.2, hcat, hfl⟩
  exact Ex.call he rfl hcl hc kk
theorem Cv3p {a : Nat} {v0 v1 v2 : Value} {n : Nat} (he : amT j pc pc' (.invokevirtual n) op) (hk : (0 < op ∧ op < 900) ∧ amSt? op = false ∧ amNa op = 4 ∧ amRk op < amRk j) (ho : amO S a (amCi op)) (hcat : amCat st ≤ 8) (hfl : (amFlat [.ref a, v0, v1, v2]).length ≤ amMx op) {P : amQ} (hc : Cl op [.ref a, v0, v1, v2] S I J R P) (kk : ∀ v I' J' R', P v I' J' R' → Ex j pc' ls (v.toList ++ st) S I' J' R' Q) : Ex j pc ls (v2 :: v1 :: v0 :: .ref a :: st) S I J R Q := by
  have hcl : amCall (.invokevirtual n) j op (v2 :: v1 :: v0 :: .ref a :: st) S.2.2 = some ([.ref a, v0, v1, v2], st) := by
    unfold amCall
    dsimp only
    rw [hk.2.2.1]
    refine (if_pos ⟨hk.1.1, hk.1.2, hk.2.1, by simp, hk.2.2.2, hcat, hfl⟩).trans ?_
    exact if_pos ⟨ho.1, ho.2.2⟩
  exact Ex.call he rfl hcl hc kk
theorem Ci3p {a : Nat} {v0 v1 v2 : Value} {n : Nat} (he : amT j pc pc' (.invokespecial n) op) (hk : (0 < op ∧ op < 900) ∧ amSt? op = false ∧ amNa op = 4 ∧ amRk op < amRk j) (hcat : amCat st ≤ 8) (hfl : (amFlat [.ref a, v0, v1, v2]).length ≤ amMx op) {P : amQ} (hc : Cl op [.ref a, v0, v1, v2] S I J R P) (kk : ∀ v I' J' R', P v I' J' R' → Ex j pc' ls (v.toList ++ st) S I' J' R' Q) : Ex j pc ls (v2 :: v1 :: v0 :: .ref a :: st) S I J R Q := by
  have hcl : amCall (.invokespecial n) j op (v2 :: v1 :: v0 :: .ref a :: st) S.2.2 = some ([.ref a, v0, v1, v2], st) := by
    unfold amCall
    dsimp only
    rw [hk.2.2.1]
    refine (if_pos ⟨hk.1.1, hk.1.2, hk.2.1, by simp, hk.2.2.2, hcat, hfl⟩).trans ?_
    rfl
  exact Ex.call he rfl hcl hc kk
theorem Cs4 {v0 v1 v2 v3 : Value} {n : Nat} (he : amT j pc pc' (.invokestatic n) op) (hk : (0 < op ∧ op < 900) ∧ amSt? op = true ∧ amNa op = 4 ∧ amRk op < amRk j) (hcat : amCat st ≤ 8) (hfl : (amFlat [v0, v1, v2, v3]).length ≤ amMx op) {v : Value} (hc : Rv op [v0, v1, v2, v3] S I J R v) (kk : Ex j pc' ls (v :: st) S I J R Q) : Ex j pc ls (v3 :: v2 :: v1 :: v0 :: st) S I J R Q := by
  have hcl : amCall (.invokestatic n) j op (v3 :: v2 :: v1 :: v0 :: st) S.2.2 = some ([v0, v1, v2, v3], st) := by
    unfold amCall
    dsimp only
    rw [hk.2.2.1]
    exact if_pos ⟨hk.1.1, hk.1.2, hk.2.1, by simp, hk.2.2.2, hcat, hfl⟩
  exact Ex.call he rfl hcl (hc _ ⟨rfl, rfl, rfl, rfl⟩ : Cl op [v0, v1, v2, v3] S I J R (fun v' I' J' R' => v' = some v ∧ I' = I ∧ J' = J ∧ R' = R)) (by rintro _ _ _ _ ⟨rfl, rfl, rfl, rfl⟩; exact kk)
theorem Cv4 {a : Nat} {v0 v1 v2 v3 : Value} {n : Nat} (he : amT j pc pc' (.invokevirtual n) op) (hk : (0 < op ∧ op < 900) ∧ amSt? op = false ∧ amNa op = 5 ∧ amRk op < amRk j) (ho : amO S a (amCi op)) (hcat : amCat st ≤ 8) (hfl : (amFlat [.ref a, v0, v1, v2, v3]).length ≤ amMx op) {v : Value} (hc : Rv op [.ref a, v0, v1, v2, v3] S I J R v) (kk : Ex j pc' ls (v :: st) S I J R Q) : Ex j pc ls (v3 :: v2 :: v1 :: v0 :: .ref a :: st) S I J R Q := by
  have hcl : amCall (.invokevirtual n) j op (v3 :: v2 :: v1 :: v0 :: .ref a :: st) S.2.2 = some ([.ref a, v0, v1, v2, v3], st) := by
    unfold amCall
    dsimp only
    rw [hk.2.2.1]
    refine (if_pos ⟨hk.1.1, hk.1.2, hk.2.1, by simp, hk.2.2.2, hcat, hfl⟩).trans ?_
    exact if_pos ⟨ho.1, ho.2.2⟩
  exact Ex.call he rfl hcl (hc _ ⟨rfl, rfl, rfl, rfl⟩ : Cl op [.ref a, v0, v1, v2, v3] S I J R (fun v' I' J' R' => v' = some v ∧ I' = I ∧ J' = J ∧ R' = R)) (by rintro _ _ _ _ ⟨rfl, rfl, rfl, rfl⟩; exact kk)
theorem Ci4 {a : Nat} {v0 v1 v2 v3 : Value} {n : Nat} (he : amT j pc pc' (.invokespecial n) op) (hk : (0 < op ∧ op < 900) ∧ amSt? op = false ∧ amNa op = 5 ∧ amRk op < amRk j) (hcat : amCat st ≤ 8) (hfl : (amFlat [.ref a, v0, v1, v2, v3]).length ≤ amMx op) {v : Value} (hc : Rv op [.ref a, v0, v1, v2, v3] S I J R v) (kk : Ex j pc' ls (v :: st) S I J R Q) : Ex j pc ls (v3 :: v2 :: v1 :: v0 :: .ref a :: st) S I J R Q := by
  have hcl : amCall (.invokespecial n) j op (v3 :: v2 :: v1 :: v0 :: .ref a :: st) S.2.2 = some ([.ref a, v0, v1, v2, v3], st) := by
    unfold amCall
    dsimp only
    rw [hk.2.2.1]
    refine (if_pos ⟨hk.1.1, hk.1.2, hk.2.1, by simp, hk.2.2.2, hcat, hfl⟩).trans ?_
    rfl
  exact Ex.call he rfl hcl (hc _ ⟨rfl, rfl, rfl, rfl⟩ : Cl op [.ref a, v0, v1, v2, v3] S I J R (fun v' I' J' R' => v' = some v ∧ I' = I ∧ J' = J ∧ R' = R)) (by rintro _ _ _ _ ⟨rfl, rfl, rfl, rfl⟩; exact kk)
theorem Cs4p {v0 v1 v2 v3 : Value} {n : Nat} (he : amT j pc pc' (.invokestatic n) op) (hk : (0 < op ∧ op < 900) ∧ amSt? op = true ∧ amNa op = 4 ∧ amRk op < amRk j) (hcat : amCat st ≤ 8) (hfl : (amFlat [v0, v1, v2, v3]).length ≤ amMx op) {P : amQ} (hc : Cl op [v0, v1, v2, v3] S I J R P) (kk : ∀ v I' J' R', P v I' J' R' → Ex j pc' ls (v.toList ++ st) S I' J' R' Q) : Ex j pc ls (v3 :: v2 :: v1 :: v0 :: st) S I J R Q := by
  have hcl : amCall (.invokestatic n) j op (v3 :: v2 :: v1 :: v0 :: st) S.2.2 = some ([v0, v1, v2, v3], st) := by
    unfold amCall
    dsimp only
    rw [hk.2.2.1]
    exact if_pos ⟨hk.1.1, hk.1.2, hk.2.1, by simp, hk.2.2.2, hcat, hfl⟩
  exact Ex.call he rfl hcl hc kk
theorem Cv4p {a : Nat} {v0 v1 v2 v3 : Value} {n : Nat} (he : amT j pc pc' (.invokevirtual n) op) (hk : (0 < op ∧ op < 900) ∧ amSt? op = false ∧ amNa op = 5 ∧ amRk op < amRk j) (ho : amO S a (amCi op)) (hcat : amCat st ≤ 8) (hfl : (amFlat [.ref a, v0, v1, v2, v3]).length ≤ amMx op) {P : amQ} (hc : Cl op [.ref a, v0, v1, v2, v3] S I J R P) (kk : ∀ v I' J' R', P v I' J' R' → Ex j pc' ls (v.toList ++ st) S I' J' R' Q) : Ex j pc ls (v3 :: v2 :: v1 :: v0 :: .ref a :: st) S I J R Q := by
  have hcl : amCall (.invokevirtual n) j op (v3 :: v2 :: v1 :: v0 :: .ref a :: st) S.2.2 = some ([.ref a, v0, v1, v2, v3], st) := by
    unfold amCall
    dsimp only
    rw [hk.2.2.1]
    refine (if_pos ⟨hk.1.1, hk.1.2, hk.2.1, by simp, hk.2.2.2, hcat, hfl⟩).trans ?_
    exact if_pos ⟨ho.1, ho.2.2⟩
  exact Ex.call he rfl hcl hc kk
theorem Ci4p {a : Nat} {v0 v1 v2 v3 : Value} {n : Nat} (he : amT j pc pc' (.invokespecial n) op) (hk : (0 < op ∧ op < 900) ∧ amSt? op = false ∧ amNa op = 5 ∧ amRk op < amRk j) (hcat : amCat st ≤ 8) (hfl : (amFlat [.ref a, v0, v1, v2, v3]).length ≤ amMx op) {P : amQ} (hc : Cl op [.ref a, v0, v1, v2, v3] S I J R P) (kk : ∀ v I' J' R', P v I' J' R' → Ex j pc' ls (v.toList ++ st) S I' J' R' Q) : Ex j pc ls (v3 :: v2 :: v1 :: v0 :: .ref a :: st) S I J R Q := by
  have hcl : amCall (.invokespecial n) j op (v3 :: v2 :: v1 :: v0 :: .ref a :: st) S.2.2 = some ([.ref a, v0, v1, v2, v3], st) := by
    unfold amCall
    dsimp only
    rw [hk.2.2.1]
    refine (if_pos ⟨hk.1.1, hk.1.2, hk.2.1, by simp, hk.2.2.2, hcat, hfl⟩).trans ?_
    rfl
  exact Ex.call he rfl hcl hc kk
theorem Cs5 {v0 v1 v2 v3 v4 : Value} {n : Nat} (he : amT j pc pc' (.invokestatic n) op) (hk : (0 < op ∧ op < 900) ∧ amSt? op = true ∧ amNa op = 5 ∧ amRk op < amRk j) (hcat : amCat st ≤ 8) (hfl : (amFlat [v0, v1, v2, v3, v4]).length ≤ amMx op) {v : Value} (hc : Rv op [v0, v1, v2, v3, v4] S I J R v) (kk : Ex j pc' ls (v :: st) S I J R Q) : Ex j pc ls (v4 :: v3 :: v2 :: v1 :: v0 :: st) S I J R Q := by
  have hcl : amCall (.invokestatic n) j op (v4 :: v3 :: v2 :: v1 :: v0 :: st) S.2.2 = some ([v0, v1, v2, v3, v4], st) := by
    unfold amCall
    dsimp only
    rw [hk.2.2.1]
    exact if_pos ⟨hk.1.1, hk.1.2, hk.2.1, by simp, hk.2.2.2, hcat, hfl⟩
  exact Ex.call he rfl hcl (hc _ ⟨rfl, rfl, rfl, rfl⟩ : Cl op [v0, v1, v2, v3, v4] S I J R (fun v' I' J' R' => v' = some v ∧ I' = I ∧ J' = J ∧ R' = R)) (by rintro _ _ _ _ ⟨rfl, rfl, rfl, rfl⟩; exact kk)
theorem Cv5 {a : Nat} {v0 v1 v2 v3 v4 : Value} {n : Nat} (he : amT j pc pc' (.invokevirtual n) op) (hk : (0 < op ∧ op < 900) ∧ amSt? op = false ∧ amNa op = 6 ∧ amRk op < amRk j) (ho : amO S a (amCi op)) (hcat : amCat st ≤ 8) (hfl : (amFlat [.ref a, v0, v1, v2, v3, v4]).length ≤ amMx op) {v : Value} (hc : Rv op [.ref a, v0, v1, v2, v3, v4] S I J R v) (kk : Ex j pc' ls (v :: st) S I J R Q) : Ex j pc ls (v4 :: v3 :: v2 :: v1 :: v0 :: .ref a :: st) S I J R Q := by
  have hcl : amCall (.invokevirtual n) j op (v4 :: v3 :: v2 :: v1 :: v0 :: .ref a :: st) S.2.2 = some ([.ref a, v0, v1, v2, v3, v4], st) := by
    unfold amCall
    dsimp only
    rw [hk.2.2.1]
    refine (if_pos ⟨hk.1.1, hk.1.2, hk.2.1, by simp, hk.2.2.2, hcat, hfl⟩).trans ?_
    exact if_pos ⟨ho.1, ho.2.2⟩
  exact Ex.call he rfl hcl (hc _ ⟨rfl, rfl, rfl, rfl⟩ : Cl op [.ref a, v0, v1, v2, v3, v4] S I J R (fun v' I' J' R' => v' = some v ∧ I' = I ∧ J' = J ∧ R' = R)) (by rintro _ _ _ _ ⟨rfl, rfl, rfl, rfl⟩; exact kk)
theorem Ci5 {a : Nat} {v0 v1 v2 v3 v4 : Value} {n : Nat} (he : amT j pc pc' (.invokespecial n) op) (hk : (0 < op ∧ op < 900) ∧ amSt? op = false ∧ amNa op = 6 ∧ amRk op < amRk j) (hcat : amCat st ≤ 8) (hfl : (amFlat [.ref a, v0, v1, v2, v3, v4]).length ≤ amMx op) {v : Value} (hc : Rv op [.ref a, v0, v1, v2, v3, v4] S I J R v) (kk : Ex j pc' ls (v :: st) S I J R Q) : Ex j pc ls (v4 :: v3 :: v2 :: v1 :: v0 :: .ref a :: st) S I J R Q := by
  have hcl : amCall (.invokespecial n) j op (v4 :: v3 :: v2 :: v1 :: v0 :: .ref a :: st) S.2.2 = some ([.ref a, v0, v1, v2, v3, v4], st) := by
    unfold amCall
    dsimp only
    rw [hk.2.2.1]
    refine (if_pos ⟨hk.1.1, hk.1.2, hk.2.1, by simp, hk.2.2.2, hcat, hfl⟩).trans ?_
    rfl
  exact Ex.call he rfl hcl (hc _ ⟨rfl, rfl, rfl, rfl⟩ : Cl op [.ref a, v0, v1, v2, v3, v4] S I J R (fun v' I' J' R' => v' = some v ∧ I' = I ∧ J' = J ∧ R' = R)) (by rintro _ _ _ _ ⟨rfl, rfl, rfl, rfl⟩; exact kk)
theorem Cs5p {v0 v1 v2 v3 v4 : Value} {n : Nat} (he : amT j pc pc' (.invokestatic n) op) (hk : (0 < op ∧ op < 900) ∧ amSt? op = true ∧ amNa op = 5 ∧ amRk op < amRk j) (hcat : amCat st ≤ 8) (hfl : (amFlat [v0, v1, v2, v3, v4]).length ≤ amMx op) {P : amQ} (hc : Cl op [v0, v1, v2, v3, v4] S I J R P) (kk : ∀ v I' J' R', P v I' J' R' → Ex j pc' ls (v.toList ++ st) S I' J' R' Q) : Ex j pc ls (v4 :: v3 :: v2 :: v1 :: v0 :: st) S I J R Q := by
  have hcl : amCall (.invokestatic n) j op (v4 :: v3 :: v2 :: v1 :: v0 :: st) S.2.2 = some ([v0, v1, v2, v3, v4], st) := by
    unfold amCall
    dsimp only
    rw [hk.2.2.1]
    exact if_pos ⟨hk.1.1, hk.1.2, hk.2.1, by simp, hk.2.2.2, hcat, hfl⟩
  exact Ex.call he rfl hcl hc kk
theorem Cv5p {a : Nat} {v0 v1 v2 v3 v4 : Value} {n : Nat} (he : amT j pc pc' (.invokevirtual n) op) (hk : (0 < op ∧ op < 900) ∧ amSt? op = false ∧ amNa op = 6 ∧ amRk op < amRk j) (ho : amO S a (amCi op)) (hcat : amCat st ≤ 8) (hfl : (amFlat [.ref a, v0, v1, v2, v3, v4]).length ≤ amMx op) {P : amQ} (hc : Cl op [.ref a, v0, v1, v2, v3, v4] S I J R P) (kk : ∀ v I' J' R', P v I' J' R' → Ex j pc' ls (v.toList ++ st) S I' J' R' Q) : Ex j pc ls (v4 :: v3 :: v2 :: v1 :: v0 :: .ref a :: st) S I J R Q := by
  have hcl : amCall (.invokevirtual n) j op (v4 :: v3 :: v2 :: v1 :: v0 :: .ref a :: st) S.2.2 = some ([.ref a, v0, v1, v2, v3, v4], st) := by
    unfold amCall
    dsimp only
    rw [hk.2.2.1]
    refine (if_pos ⟨hk.1.1, hk.1.2, hk.2.1, by simp, hk.2.2.2, hcat, hfl⟩).trans ?_
    exact if_pos ⟨ho.1, ho.2.2⟩
  exact Ex.call he rfl hcl hc kk
theorem Ci5p {a : Nat} {v0 v1 v2 v3 v4 : Value} {n : Nat} (he : amT j pc pc' (.invokespecial n) op) (hk : (0 < op ∧ op < 900) ∧ amSt? op = false ∧ amNa op = 6 ∧ amRk op < amRk j) (hcat : amCat st ≤ 8) (hfl : (amFlat [.ref a, v0, v1, v2, v3, v4]).length ≤ amMx op) {P : amQ} (hc : Cl op [.ref a, v0, v1, v2, v3, v4] S I J R P) (kk : ∀ v I' J' R', P v I' J' R' → Ex j pc' ls (v.toList ++ st) S I' J' R' Q) : Ex j pc ls (v4 :: v3 :: v2 :: v1 :: v0 :: .ref a :: st) S I J R Q := by
  have hcl : amCall (.invokespecial n) j op (v4 :: v3 :: v2 :: v1 :: v0 :: .ref a :: st) S.2.2 = some ([.ref a, v0, v1, v2, v3, v4], st) := by
    unfold amCall
    dsimp only
    rw [hk.2.2.1]
    refine (if_pos ⟨hk.1.1, hk.1.2, hk.2.1, by simp, hk.2.2.2, hcat, hfl⟩).trans ?_
    rfl
  exact Ex.call he rfl hcl hc kk
theorem Cs6 {v0 v1 v2 v3 v4 v5 : Value} {n : Nat} (he : amT j pc pc' (.invokestatic n) op) (hk : (0 < op ∧ op < 900) ∧ amSt? op = true ∧ amNa op = 6 ∧ amRk op < amRk j) (hcat : amCat st ≤ 8) (hfl : (amFlat [v0, v1, v2, v3, v4, v5]).length ≤ amMx op) {v : Value} (hc : Rv op [v0, v1, v2, v3, v4, v5] S I J R v) (kk : Ex j pc' ls (v :: st) S I J R Q) : Ex j pc ls (v5 :: v4 :: v3 :: v2 :: v1 :: v0 :: st) S I J R Q := by
  have hcl : amCall (.invokestatic n) j op (v5 :: v4 :: v3 :: v2 :: v1 :: v0 :: st) S.2.2 = some ([v0, v1, v2, v3, v4, v5], st) := by
    unfold amCall
    dsimp only
    rw [hk.2.2.1]
    exact if_pos ⟨hk.1.1, hk.1.2, hk.2.1, by simp, hk.2.2.2, hcat, hfl⟩
  exact Ex.call he rfl hcl (hc _ ⟨rfl, rfl, rfl, rfl⟩ : Cl op [v0, v1, v2, v3, v4, v5] S I J R (fun v' I' J' R' => v' = some v ∧ I' = I ∧ J' = J ∧ R' = R)) (by rintro _ _ _ _ ⟨rfl, rfl, rfl, rfl⟩; exact kk)
theorem Cv6 {a : Nat} {v0 v1 v2 v3 v4 v5 : Value} {n : Nat} (he : amT j pc pc' (.invokevirtual n) op) (hk : (0 < op ∧ op < 900) ∧ amSt? op = false ∧ amNa op = 7 ∧ amRk op < amRk j) (ho : amO S a (amCi op)) (hcat : amCat st ≤ 8) (hfl : (amFlat [.ref a, v0, v1, v2, v3, v4, v5]).length ≤ amMx op) {v : Value} (hc : Rv op [.ref a, v0, v1, v2, v3, v4, v5] S I J R v) (kk : Ex j pc' ls (v :: st) S I J R Q) : Ex j pc ls (v5 :: v4 :: v3 :: v2 :: v1 :: v0 :: .ref a :: st) S I J R Q := by
  have hcl : amCall (.invokevirtual n) j op (v5 :: v4 :: v3 :: v2 :: v1 :: v0 :: .ref a :: st) S.2.2 = some ([.ref a, v0, v1, v2, v3, v4, v5], st) := by
    unfold amCall
    dsimp only
    rw [hk.2.2.1]
    refine (if_pos ⟨hk.1.1, hk.1.2, hk.2.1, by simp, hk.2.2.2, hcat, hfl⟩).trans ?_
    exact if_pos ⟨ho.1, ho.2.2⟩
  exact Ex.call he rfl hcl (hc _ ⟨rfl, rfl, rfl, rfl⟩ : Cl op [.ref a, v0, v1, v2, v3, v4, v5] S I J R (fun v' I' J' R' => v' = some v ∧ I' = I ∧ J' = J ∧ R' = R)) (by rintro _ _ _ _ ⟨rfl, rfl, rfl, rfl⟩; exact kk)
theorem Ci6 {a : Nat} {v0 v1 v2 v3 v4 v5 : Value} {n : Nat} (he : amT j pc pc' (.invokespecial n) op) (hk : (0 < op ∧ op < 900) ∧ amSt? op = false ∧ amNa op = 7 ∧ amRk op < amRk j) (hcat : amCat st ≤ 8) (hfl : (amFlat [.ref a, v0, v1, v2, v3, v4, v5]).length ≤ amMx op) {v : Value} (hc : Rv op [.ref a, v0, v1, v2, v3, v4, v5] S I J R v) (kk : Ex j pc' ls (v :: st) S I J R Q) : Ex j pc ls (v5 :: v4 :: v3 :: v2 :: v1 :: v0 :: .ref a :: st) S I J R Q := by
  have hcl : amCall (.invokespecial n) j op (v5 :: v4 :: v3 :: v2 :: v1 :: v0 :: .ref a :: st) S.2.2 = some ([.ref a, v0, v1, v2, v3, v4, v5], st) := by
    unfold amCall
    dsimp only
    rw [hk.2.2.1]
    refine (if_pos ⟨hk.1.1, hk.1.2, hk.2.1, by simp, hk.2.2.2, hcat, hfl⟩).trans ?_
    rfl
  exact Ex.call he rfl hcl (hc _ ⟨rfl, rfl, rfl, rfl⟩ : Cl op [.ref a, v0, v1, v2, v3, v4, v5] S I J R (fun v' I' J' R' => v' = some v ∧ I' = I ∧ J' = J ∧ R' = R)) (by rintro _ _ _ _ ⟨rfl, rfl, rfl, rfl⟩; exact kk)
theorem Cs6p {v0 v1 v2 v3 v4 v5 : Value} {n : Nat} (he : amT j pc pc' (.invokestatic n) op) (hk : (0 < op ∧ op < 900) ∧ amSt? op = true ∧ amNa op = 6 ∧ amRk op < amRk j) (hcat : amCat st ≤ 8) (hfl : (amFlat [v0, v1, v2, v3, v4, v5]).length ≤ amMx op) {P : amQ} (hc : Cl op [v0, v1, v2, v3, v4, v5] S I J R P) (kk : ∀ v I' J' R', P v I' J' R' → Ex j pc' ls (v.toList ++ st) S I' J' R' Q) : Ex j pc ls (v5 :: v4 :: v3 :: v2 :: v1 :: v0 :: st) S I J R Q := by
  have hcl : amCall (.invokestatic n) j op (v5 :: v4 :: v3 :: v2 :: v1 :: v0 :: st) S.2.2 = some ([v0, v1, v2, v3, v4, v5], st) := by
    unfold amCall
    dsimp only
    rw [hk.2.2.1]
    exact if_pos ⟨hk.1.1, hk.1.2, hk.2.1, by simp, hk.2.2.2, hcat, hfl⟩
  exact Ex.call he rfl hcl hc kk
theorem Cv6p {a : Nat} {v0 v1 v2 v3 v4 v5 : Value} {n : Nat} (he : amT j pc pc' (.invokevirtual n) op) (hk : (0 < op ∧ op < 900) ∧ amSt? op = false ∧ amNa op = 7 ∧ amRk op < amRk j) (ho : amO S a (amCi op)) (hcat : amCat st ≤ 8) (hfl : (amFlat [.ref a, v0, v1, v2, v3, v4, v5]).length ≤ amMx op) {P : amQ} (hc : Cl op [.ref a, v0, v1, v2, v3, v4, v5] S I J R P) (kk : ∀ v I' J' R', P v I' J' R' → Ex j pc' ls (v.toList ++ st) S I' J' R' Q) : Ex j pc ls (v5 :: v4 :: v3 :: v2 :: v1 :: v0 :: .ref a :: st) S I J R Q := by
  have hcl : amCall (.invokevirtual n) j op (v5 :: v4 :: v3 :: v2 :: v1 :: v0 :: .ref a :: st) S.2.2 = some ([.ref a, v0, v1, v2, v3, v4, v5], st) := by
    unfold amCall
    dsimp only
    rw [hk.2.2.1]
    refine (if_pos ⟨hk.1.1, hk.1.2, hk.2.1, by simp, hk.2.2.2, hcat, hfl⟩).trans ?_
    exact if_pos ⟨ho.1, ho.2.2⟩
  exact Ex.call he rfl hcl hc kk
theorem Ci6p {a : Nat} {v0 v1 v2 v3 v4 v5 : Value} {n : Nat} (he : amT j pc pc' (.invokespecial n) op) (hk : (0 < op ∧ op < 900) ∧ amSt? op = false ∧ amNa op = 7 ∧ amRk op < amRk j) (hcat : amCat st ≤ 8) (hfl : (amFlat [.ref a, v0, v1, v2, v3, v4, v5]).length ≤ amMx op) {P : amQ} (hc : Cl op [.ref a, v0, v1, v2, v3, v4, v5] S I J R P) (kk : ∀ v I' J' R', P v I' J' R' → Ex j pc' ls (v.toList ++ st) S I' J' R' Q) : Ex j pc ls (v5 :: v4 :: v3 :: v2 :: v1 :: v0 :: .ref a :: st) S I J R Q := by
  have hcl : amCall (.invokespecial n) j op (v5 :: v4 :: v3 :: v2 :: v1 :: v0 :: .ref a :: st) S.2.2 = some ([.ref a, v0, v1, v2, v3, v4, v5], st) := by
    unfold amCall
    dsimp only
    rw [hk.2.2.1]
    refine (if_pos ⟨hk.1.1, hk.1.2, hk.2.1, by simp, hk.2.2.2, hcat, hfl⟩).trans ?_
    rfl
  exact Ex.call he rfl hcl hc kk
theorem Cs7 {v0 v1 v2 v3 v4 v5 v6 : Value} {n : Nat} (he : amT j pc pc' (.invokestatic n) op) (hk : (0 < op ∧ op < 900) ∧ amSt? op = true ∧ amNa op = 7 ∧ amRk op < amRk j) (hcat : amCat st ≤ 8) (hfl : (amFlat [v0, v1, v2, v3, v4, v5, v6]).length ≤ amMx op) {v : Value} (hc : Rv op [v0, v1, v2, v3, v4, v5, v6] S I J R v) (kk : Ex j pc' ls (v :: st) S I J R Q) : Ex j pc ls (v6 :: v5 :: v4 :: v3 :: v2 :: v1 :: v0 :: st) S I J R Q := by
  have hcl : amCall (.invokestatic n) j op (v6 :: v5 :: v4 :: v3 :: v2 :: v1 :: v0 :: st) S.2.2 = some ([v0, v1, v2, v3, v4, v5, v6], st) := by
    unfold amCall
    dsimp only
    rw [hk.2.2.1]
    exact if_pos ⟨hk.1.1, hk.1.2, hk.2.1, by simp, hk.2.2.2, hcat, hfl⟩
  exact Ex.call he rfl hcl (hc _ ⟨rfl, rfl, rfl, rfl⟩ : Cl op [v0, v1, v2, v3, v4, v5, v6] S I J R (fun v' I' J' R' => v' = some v ∧ I' = I ∧ J' = J ∧ R' = R)) (by rintro _ _ _ _ ⟨rfl, rfl, rfl, rfl⟩; exact kk)
theorem Cv7 {a : Nat} {v0 v1 v2 v3 v4 v5 v6 : Value} {n : Nat} (he : amT j pc pc' (.invokevirtual n) op) (hk : (0 < op ∧ op < 900) ∧ amSt? op = false ∧ amNa op = 8 ∧ amRk op < amRk j) (ho : amO S a (amCi op)) (hcat : amCat st ≤ 8) (hfl : (amFlat [.ref a, v0, v1, v2, v3, v4, v5, v6]).length ≤ amMx op) {v : Value} (hc : Rv op [.ref a, v0, v1, v2, v3, v4, v5, v6] S I J R v) (kk : Ex j pc' ls (v :: st) S I J R Q) : Ex j pc ls (v6 :: v5 :: v4 :: v3 :: v2 :: v1 :: v0 :: .ref a :: st) S I J R Q := by
  have hcl : amCall (.invokevirtual n) j op (v6 :: v5 :: v4 :: v3 :: v2 :: v1 :: v0 :: .ref a :: st) S.2.2 = some ([.ref a, v0, v1, v2, v3, v4, v5, v6], st) := by
    unfold amCall
    dsimp only
    rw [hk.2.2.1]
    refine (if_pos ⟨hk.1.1, hk.1.2, hk.2.1, by simp, hk.2.2.2, hcat, hfl⟩).trans ?_
    exact if_pos ⟨ho.1, ho.2.2⟩
  exact Ex.call he rfl hcl (hc _ ⟨rfl, rfl, rfl, rfl⟩ : Cl op [.ref a, v0, v1, v2, v3, v4, v5, v6] S I J R (fun v' I' J' R' => v' = some v ∧ I' = I ∧ J' = J ∧ R' = R)) (by rintro _ _ _ _ ⟨rfl, rfl, rfl, rfl⟩; exact kk)
theorem Ci7 {a : Nat} {v0 v1 v2 v3 v4 v5 v6 : Value} {n : Nat} (he : amT j pc pc' (.invokespecial n) op) (hk : (0 < op ∧ op < 900) ∧ amSt? op = false ∧ amNa op = 8 ∧ amRk op < amRk j) (hcat : amCat st ≤ 8) (hfl : (amFlat [.ref a, v0, v1, v2, v3, v4, v5, v6]).length ≤ amMx op) {v : Value} (hc : Rv op [.ref a, v0, v1, v2, v3, v4, v5, v6] S I J R v) (kk : Ex j pc' ls (v :: st) S I J R Q) : Ex j pc ls (v6 :: v5 :: v4 :: v3 :: v2 :: v1 :: v0 :: .ref a :: st) S I J R Q := by
  have hcl : amCall (.invokespecial n) j op (v6 :: v5 :: v4 :: v3 :: v2 :: v1 :: v0 :: .ref a :: st) S.2.2 = some ([.ref a, v0, v1, v2, v3, v4, v5, v6], st) := by
    unfold amCall
    dsimp only
    rw [hk.2.2.1]
    refine (if_pos ⟨hk.1.1, hk.1.2, hk.2.1, by simp, hk.2.2.2, hcat, hfl⟩).trans ?_
    rfl
  exact Ex.call he rfl hcl (hc _ ⟨rfl, rfl, rfl, rfl⟩ : Cl op [.ref a, v0, v1, v2, v3, v4, v5, v6] S I J R (fun v' I' J' R' => v' = some v ∧ I' = I ∧ J' = J ∧ R' = R)) (by rintro _ _ _ _ ⟨rfl, rfl, rfl, rfl⟩; exact kk)
theorem Cs7p {v0 v1 v2 v3 v4 v5 v6 : Value} {n : Nat} (he : amT j pc pc' (.invokestatic n) op) (hk : (0 < op ∧ op < 900) ∧ amSt? op = true ∧ amNa op = 7 ∧ amRk op < amRk j) (hcat : amCat st ≤ 8) (hfl : (amFlat [v0, v1, v2, v3, v4, v5, v6]).length ≤ amMx op) {P : amQ} (hc : Cl op [v0, v1, v2, v3, v4, v5, v6] S I J R P) (kk : ∀ v I' J' R', P v I' J' R' → Ex j pc' ls (v.toList ++ st) S I' J' R' Q) : Ex j pc ls (v6 :: v5 :: v4 :: v3 :: v2 :: v1 :: v0 :: st) S I J R Q := by
  have hcl : amCall (.invokestatic n) j op (v6 :: v5 :: v4 :: v3 :: v2 :: v1 :: v0 :: st) S.2.2 = some ([v0, v1, v2, v3, v4, v5, v6], st) := by
    unfold amCall
    dsimp only
    rw [hk.2.2.1]
    exact if_pos ⟨hk.1.1, hk.1.2, hk.2.1, by simp, hk.2.2.2, hcat, hfl⟩
  exact Ex.call he rfl hcl hc kk
theorem Cv7p {a : Nat} {v0 v1 v2 v3 v4 v5 v6 : Value} {n : Nat} (he : amT j pc pc' (.invokevirtual n) op) (hk : (0 < op ∧ op < 900) ∧ amSt? op = false ∧ amNa op = 8 ∧ amRk op < amRk j) (ho : amO S a (amCi op)) (hcat : amCat st ≤ 8) (hfl : (amFlat [.ref a, v0, v1, v2, v3, v4, v5, v6]).length ≤ amMx op) {P : amQ} (hc : Cl op [.ref a, v0, v1, v2, v3, v4, v5, v6] S I J R P) (kk : ∀ v I' J' R', P v I' J' R' → Ex j pc' ls (v.toList ++ st) S I' J' R' Q) : Ex j pc ls (v6 :: v5 :: v4 :: v3 :: v2 :: v1 :: v0 :: .ref a :: st) S I J R Q := by
  have hcl : amCall (.invokevirtual n) j op (v6 :: v5 :: v4 :: v3 :: v2 :: v1 :: v0 :: .ref a :: st) S.2.2 = some ([.ref a, v0, v1, v2, v3, v4, v5, v6], st) := by
    unfold amCall
    dsimp only
    rw [hk.2.2.1]
    refine (if_pos ⟨hk.1.1, hk.1.2, hk.2.1, by simp, hk.2.2.2, hcat, hfl⟩).trans ?_
    exact if_pos ⟨ho.1, ho.2.2⟩
  exact Ex.call he rfl hcl hc kk
theorem Ci7p {a : Nat} {v0 v1 v2 v3 v4 v5 v6 : Value} {n : Nat} (he : amT j pc pc' (.invokespecial n) op) (hk : (0 < op ∧ op < 900) ∧ amSt? op = false ∧ amNa op = 8 ∧ amRk op < amRk j) (hcat : amCat st ≤ 8) (hfl : (amFlat [.ref a, v0, v1, v2, v3, v4, v5, v6]).length ≤ amMx op) {P : amQ} (hc : Cl op [.ref a, v0, v1, v2, v3, v4, v5, v6] S I J R P) (kk : ∀ v I' J' R', P v I' J' R' → Ex j pc' ls (v.toList ++ st) S I' J' R' Q) : Ex j pc ls (v6 :: v5 :: v4 :: v3 :: v2 :: v1 :: v0 :: .ref a :: st) S I J R Q := by
  have hcl : amCall (.invokespecial n) j op (v6 :: v5 :: v4 :: v3 :: v2 :: v1 :: v0 :: .ref a :: st) S.2.2 = some ([.ref a, v0, v1, v2, v3, v4, v5, v6], st) := by
    unfold amCall
    dsimp only
    rw [hk.2.2.1]
    refine (if_pos ⟨hk.1.1, hk.1.2, hk.2.1, by simp, hk.2.2.2, hcat, hfl⟩).trans ?_
    rfl
  exact Ex.call he rfl hcl hc kk
end ROWS
