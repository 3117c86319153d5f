/-! THE ABSTRACT MACHINE: the program's instructions over a heap of kinds, ints, longs and references by (cell, slot). -/
/-- what a cell is: an object of a class, or an array of a kind (0 int, 1 long, 2 byte, 3 Poly, 4 long[], 8 the script) and a length -/
abbrev amK : Type := Nat ⊕ (Nat × Nat)
abbrev amS : Type := Nat × Nat × (Nat → amK)
abbrev amH : Type := amS × (Nat → Nat → Int32) × (Nat → Nat → Int64) × (Nat → Nat → Option Nat)
abbrev amL : Type := List (Option Value)
def amM (j : Nat) : amMt := amMs.getD j (yL_law, code, 4, ret, 1, 0, 99, true, 0, 0)
def amY (j : Nat) : MethodName := (amM j).1
def amB (j : Nat) : ByteArray := (amM j).2.1
def amMx (j : Nat) : Nat := (amM j).2.2.1
def amRt (j : Nat) : Option FieldType := (amM j).2.2.2.1
def amNa (j : Nat) : Nat := (amM j).2.2.2.2.1
def amRk (j : Nat) : Nat := (amM j).2.2.2.2.2.1
def amCi (j : Nat) : Nat := (amM j).2.2.2.2.2.2.1
def amSt? (j : Nat) : Bool := (amM j).2.2.2.2.2.2.2.1
def amEnt (j pc : Nat) : Option (Instr × Nat × Nat) := (amCs.getD j []).lookup pc
def amU {α : Type} (f : Nat → Nat → α) (a k : Nat) (x : α) : Nat → Nat → α := fun b i => if b = a ∧ i = k then x else f b i
def amZ {α : Type} (f : Nat → Nat → α) (a : Nat) (g : Nat → α) : Nat → Nat → α := fun b i => if b = a then g i else f b i
def amClr : Option Value → Option Value
  | some (.long _) => none
  | some (.double _) => none
  | v => v
def amSt : amL → Nat → Value → amL
  | [], _, _ => []
  | _ :: t, 0, v => some v :: t
  | h :: t, 1, v => amClr h :: amSt t 0 v
  | h :: t, k + 2, v => h :: amSt t (k + 1) v
def amSt2 : amL → Nat → Value → amL
  | [], _, _ => []
  | [_], _, _ => []
  | _ :: _ :: t, 0, v => some v :: none :: t
  | h :: h2 :: t, 1, v => amClr h :: amSt2 (h2 :: t) 0 v
  | h :: h2 :: t, k + 2, v => h :: amSt2 (h2 :: t) (k + 1) v
def amTg (pc : Nat) (off : Int) : Option Nat := if 0 ≤ (pc : Int) + off then some ((pc : Int) + off).toNat else none
def amLdI (ls : amL) (k : Nat) : Option Value := match ls[k]? with
  | some (some (.int x)) => some (.int x)
  | _ => none
def amLdJ (ls : amL) (k : Nat) : Option Value := match ls[k]? with
  | some (some (.long x)) => some (.long x)
  | _ => none
def amLdA (ls : amL) (k : Nat) : Option Value := match ls[k]? with
  | some (some (.ref x)) => some (.ref x)
  | some (some .null) => some .null
  | _ => none
def amC1 (c : ClassFile.Cond) (x : Int32) : Bool := match c with
  | .eq => decide (x = 0)
  | .ne => decide (¬ x = 0)
  | .lt => decide (x < 0)
  | .ge => decide (0 ≤ x)
  | .gt => decide (0 < x)
  | .le => decide (x ≤ 0)
def amC2 (c : ClassFile.Cond) (x y : Int32) : Bool := match c with
  | .eq => decide (x = y)
  | .ne => decide (¬ x = y)
  | .lt => decide (x < y)
  | .ge => decide (y ≤ x)
  | .gt => decide (y < x)
  | .le => decide (x ≤ y)
def amBr (pc len : Nat) (off : Int) (ls : amL) (r : List Value) (c : Bool) : Option (Nat × amL × List Value) :=
  match amTg pc off with
  | some t => if c = true then some (t, ls, r) else some (pc + len, ls, r)
  | none => none
def amCat (st : List Value) : Nat := (st.map fun v => v.category).sum
def amLcmp (x y : Int64) : Int32 := if y < x then 1 else if x = y then 0 else -1
/-- the texts' bytes -/
def amTx (i : Nat) : List Int32 := (((amSc.getD i ("", 0, "")).2.2).toList.map (fun ch => nI ch.toNat))
def amPure (i : Instr) (op len pc : Nat) (ls : amL) (st : List Value) : Option (Nat × amL × List Value) :=
  match i with
  | .iconst n => some (pc + len, ls, .int (Int32.ofInt n) :: st)
  | .bipush n => some (pc + len, ls, .int (Int8.ofInt n).toInt32 :: st)
  | .sipush n => some (pc + len, ls, .int (Int16.ofInt n).toInt32 :: st)
  | .lconst n => some (pc + len, ls, .long (Int64.ofNat (n : Nat)) :: st)
  | .aconst_null => some (pc + len, ls, .null :: st)
  | .ldc2_w _ => (amJc[op]?).map fun v => (pc + len, ls, .long v :: st)
  | .ldc_w _ => (amIc[op]?).map fun v => (pc + len, ls, .int v :: st)
  | .ldc _ => if op < 12 then some (pc + len, ls, .ref (1000000 + op) :: st) else none
  | .iload_n k => (amLdI ls k).map fun v => (pc + len, ls, v :: st)
  | .iload k => (amLdI ls k).map fun v => (pc + len, ls, v :: st)
  | .lload_n k => (amLdJ ls k).map fun v => (pc + len, ls, v :: st)
  | .lload k => (amLdJ ls k).map fun v => (pc + len, ls, v :: st)
  | .aload_n k => (amLdA ls k).map fun v => (pc + len, ls, v :: st)
  | .aload k => (amLdA ls k).map fun v => (pc + len, ls, v :: st)
  | .istore_n k => match st with
    | .int x :: r => if (k : Nat) < ls.length then some (pc + len, amSt ls k (.int x), r) else none
    | _ => none
  | .istore k => match st with
    | .int x :: r => if k < ls.length then some (pc + len, amSt ls k (.int x), r) else none
    | _ => none
  | .lstore_n k => match st with
    | .long x :: r => if (k : Nat) + 1 < ls.length then some (pc + len, amSt2 ls k (.long x), r) else none
    | _ => none
  | .lstore k => match st with
    | .long x :: r => if k + 1 < ls.length then some (pc + len, amSt2 ls k (.long x), r) else none
    | _ => none
  | .astore_n k => match st with
    | .ref x :: r => if (k : Nat) < ls.length then some (pc + len, amSt ls k (.ref x), r) else none
    | .null :: r => if (k : Nat) < ls.length then some (pc + len, amSt ls k .null, r) else none
    | _ => none
  | .astore k => match st with
    | .ref x :: r => if k < ls.length then some (pc + len, amSt ls k (.ref x), r) else none
    | .null :: r => if k < ls.length then some (pc + len, amSt ls k .null, r) else none
    | _ => none
  | .iinc k n => match ls[k]? with
    | some (some (.int x)) => some (pc + len, amSt ls k (.int (x + Int32.ofInt n)), st)
    | _ => none
  | .dup => match st with
    | v :: r => if v.category = 1 then some (pc + len, ls, v :: v :: r) else none
    | _ => none
  | .dup2 => match st with
    | v :: w :: r => if v.category = 1 ∧ w.category = 1 then some (pc + len, ls, v :: w :: v :: w :: r) else none
    | _ => none
  | .pop => match st with
    | v :: r => if v.category = 1 then some (pc + len, ls, r) else none
    | _ => none
  | .iadd => match st with
    | .int y :: .int x :: r => some (pc + len, ls, .int (x + y) :: r)
    | _ => none
  | .isub => match st with
    | .int y :: .int x :: r => some (pc + len, ls, .int (x - y) :: r)
    | _ => none
  | .imul => match st with
    | .int y :: .int x :: r => some (pc + len, ls, .int (x * y) :: r)
    | _ => none
  | .idiv => match st with
    | .int y :: .int x :: r => if y = 0 then none else some (pc + len, ls, .int (x / y) :: r)
    | _ => none
  | .irem => match st with
    | .int y :: .int x :: r => if y = 0 then none else some (pc + len, ls, .int (x - x / y * y) :: r)
    | _ => none
  | .iand => match st with
    | .int y :: .int x :: r => some (pc + len, ls, .int (x &&& y) :: r)
    | _ => none
  | .ineg => match st with
    | .int x :: r => some (pc + len, ls, .int (-x) :: r)
    | _ => none
  | .ladd => match st with
    | .long y :: .long x :: r => some (pc + len, ls, .long (x + y) :: r)
    | _ => none
  | .lsub => match st with
    | .long y :: .long x :: r => some (pc + len, ls, .long (x - y) :: r)
    | _ => none
  | .lmul => match st with
    | .long y :: .long x :: r => some (pc + len, ls, .long (x * y) :: r)
    | _ => none
  | .ldiv => match st with
    | .long y :: .long x :: r => if y = 0 then none else some (pc + len, ls, .long (x / y) :: r)
    | _ => none
  | .lrem => match st with
    | .long y :: .long x :: r => if y = 0 then none else some (pc + len, ls, .long (x - x / y * y) :: r)
    | _ => none
  | .lor => match st with
    | .long y :: .long x :: r => some (pc + len, ls, .long (x ||| y) :: r)
    | _ => none
  | .lneg => match st with
    | .long x :: r => some (pc + len, ls, .long (-x) :: r)
    | _ => none
  | .lshl => match st with
    | .int y :: .long x :: r => some (pc + len, ls, .long (x <<< (y.toInt64 &&& 63)) :: r)
    | _ => none
  | .lshr => match st with
    | .int y :: .long x :: r => some (pc + len, ls, .long (x >>> (y.toInt64 &&& 63)) :: r)
    | _ => none
  | .lushr => match st with
    | .int y :: .long x :: r => some (pc + len, ls, .long (x.toUInt64 >>> (y.toInt64.toUInt64 &&& Int64.toUInt64 63)).toInt64 :: r)
    | _ => none
  | .i2l => match st with
    | .int x :: r => some (pc + len, ls, .long x.toInt64 :: r)
    | _ => none
  | .l2i => match st with
    | .long x :: r => some (pc + len, ls, .int x.toInt32 :: r)
    | _ => none
  | .i2b => match st with
    | .int x :: r => some (pc + len, ls, .int x.toInt8.toInt32 :: r)
    | _ => none
  | .lcmp => match st with
    | .long y :: .long x :: r => some (pc + len, ls, .int (amLcmp x y) :: r)
    | _ => none
  | .ifCond c off => match st with
    | .int x :: r => amBr pc len off ls r (amC1 c x)
    | _ => none
  | .if_icmp c off => match st with
    | .int y :: .int x :: r => amBr pc len off ls r (amC2 c x y)
    | _ => none
  | .ifnull off => match st with
    | .ref _ :: r => amBr pc len off ls r false
    | .null :: r => amBr pc len off ls r true
    | _ => none
  | .ifnonnull off => match st with
    | .ref _ :: r => amBr pc len off ls r true
    | .null :: r => amBr pc len off ls r false
    | _ => none
  | .goto off => match amTg pc off with
    | some t => some (t, ls, st)
    | none => none
  | .tableswitch d lo hi offs => match st with
    | .int x :: r => if x.toInt < lo ∨ hi < x.toInt then (amTg pc d).map fun t => (t, ls, r) else (offs[(x.toInt - lo).toNat]?).bind fun o => (amTg pc o).map fun t => (t, ls, r)
    | _ => none
  | .invokestatic _ => match st with
    | .long y :: .long x :: r => if op = 902 ∧ amCat r ≤ 8 then some (pc + len, ls, .long (if y < x then x else y) :: r) else if op = 903 ∧ amCat (.long x :: r) ≤ 8 then some (pc + len, ls, .long (if 0 < y then y else -y) :: .long x :: r) else none
    | .long x :: r => if op = 903 ∧ amCat r ≤ 8 then some (pc + len, ls, .long (if 0 < x then x else -x) :: r) else none
    | _ => none
  | .invokespecial _ => match st with
    | .ref _ :: r => if op = 0 ∧ amCat r ≤ 8 then some (pc + len, ls, r) else none
    | _ => none
  | .invokevirtual _ => match st with
    | .ref a :: r => if op = 900 ∧ amCat r ≤ 8 ∧ 1000000 ≤ a ∧ a < 1000012 then some (pc + len, ls, .int (nI (amTx (a - 1000000)).length) :: r) else none
    | .int k :: .ref a :: r => if op = 901 ∧ amCat r ≤ 8 ∧ 1000000 ≤ a ∧ a < 1000012 ∧ 0 ≤ k ∧ k.toNatClampNeg < (amTx (a - 1000000)).length then some (pc + len, ls, .int ((amTx (a - 1000000)).getD k.toNatClampNeg 0) :: r) else none
    | _ => none
  | _ => none
def amFk (c k : Nat) : Nat := (amFt.getD c []).getD k 0
def amFn (c : Nat) : Nat := (amFt.getD c []).length
def amFv (c a k : Nat) (σ : amH) : Value := match amFk c k with
  | 1 => .long (σ.2.2.1 a k)
  | 2 => va_rf (σ.2.2.2 a k)
  | _ => .int (σ.2.1 a k)
def amNew (σ : amH) (kd : amK) (q : Nat) : amH := ((σ.1.1 + 1, σ.1.2.1 + q, fun b => if b = σ.1.1 + 1 then kd else σ.1.2.2 b), amZ σ.2.1 (σ.1.1 + 1) (fun _ => 0), amZ σ.2.2.1 (σ.1.1 + 1) (fun _ => 0), amZ σ.2.2.2 (σ.1.1 + 1) (fun _ => none))
/-- a row of N rows of k longs -/
def amNews (σ : amH) (k : Nat) : Nat → amH
  | 0 => σ
  | N + 1 => amNew (amNews σ k N) (.inr (1, k)) k
def amHeap (i : Instr) (op : Nat) (st : List Value) (σ : amH) : Option (List Value × amH) :=
  match i with
  | .getfield _ => match st with
    | .ref a :: r => if 0 < a ∧ a ≤ σ.1.1 ∧ σ.1.2.2 a = .inl (op / 64) ∧ op % 64 < amFn (op / 64) then some (amFv (op / 64) a (op % 64) σ :: r, σ) else none
    | _ => none
  | .putfield _ => match st with
    | v :: .ref a :: r => if 0 < a ∧ a ≤ σ.1.1 ∧ σ.1.2.2 a = .inl (op / 64) ∧ op % 64 < amFn (op / 64) then
        (match amFk (op / 64) (op % 64), v with
          | 0, .int x => some (r, (σ.1, amU σ.2.1 a (op % 64) x, σ.2.2))
          | 3, .int x => if x = 0 ∨ x = 1 then some (r, (σ.1, amU σ.2.1 a (op % 64) x, σ.2.2)) else none
          | 1, .long x => some (r, (σ.1, σ.2.1, amU σ.2.2.1 a (op % 64) x, σ.2.2.2))
          | 2, .ref x => some (r, (σ.1, σ.2.1, σ.2.2.1, amU σ.2.2.2 a (op % 64) (some x)))
          | _, _ => none) else none
    | _ => none
  | .iaload => match st with
    | .int k :: .ref a :: r => match σ.1.2.2 a with
      | .inr (t, n) => if a ≤ σ.1.1 ∧ (t = 0 ∧ 0 < a ∨ a = 0) ∧ 0 ≤ k ∧ k.toNatClampNeg < n then some (.int (σ.2.1 a k.toNatClampNeg) :: r, σ) else none
      | _ => none
    | _ => none
  | .baload => match st with
    | .int k :: .ref a :: r => match σ.1.2.2 a with
      | .inr (t, n) => if 0 < a ∧ a ≤ σ.1.1 ∧ t = 2 ∧ 0 ≤ k ∧ k.toNatClampNeg < n then some (.int (σ.2.1 a k.toNatClampNeg) :: r, σ) else none
      | _ => none
    | _ => none
  | .laload => match st with
    | .int k :: .ref a :: r => match σ.1.2.2 a with
      | .inr (t, n) => if 0 < a ∧ a ≤ σ.1.1 ∧ t = 1 ∧ 0 ≤ k ∧ k.toNatClampNeg < n then some (.long (σ.2.2.1 a k.toNatClampNeg) :: r, σ) else none
      | _ => none
    | _ => none
  | .aaload => match st with
    | .int k :: .ref a :: r => match σ.1.2.2 a with
      | .inr (t, n) => if 0 < a ∧ a ≤ σ.1.1 ∧ (t = 3 ∨ t = 4) ∧ 0 ≤ k ∧ k.toNatClampNeg < n then some (va_rf (σ.2.2.2 a k.toNatClampNeg) :: r, σ) else none
      | _ => none
    | _ => none
  | .iastore => match st with
    | .int x :: .int k :: .ref a :: r => match σ.1.2.2 a with
      | .inr (t, n) => if 0 < a ∧ a ≤ σ.1.1 ∧ t = 0 ∧ 0 ≤ k ∧ k.toNatClampNeg < n then some (r, (σ.1, amU σ.2.1 a k.toNatClampNeg x, σ.2.2)) else none
      | _ => none
    | _ => none
  | .bastore => match st with
    | .int x :: .int k :: .ref a :: r => match σ.1.2.2 a with
      | .inr (t, n) => if 0 < a ∧ a ≤ σ.1.1 ∧ t = 2 ∧ 0 ≤ k ∧ k.toNatClampNeg < n then some (r, (σ.1, amU σ.2.1 a k.toNatClampNeg x.toInt8.toInt32, σ.2.2)) else none
      | _ => none
    | _ => none
  | .lastore => match st with
    | .long x :: .int k :: .ref a :: r => match σ.1.2.2 a with
      | .inr (t, n) => if 0 < a ∧ a ≤ σ.1.1 ∧ t = 1 ∧ 0 ≤ k ∧ k.toNatClampNeg < n then some (r, (σ.1, σ.2.1, amU σ.2.2.1 a k.toNatClampNeg x, σ.2.2.2)) else none
      | _ => none
    | _ => none
  | .aastore => match st with
    | .ref b :: .int k :: .ref a :: r => match σ.1.2.2 a with
      | .inr (t, n) => if 0 < a ∧ a ≤ σ.1.1 ∧ 0 < b ∧ b ≤ σ.1.1 ∧ σ.1.2.2 b = .inl 7 ∧ t = 3 ∧ 0 ≤ k ∧ k.toNatClampNeg < n then some (r, (σ.1, σ.2.1, σ.2.2.1, amU σ.2.2.2 a k.toNatClampNeg (some b))) else none
      | _ => none
    | _ => none
  | .arraylength => match st with
    | .ref a :: r => match σ.1.2.2 a with
      | .inr (t, n) => if a ≤ σ.1.1 ∧ (t < 5 ∧ 0 < a ∨ a = 0) then some (.int (Int32.ofNat n) :: r, σ) else none
      | _ => none
    | _ => none
  | .new _ => if op < 13 ∧ σ.1.1 < 800000 then some (.ref (σ.1.1 + 1) :: st, amNew σ (.inl op) (amFn op)) else none
  | .newarray _ => match st with
    | .int k :: r => if op < 3 ∧ σ.1.1 < 800000 ∧ 0 ≤ k ∧ k.toNatClampNeg < 100000 then some (.ref (σ.1.1 + 1) :: r, amNew σ (.inr (op, k.toNatClampNeg)) k.toNatClampNeg) else none
    | _ => none
  | .anewarray _ => match st with
    | .int k :: r => if op = 3 ∧ σ.1.1 < 800000 ∧ 0 ≤ k ∧ k.toNatClampNeg < 100000 then some (.ref (σ.1.1 + 1) :: r, amNew σ (.inr (op, k.toNatClampNeg)) k.toNatClampNeg) else none
    | _ => none
  | .multianewarray _ 2 => match st with
    | .int k :: .int n :: r => if op = 4 ∧ σ.1.1 < 800000 ∧ 0 ≤ k ∧ k.toNatClampNeg < 100 ∧ 0 ≤ n ∧ n.toNatClampNeg < 100 then
        (let τ := amNews (amNew σ (.inr (4, n.toNatClampNeg)) n.toNatClampNeg) k.toNatClampNeg n.toNatClampNeg
         some (.ref (σ.1.1 + 1) :: r, (τ.1, τ.2.1, τ.2.2.1, amZ τ.2.2.2 (σ.1.1 + 1) (fun i => if i < n.toNatClampNeg then some (σ.1.1 + 2 + i) else none)))) else none
    | _ => none
  | _ => none
def amRet (i : Instr) (rt : Option FieldType) (st : List Value) : Option (Option Value) :=
  match i with
  | .ireturn => match st, rt with
    | [.int v], some .int => some (some (.int v))
    | [.int v], some .boolean => if v = 0 ∨ v = 1 then some (some (.int v)) else none
    | _, _ => none
  | .lreturn => match st, rt with
    | [.long v], some .long => some (some (.long v))
    | _, _ => none
  | .areturn => match st, rt with
    | [.ref v], some (.object _) => some (some (.ref v))
    | [.null], some (.object _) => some (some .null)
    | _, _ => none
  | .return_ => match st, rt with
    | [], none => some none
    | _, _ => none
  | _ => none
def amFlat : List Value → amL
  | [] => []
  | v :: t => if v.category = 2 then some v :: none :: amFlat t else some v :: amFlat t
def amEntry (j : Nat) (as : List Value) : amL := amFlat as ++ List.replicate (amMx j - (amFlat as).length) none
def amCall (i : Instr) (j k : Nat) (st : List Value) (K : Nat → amK) : Option (List Value × List Value) :=
  match i with
  | .invokestatic _ => if 0 < k ∧ k < 900 ∧ amSt? k = true ∧ amNa k ≤ st.length ∧ amRk k < amRk j ∧ amCat (st.drop (amNa k)) ≤ 8 ∧ (amFlat ((st.take (amNa k)).reverse)).length ≤ amMx k then some ((st.take (amNa k)).reverse, st.drop (amNa k)) else none
  | .invokevirtual _ => if 0 < k ∧ k < 900 ∧ amSt? k = false ∧ amNa k ≤ st.length ∧ amRk k < amRk j ∧ amCat (st.drop (amNa k)) ≤ 8 ∧ (amFlat ((st.take (amNa k)).reverse)).length ≤ amMx k then
      (match (st.take (amNa k)).reverse with
        | .ref a :: t => if 0 < a ∧ K a = .inl (amCi k) then some (.ref a :: t, st.drop (amNa k)) else none
        | _ => none) else none
  | .invokespecial _ => if 0 < k ∧ k < 900 ∧ amSt? k = false ∧ amNa k ≤ st.length ∧ amRk k < amRk j ∧ amCat (st.drop (amNa k)) ≤ 8 ∧ (amFlat ((st.take (amNa k)).reverse)).length ≤ amMx k then
      (match (st.take (amNa k)).reverse with
        | .ref a :: t => some (.ref a :: t, st.drop (amNa k))
        | _ => none) else none
  | _ => none
def amX : Nat → Nat → Nat → amL → List Value → amH → Option (Option Value × amH)
  | 0, _, _, _, _, _ => none
  | f + 1, j, pc, ls, st, σ =>
    match amEnt j pc with
    | none => none
    | some (i, len, op) =>
      match amRet i (amRt j) st with
      | some v => some (v, σ)
      | none =>
        match amCall i j op st σ.1.2.2 with
        | some (as, rest) =>
          (match amX f op 0 (amEntry op as) [] σ with
          | some (v, σ') => amX f j (pc + len) ls (v.toList ++ rest) σ'
          | none => none)
        | none =>
          match amPure i op len pc ls st with
          | some (pc', ls', st') => amX f j pc' ls' st' σ
          | none =>
            match amHeap i op st σ with
            | some (st', σ') => amX f j (pc + len) ls st' σ'
            | none => none
