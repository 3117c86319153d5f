/-! polynomials of the layout; chains: counts along them (printed by wip/whole/t25.py) -/
def zP : Po := fun _ => 0
/-- how often neighbours differ, of n pairs -/
def df (f : Nat → Int32) : Nat → Nat
  | 0 => 0
  | n + 1 => if f n = f (n + 1) then df f n else df f n + 1
theorem df_le (f : Nat → Int32) : ∀ n, df f n ≤ n
  | 0 => Nat.le_refl _
  | n + 1 => by
    have h := df_le f n
    show (if f n = f (n + 1) then df f n else df f n + 1) ≤ n + 1
    by_cases e : f n = f (n + 1)
    · rw [if_pos e]; omega
    · rw [if_neg e]; omega
def sAt (l : List Po) (u v : Int) (i : Nat) : Int32 := sgl (oI (hv (l.getD i zP) u v))
def sBe (l : List Po) (i : Nat) : Int32 := sba (l.getD i zP)
def sAb (l : List Po) (i : Nat) : Int32 := sgl (oI (hd (l.getD i zP)))
/-- CHANGES at a point, below all, above all -/
def tA (l : List Po) (u v : Int) : Nat := (chN (sAt l u v) l.length).1
def tB (l : List Po) : Nat := df (sBe l) (l.length - 1)
def tU (l : List Po) : Nat := df (sAb l) (l.length - 1)
theorem tA_le (l : List Po) (u v : Int) : tA l u v ≤ l.length := chN_le _ _
theorem tB_le (l : List Po) : tB l ≤ l.length - 1 := df_le _ _
theorem tU_le (l : List Po) : tU l ≤ l.length - 1 := df_le _ _
section CHAIN
variable {L : Nat} {I : amI} {J : amJ} {R : amR} {Q : amQ} {a b c x y h : Nat} {p q : Po} {l : List Po}
theorem po4 (h : amRok R) : amPO (amSH L) R 4 := ⟨o4 L, h 4 0 5 rfl, o5 L⟩
theorem po6 (h : amRok R) : amPO (amSH L) R 6 := ⟨o6 L, h 6 0 7 rfl, o7 L⟩
theorem po8 (h : amRok R) : amPO (amSH L) R 8 := ⟨o8 L, h 8 0 9 rfl, o9 L⟩
theorem po10 (h : amRok R) : amPO (amSH L) R 10 := ⟨o10 L, h 10 0 11 rfl, o11 L⟩
theorem po12 (h : amRok R) : amPO (amSH L) R 12 := ⟨o12 L, h 12 0 13 rfl, o13 L⟩
theorem po14 (h : amRok R) : amPO (amSH L) R 14 := ⟨o14 L, h 14 0 15 rfl, o15 L⟩
theorem po16 (h : amRok R) : amPO (amSH L) R 16 := ⟨o16 L, h 16 0 17 rfl, o17 L⟩
theorem po18 (h : amRok R) : amPO (amSH L) R 18 := ⟨o18 L, h 18 0 19 rfl, o19 L⟩
theorem po22 (h : amRok R) : amPO (amSH L) R 22 := ⟨o22 L, h 22 0 23 rfl, o23 L⟩
theorem po24 (h : amRok R) : amPO (amSH L) R 24 := ⟨o24 L, h 24 0 25 rfl, o25 L⟩
theorem po26 (h : amRok R) : amPO (amSH L) R 26 := ⟨o26 L, h 26 0 27 rfl, o27 L⟩
theorem po28 (h : amRok R) : amPO (amSH L) R 28 := ⟨o28 L, h 28 0 29 rfl, o29 L⟩
theorem po30 (h : amRok R) : amPO (amSH L) R 30 := ⟨o30 L, h 30 0 31 rfl, o31 L⟩
theorem po32 (h : amRok R) : amPO (amSH L) R 32 := ⟨o32 L, h 32 0 33 rfl, o33 L⟩
theorem po34 (h : amRok R) : amPO (amSH L) R 34 := ⟨o34 L, h 34 0 35 rfl, o35 L⟩
theorem po36 (h : amRok R) : amPO (amSH L) R 36 := ⟨o36 L, h 36 0 37 rfl, o37 L⟩
theorem po38 (h : amRok R) : amPO (amSH L) R 38 := ⟨o38 L, h 38 0 39 rfl, o39 L⟩
theorem po49 (h : amRok R) : amPO (amSH L) R 49 := ⟨o49 L, h 49 0 50 rfl, o50 L⟩
theorem po51 (h : amRok R) : amPO (amSH L) R 51 := ⟨o51 L, h 51 0 52 rfl, o52 L⟩
theorem po53 (h : amRok R) : amPO (amSH L) R 53 := ⟨o53 L, h 53 0 54 rfl, o54 L⟩
theorem po55 (h : amRok R) : amPO (amSH L) R 55 := ⟨o55 L, h 55 0 56 rfl, o56 L⟩
theorem po57 (h : amRok R) : amPO (amSH L) R 57 := ⟨o57 L, h 57 0 58 rfl, o58 L⟩
theorem po59 (h : amRok R) : amPO (amSH L) R 59 := ⟨o59 L, h 59 0 60 rfl, o60 L⟩
theorem po61 (h : amRok R) : amPO (amSH L) R 61 := ⟨o61 L, h 61 0 62 rfl, o62 L⟩
theorem po66 (h : amRok R) : amPO (amSH L) R 66 := ⟨o66 L, h 66 0 67 rfl, o67 L⟩
theorem po68 (h : amRok R) : amPO (amSH L) R 68 := ⟨o68 L, h 68 0 69 rfl, o69 L⟩
theorem po70 (h : amRok R) : amPO (amSH L) R 70 := ⟨o70 L, h 70 0 71 rfl, o71 L⟩
theorem po72 (h : amRok R) : amPO (amSH L) R 72 := ⟨o72 L, h 72 0 73 rfl, o73 L⟩
theorem po74 (h : amRok R) : amPO (amSH L) R 74 := ⟨o74 L, h 74 0 75 rfl, o75 L⟩
theorem po76 (h : amRok R) : amPO (amSH L) R 76 := ⟨o76 L, h 76 0 77 rfl, o77 L⟩
theorem po78 (h : amRok R) : amPO (amSH L) R 78 := ⟨o78 L, h 78 0 79 rfl, o79 L⟩
theorem po80 (h : amRok R) : amPO (amSH L) R 80 := ⟨o80 L, h 80 0 81 rfl, o81 L⟩
theorem po82 (h : amRok R) : amPO (amSH L) R 82 := ⟨o82 L, h 82 0 83 rfl, o83 L⟩
theorem po84 (h : amRok R) : amPO (amSH L) R 84 := ⟨o84 L, h 84 0 85 rfl, o85 L⟩
theorem po86 (h : amRok R) : amPO (amSH L) R 86 := ⟨o86 L, h 86 0 87 rfl, o87 L⟩
theorem po90 (h : amRok R) : amPO (amSH L) R 90 := ⟨o90 L, h 90 0 91 rfl, o91 L⟩
theorem po92 (h : amRok R) : amPO (amSH L) R 92 := ⟨o92 L, h 92 0 93 rfl, o93 L⟩
theorem po94 (h : amRok R) : amPO (amSH L) R 94 := ⟨o94 L, h 94 0 95 rfl, o95 L⟩
theorem po96 (h : amRok R) : amPO (amSH L) R 96 := ⟨o96 L, h 96 0 97 rfl, o97 L⟩
theorem po98 (h : amRok R) : amPO (amSH L) R 98 := ⟨o98 L, h 98 0 99 rfl, o99 L⟩
theorem po100 (h : amRok R) : amPO (amSH L) R 100 := ⟨o100 L, h 100 0 101 rfl, o101 L⟩
theorem po102 (h : amRok R) : amPO (amSH L) R 102 := ⟨o102 L, h 102 0 103 rfl, o103 L⟩
theorem po104 (h : amRok R) : amPO (amSH L) R 104 := ⟨o104 L, h 104 0 105 rfl, o105 L⟩
theorem po106 (h : amRok R) : amPO (amSH L) R 106 := ⟨o106 L, h 106 0 107 rfl, o107 L⟩
theorem po108 (h : amRok R) : amPO (amSH L) R 108 := ⟨o108 L, h 108 0 109 rfl, o109 L⟩
theorem po110 (h : amRok R) : amPO (amSH L) R 110 := ⟨o110 L, h 110 0 111 rfl, o111 L⟩
theorem po114 (h : amRok R) : amPO (amSH L) R 114 := ⟨o114 L, h 114 0 115 rfl, o115 L⟩
theorem po116 (h : amRok R) : amPO (amSH L) R 116 := ⟨o116 L, h 116 0 117 rfl, o117 L⟩
theorem po118 (h : amRok R) : amPO (amSH L) R 118 := ⟨o118 L, h 118 0 119 rfl, o119 L⟩
theorem po120 (h : amRok R) : amPO (amSH L) R 120 := ⟨o120 L, h 120 0 121 rfl, o121 L⟩
theorem po122 (h : amRok R) : amPO (amSH L) R 122 := ⟨o122 L, h 122 0 123 rfl, o123 L⟩
theorem po124 (h : amRok R) : amPO (amSH L) R 124 := ⟨o124 L, h 124 0 125 rfl, o125 L⟩
theorem po126 (h : amRok R) : amPO (amSH L) R 126 := ⟨o126 L, h 126 0 127 rfl, o127 L⟩
theorem po128 (h : amRok R) : amPO (amSH L) R 128 := ⟨o128 L, h 128 0 129 rfl, o129 L⟩
theorem po130 (h : amRok R) : amPO (amSH L) R 130 := ⟨o130 L, h 130 0 131 rfl, o131 L⟩
theorem po132 (h : amRok R) : amPO (amSH L) R 132 := ⟨o132 L, h 132 0 133 rfl, o133 L⟩
theorem po134 (h : amRok R) : amPO (amSH L) R 134 := ⟨o134 L, h 134 0 135 rfl, o135 L⟩
theorem po145 (h : amRok R) : amPO (amSH L) R 145 := ⟨o145 L, h 145 0 146 rfl, o146 L⟩
/-- one of the three chains -/
def CH (h : Nat) : Prop := h = 64 ∨ h = 88 ∨ h = 112
theorem CH.ge (hh : CH h) : 64 ≤ h := by rcases hh with e | e | e <;> omega
theorem CH.o (hh : CH h) : amO (amSH L) h 0 := by
  rcases hh with e | e | e
  · subst e; exact o64 L
  · subst e; exact o88 L
  · subst e; exact o112 L
theorem CH.oa (hh : CH h) : amA (amSH L) (h + 1) 3 10 := by
  rcases hh with e | e | e
  · subst e; exact o65 L
  · subst e; exact o89 L
  · subst e; exact o113 L
theorem CH.r0 (hh : CH h) (hR : amRok R) : R h 0 = some (h + 1) := by
  rcases hh with e | e | e
  · subst e; exact hR 64 0 65 rfl
  · subst e; exact hR 88 0 89 rfl
  · subst e; exact hR 112 0 113 rfl
theorem CH.r1 (hh : CH h) (hR : amRok R) : R h 1 = some (h + 2) := by
  rcases hh with e | e | e
  · subst e; exact hR 64 1 66 rfl
  · subst e; exact hR 88 1 90 rfl
  · subst e; exact hR 112 1 114 rfl
theorem CH.r2 (hh : CH h) (hR : amRok R) : R h 2 = some 40 := by
  rcases hh with e | e | e
  · subst e; exact hR 64 2 40 rfl
  · subst e; exact hR 88 2 40 rfl
  · subst e; exact hR 112 2 40 rfl
theorem CH.ps (hh : CH h) (hR : amRok R) : amPO (amSH L) R (h + 2) := by
  rcases hh with e | e | e
  · subst e; exact po66 hR
  · subst e; exact po90 hR
  · subst e; exact po114 hR
theorem CH.rm (hh : CH h) (hR : amRok R) : ∀ k, k < 10 → R (h + 1) k = some (h + 4 + 2 * k) := by
  rcases hh with e | e | e
  · subst e
    intro k hk
    match k, hk with
    | 0, _ => exact hR 65 0 68 rfl
    | 1, _ => exact hR 65 1 70 rfl
    | 2, _ => exact hR 65 2 72 rfl
    | 3, _ => exact hR 65 3 74 rfl
    | 4, _ => exact hR 65 4 76 rfl
    | 5, _ => exact hR 65 5 78 rfl
    | 6, _ => exact hR 65 6 80 rfl
    | 7, _ => exact hR 65 7 82 rfl
    | 8, _ => exact hR 65 8 84 rfl
    | 9, _ => exact hR 65 9 86 rfl
  · subst e
    intro k hk
    match k, hk with
    | 0, _ => exact hR 89 0 92 rfl
    | 1, _ => exact hR 89 1 94 rfl
    | 2, _ => exact hR 89 2 96 rfl
    | 3, _ => exact hR 89 3 98 rfl
    | 4, _ => exact hR 89 4 100 rfl
    | 5, _ => exact hR 89 5 102 rfl
    | 6, _ => exact hR 89 6 104 rfl
    | 7, _ => exact hR 89 7 106 rfl
    | 8, _ => exact hR 89 8 108 rfl
    | 9, _ => exact hR 89 9 110 rfl
  · subst e
    intro k hk
    match k, hk with
    | 0, _ => exact hR 113 0 116 rfl
    | 1, _ => exact hR 113 1 118 rfl
    | 2, _ => exact hR 113 2 120 rfl
    | 3, _ => exact hR 113 3 122 rfl
    | 4, _ => exact hR 113 4 124 rfl
    | 5, _ => exact hR 113 5 126 rfl
    | 6, _ => exact hR 113 6 128 rfl
    | 7, _ => exact hR 113 7 130 rfl
    | 8, _ => exact hR 113 8 132 rfl
    | 9, _ => exact hR 113 9 134 rfl
theorem CH.pm (hh : CH h) (hR : amRok R) : ∀ k, k < 10 → amPO (amSH L) R (h + 4 + 2 * k) := by
  rcases hh with e | e | e
  · subst e
    intro k hk
    match k, hk with
    | 0, _ => exact po68 hR
    | 1, _ => exact po70 hR
    | 2, _ => exact po72 hR
    | 3, _ => exact po74 hR
    | 4, _ => exact po76 hR
    | 5, _ => exact po78 hR
    | 6, _ => exact po80 hR
    | 7, _ => exact po82 hR
    | 8, _ => exact po84 hR
    | 9, _ => exact po86 hR
  · subst e
    intro k hk
    match k, hk with
    | 0, _ => exact po92 hR
    | 1, _ => exact po94 hR
    | 2, _ => exact po96 hR
    | 3, _ => exact po98 hR
    | 4, _ => exact po100 hR
    | 5, _ => exact po102 hR
    | 6, _ => exact po104 hR
    | 7, _ => exact po106 hR
    | 8, _ => exact po108 hR
    | 9, _ => exact po110 hR
  · subst e
    intro k hk
    match k, hk with
    | 0, _ => exact po116 hR
    | 1, _ => exact po118 hR
    | 2, _ => exact po120 hR
    | 3, _ => exact po122 hR
    | 4, _ => exact po124 hR
    | 5, _ => exact po126 hR
    | 6, _ => exact po128 hR
    | 7, _ => exact po130 hR
    | 8, _ => exact po132 hR
    | 9, _ => exact po134 hR
/-- the chain's rows hold the list -/
def CM (J : amJ) (h : Nat) (l : List Po) : Prop := ∀ k, k < l.length → JP J (h + 4 + 2 * k + 1) (l.getD k zP)
/-- each polynomial of the list is within bounds -/
def LB (l : List Po) : Prop := ∀ k, k < l.length → PB 4000000000000000000 (l.getD k zP)
def LZ (l : List Po) : Prop := ∀ k, k < l.length → sz (l.getD k zP) ≤ 5
set_option maxHeartbeats 2000000 in
theorem h_turnsAt_lp {u v : Int32} (hh : CH h) (hR : amRok R) (hl : I h 3 = nI l.length) (hl10 : l.length ≤ 10) (hM : CM J h l) (hB : LB l) (hZ : LZ l) (h1 : 1 ≤ v.toInt) (h2 : v.toInt ≤ 1000) (hQ : Q (some (.int (nI (tA l u.toInt v.toInt)))) I J R) : ∀ (n i : Nat) (l6 : Option Value), 10 - i < n → i ≤ l.length → Ex 34 8 [some (.ref h), some (.int u), some (.int v), some (.int (nI (chN (sAt l u.toInt v.toInt) i).1)), some (.int ((chN (sAt l u.toInt v.toInt) i).2)), some (.int (nI i)), l6] [] (amSH L) I J R Q := by
  intro n
  induction n with
  | zero => intro i l6 h; omega
  | succ n ih =>
    intro i l6 h' h9
    have hle := chN_le (sAt l u.toInt v.toInt) i
    refine LI5 e34_8 ?_
    refine LA0 e34_10 ?_
    refine Gi e34_11 hh.o (amGi_of f3 (by decide)) ?_
    rw [hl]
    refine CN_ge (a := i) (b := l.length) e34_14 t34_14 rfl rfl (by omega) (by omega) (fun h14 => ?_) (fun h14 => ?_)
    · refine LI3 e34_57 ?_
      exact Ri e34_58 rt34 (by
      have e9 : i = l.length := by omega
      subst e9
      exact hQ)
    · refine LA0 e34_17 ?_
      refine Gr e34_18 hh.o (hh.r0 hR) f0 ?_
      refine LI5 e34_21 ?_
      refine ArN (k := i) e34_23 hh.oa (by decide) rfl (by omega) (by decide) (hh.rm hR i (by omega)) ?_
      refine LI1 e34_24 ?_
      refine LI2 e34_25 ?_
      refine Cv2 e34_26 c34_21 (hh.pm (L := L) hR i (by omega)).1 (Nat.le_of_ble_eq_true rfl) (Nat.le_of_ble_eq_true rfl) (p_signAt (hh.pm hR i (by omega)) (hM i (by omega)) (hB i (by omega)) (hZ i (by omega)) h1 h2) ?_
      refine SI6 e34_29 rfl ?_
      refine LI6 e34_31 ?_
      refine LI4 e34_33 ?_
      refine Imul e34_35 ?_
      refine B_ge e34_36 t34_36 (fun h36 => ?_) (fun h36 => ?_)
      · refine LI6 e34_42 ?_
        refine B_eq e34_44 t34_44 (fun h44 => ?_) (fun h44 => ?_)
        · refine IncN5 (m := i) e34_51 rfl ?_
          refine Go e34_54 t34_54 ?_
          have e1 : (chN (sAt l u.toInt v.toInt) (i + 1)).1 = (chN (sAt l u.toInt v.toInt) i).1 := if_neg (Int32.not_lt.mpr h36)
          have e2 : (chN (sAt l u.toInt v.toInt) (i + 1)).2 = (chN (sAt l u.toInt v.toInt) i).2 := if_pos h44
          have := ih (i + 1) (some (.int (sAt l u.toInt v.toInt i))) (by omega) (by omega)
          rw [e1, e2] at this
          exact this
        · refine LI6 e34_47 ?_
          refine SI4 e34_49 rfl ?_
          refine IncN5 (m := i) e34_51 rfl ?_
          refine Go e34_54 t34_54 ?_
          have e1 : (chN (sAt l u.toInt v.toInt) (i + 1)).1 = (chN (sAt l u.toInt v.toInt) i).1 := if_neg (Int32.not_lt.mpr h36)
          have e2 : (chN (sAt l u.toInt v.toInt) (i + 1)).2 = sAt l u.toInt v.toInt i := if_neg h44
          have := ih (i + 1) (some (.int (sAt l u.toInt v.toInt i))) (by omega) (by omega)
          rw [e1, e2] at this
          exact this
      · refine IncN3 (m := (chN (sAt l u.toInt v.toInt) i).1) e34_39 rfl ?_
        refine LI6 e34_42 ?_
        refine B_eq e34_44 t34_44 (fun h44 => ?_) (fun h44 => ?_)
        · refine IncN5 (m := i) e34_51 rfl ?_
          refine Go e34_54 t34_54 ?_
          have e1 : (chN (sAt l u.toInt v.toInt) (i + 1)).1 = (chN (sAt l u.toInt v.toInt) i).1 + 1 := if_pos (Int32.not_le.mp h36)
          have e2 : (chN (sAt l u.toInt v.toInt) (i + 1)).2 = (chN (sAt l u.toInt v.toInt) i).2 := if_pos h44
          have := ih (i + 1) (some (.int (sAt l u.toInt v.toInt i))) (by omega) (by omega)
          rw [e1, e2] at this
          exact this
        · refine LI6 e34_47 ?_
          refine SI4 e34_49 rfl ?_
          refine IncN5 (m := i) e34_51 rfl ?_
          refine Go e34_54 t34_54 ?_
          have e1 : (chN (sAt l u.toInt v.toInt) (i + 1)).1 = (chN (sAt l u.toInt v.toInt) i).1 + 1 := if_pos (Int32.not_le.mp h36)
          have e2 : (chN (sAt l u.toInt v.toInt) (i + 1)).2 = sAt l u.toInt v.toInt i := if_neg h44
          have := ih (i + 1) (some (.int (sAt l u.toInt v.toInt i))) (by omega) (by omega)
          rw [e1, e2] at this
          exact this
set_option maxHeartbeats 2000000 in
theorem h_turnsAt {u v : Int32} (hh : CH h) (hR : amRok R) (hl : I h 3 = nI l.length) (hl10 : l.length ≤ 10) (hM : CM J h l) (hB : LB l) (hZ : LZ l) (h1 : 1 ≤ v.toInt) (h2 : v.toInt ≤ 1000) : Rv 34 [.ref h, .int u, .int v] (amSH L) I J R (.int (nI (tA l u.toInt v.toInt))) := by
  intro Q hQ
  show Ex 34 0 [some (.ref h), some (.int u), some (.int v), none, none, none, none] [] (amSH L) I J R _
  refine Ki e34_0 kiconst_0 ?_
  refine SI3 e34_1 rfl ?_
  refine Ki e34_2 kiconst_0 ?_
  refine SI4 e34_3 rfl ?_
  refine Ki e34_5 kiconst_0 ?_
  refine SI5 e34_6 rfl ?_
  exact h_turnsAt_lp hh hR hl hl10 hM hB hZ h1 h2 hQ 11 0 none (by omega) (by omega)
set_option maxHeartbeats 2000000 in
theorem h_below_lp (hh : CH h) (hR : amRok R) (hl : I h 3 = nI l.length) (hl10 : l.length ≤ 10) (hM : CM J h l) (hB : LB l) (hQ : Q (some (.int (nI (tB l)))) I J R) : ∀ (n m : Nat), 10 - m < n → m + 1 ≤ l.length → Ex 35 4 [some (.ref h), some (.int (nI (df (sBe l) m))), some (.int (nI (m + 1)))] [] (amSH L) I J R Q := by
  intro n
  induction n with
  | zero => intro i h; omega
  | succ n ih =>
    intro m h' h9
    have hle := df_le (sBe l) m
    refine LI2 e35_4 ?_
    refine LA0 e35_5 ?_
    refine Gi e35_6 hh.o (amGi_of f3 (by decide)) ?_
    rw [hl]
    refine CN_ge (a := (m + 1)) (b := l.length) e35_9 t35_9 rfl rfl (by omega) (by omega) (fun h9 => ?_) (fun h9 => ?_)
    · refine LI1 e35_44 ?_
      exact Ri e35_45 rt35 (by
      have e9 : m = l.length - 1 := by omega
      subst e9
      exact hQ)
    · refine LA0 e35_12 ?_
      refine Gr e35_13 hh.o (hh.r0 hR) f0 ?_
      refine LI2 e35_16 ?_
      refine Ki e35_17 kiconst_1 ?_
      refine IsubN (a := (m + 1)) (b := 1) e35_18 rfl (by decide) (by omega) ?_
      refine ArN (k := m) e35_19 hh.oa (by decide) (by rw [Nat.add_sub_cancel]) (by omega) (by decide) (hh.rm hR m (by omega)) ?_
      refine Cv0 e35_20 c35_23 (hh.pm (L := L) hR m (by omega)).1 (Nat.le_of_ble_eq_true rfl) (Nat.le_of_ble_eq_true rfl) (p_below (hh.pm hR m (by omega)) (hM m (by omega)) (hB m (by omega))) ?_
      refine LA0 e35_23 ?_
      refine Gr e35_24 hh.o (hh.r0 hR) f0 ?_
      refine LI2 e35_27 ?_
      refine ArN (k := m + 1) e35_28 hh.oa (by decide) rfl (by omega) (by decide) (hh.rm hR (m + 1) (by omega)) ?_
      refine Cv0 e35_29 c35_23 (hh.pm (L := L) hR (m + 1) (by omega)).1 (Nat.le_of_ble_eq_true rfl) (Nat.le_of_ble_eq_true rfl) (p_below (hh.pm hR (m + 1) (by omega)) (hM (m + 1) (by omega)) (hB (m + 1) (by omega))) ?_
      refine C_eq e35_32 t35_32 (fun h32 => ?_) (fun h32 => ?_)
      · refine IncN2 (m := (m + 1)) e35_38 rfl ?_
        refine Go e35_41 t35_41 ?_
        have e1 : df (sBe l) (m + 1) = df (sBe l) m := if_pos h32
        have := ih (m + 1) (by omega) (by omega)
        rw [e1] at this
        exact this
      · refine IncN1 (m := (df (sBe l) m)) e35_35 rfl ?_
        refine IncN2 (m := (m + 1)) e35_38 rfl ?_
        refine Go e35_41 t35_41 ?_
        have e1 : df (sBe l) (m + 1) = df (sBe l) m + 1 := if_neg h32
        have := ih (m + 1) (by omega) (by omega)
        rw [e1] at this
        exact this
set_option maxHeartbeats 2000000 in
theorem h_below (hh : CH h) (hR : amRok R) (hl : I h 3 = nI l.length) (hl10 : l.length ≤ 10) (hM : CM J h l) (hB : LB l) (hl1 : 1 ≤ l.length) : Rv 35 [.ref h] (amSH L) I J R (.int (nI (tB l))) := by
  intro Q hQ
  show Ex 35 0 [some (.ref h), none, none] [] (amSH L) I J R _
  refine Ki e35_0 kiconst_0 ?_
  refine SI1 e35_1 rfl ?_
  refine Ki e35_2 kiconst_1 ?_
  refine SI2 e35_3 rfl ?_
  exact h_below_lp hh hR hl hl10 hM hB hQ 11 0 (by omega) (by omega)
set_option maxHeartbeats 2000000 in
theorem h_above_lp (hh : CH h) (hR : amRok R) (hl : I h 3 = nI l.length) (hl10 : l.length ≤ 10) (hM : CM J h l) (hB : LB l) (hQ : Q (some (.int (nI (tU l)))) I J R) : ∀ (n m : Nat), 10 - m < n → m + 1 ≤ l.length → Ex 36 4 [some (.ref h), some (.int (nI (df (sAb l) m))), some (.int (nI (m + 1)))] [] (amSH L) I J R Q := by
  intro n
  induction n with
  | zero => intro i h; omega
  | succ n ih =>
    intro m h' h9
    have hle := df_le (sAb l) m
    refine LI2 e36_4 ?_
    refine LA0 e36_5 ?_
    refine Gi e36_6 hh.o (amGi_of f3 (by decide)) ?_
    rw [hl]
    refine CN_ge (a := (m + 1)) (b := l.length) e36_9 t36_9 rfl rfl (by omega) (by omega) (fun h9 => ?_) (fun h9 => ?_)
    · refine LI1 e36_44 ?_
      exact Ri e36_45 rt36 (by
      have e9 : m = l.length - 1 := by omega
      subst e9
      exact hQ)
    · refine LA0 e36_12 ?_
      refine Gr e36_13 hh.o (hh.r0 hR) f0 ?_
      refine LI2 e36_16 ?_
      refine Ki e36_17 kiconst_1 ?_
      refine IsubN (a := (m + 1)) (b := 1) e36_18 rfl (by decide) (by omega) ?_
      refine ArN (k := m) e36_19 hh.oa (by decide) (by rw [Nat.add_sub_cancel]) (by omega) (by decide) (hh.rm hR m (by omega)) ?_
      refine Cv0 e36_20 c36_22 (hh.pm (L := L) hR m (by omega)).1 (Nat.le_of_ble_eq_true rfl) (Nat.le_of_ble_eq_true rfl) (p_above (hh.pm hR m (by omega)) (hM m (by omega)) (hB m (by omega))) ?_
      refine LA0 e36_23 ?_
      refine Gr e36_24 hh.o (hh.r0 hR) f0 ?_
      refine LI2 e36_27 ?_
      refine ArN (k := m + 1) e36_28 hh.oa (by decide) rfl (by omega) (by decide) (hh.rm hR (m + 1) (by omega)) ?_
      refine Cv0 e36_29 c36_22 (hh.pm (L := L) hR (m + 1) (by omega)).1 (Nat.le_of_ble_eq_true rfl) (Nat.le_of_ble_eq_true rfl) (p_above (hh.pm hR (m + 1) (by omega)) (hM (m + 1) (by omega)) (hB (m + 1) (by omega))) ?_
      refine C_eq e36_32 t36_32 (fun h32 => ?_) (fun h32 => ?_)
      · refine IncN2 (m := (m + 1)) e36_38 rfl ?_
        refine Go e36_41 t36_41 ?_
        have e1 : df (sAb l) (m + 1) = df (sAb l) m := if_pos h32
        have := ih (m + 1) (by omega) (by omega)
        rw [e1] at this
        exact this
      · refine IncN1 (m := (df (sAb l) m)) e36_35 rfl ?_
        refine IncN2 (m := (m + 1)) e36_38 rfl ?_
        refine Go e36_41 t36_41 ?_
        have e1 : df (sAb l) (m + 1) = df (sAb l) m + 1 := if_neg h32
        have := ih (m + 1) (by omega) (by omega)
        rw [e1] at this
        exact this
set_option maxHeartbeats 2000000 in
theorem h_above (hh : CH h) (hR : amRok R) (hl : I h 3 = nI l.length) (hl10 : l.length ≤ 10) (hM : CM J h l) (hB : LB l) (hl1 : 1 ≤ l.length) : Rv 36 [.ref h] (amSH L) I J R (.int (nI (tU l))) := by
  intro Q hQ
  show Ex 36 0 [some (.ref h), none, none] [] (amSH L) I J R _
  refine Ki e36_0 kiconst_0 ?_
  refine SI1 e36_1 rfl ?_
  refine Ki e36_2 kiconst_1 ?_
  refine SI2 e36_3 rfl ?_
  exact h_above_lp hh hR hl hl10 hM hB hQ 11 0 (by omega) (by omega)
end CHAIN
