/-! calls: judge, lots (printed by wip/whole/t61.py) -/
/-- the root t of l is told rightly at b -/
abbrev tlK (l : List Po) (c : Nat → Int32) (b t : Nat) : Prop := isPt (c b) (c (b + 1)) ∧ isPt (c (b + 2)) (c (b + 3)) ∧ (c b).toInt * (c (b + 3)).toInt < (c (b + 2)).toInt * (c (b + 1)).toInt ∧ nI (tB l) - nI (tA l (c b).toInt (c (b + 1)).toInt) = nI t ∧ nI (tB l) - nI (tA l (c (b + 2)).toInt (c (b + 3)).toInt) = nI (t + 1)
def jdN (l : List Po) (c : Nat → Int32) (m : Nat) (i : Int) : Nat → Nat → Int32
  | 0, _ => -5
  | f + 1, t => if nI t < nI (tB l) - nI (tU l) then (if (m : Int) - 4 * (t : Int) - 4 < i then nI (100 + t) else if tlK l c (i.toNat + 4 * t) t then jdN l c m i f (t + 1) else nI t) else -5
noncomputable def sJudge (σ : PS) (p q i : Int32) : Int32 := if inP σ.1 p then (if inL q ∧ 0 ≤ i.toInt then (match σ.2.2.2.2.2.1 q.toInt.toNat with
    | none => -11
    | some m => match chn (plP σ.1 p) with
      | none => -3
      | some l => jdN l (σ.2.2.2.2.2.2 q.toInt.toNat) m i.toInt 10 0) else -1) else -1
theorem jx {m k : Nat} (hm : m ≤ 24) (hk : k ≤ 20) : (nI m - nI (4 * k) - 4).toInt = (m : Int) - 4 * (k : Int) - 4 := by
  have e : nI m - nI (4 * k) - 4 = iI ((m : Int) - ((4 * k : Nat) : Int) - 4) := by
    rw [nI_iI, nI_iI]
    unfold iI
    rw [Int32.ofInt_sub, Int32.ofInt_sub]
    rfl
  rw [e, iI_t (by omega)]
  omega
theorem tB_8 {l : List Po} (h : l.length ≤ 9) : tB l ≤ 8 := by have := tB_le l; omega
theorem tot_le {l : List Po} (h : l.length ≤ 9) : (nI (tB l) - nI (tU l)).toInt ≤ 8 := by
  have h1 := tB_8 h
  have h2 := tU_le l
  have e : nI (tB l) - nI (tU l) = iI ((tB l : Int) - (tU l : Int)) := by
    rw [nI_iI, nI_iI]
    unfold iI
    rw [Int32.ofInt_sub]
  rw [e, iI_t (by omega)]
  omega
section CALLS7
variable {L : Nat} {I : amI} {J : amJ} {R : amR} {Q : amQ} {σ : PS} {l : List Po} {c : Nat → Nat → Int32}
set_option maxHeartbeats 2000000 in
theorem k_told {q b t m : Nat} (hR : amRok R) (hI : CI I J 64 l) (hZ : LZ l) (hq : q < 4) (hm : m ≤ 24) (hz : I 151 q = nI m) (hc : ∀ i, i < m → I 150 (q * 24 + i) = c q i) (hb : b + 3 < m) (ht : t ≤ 20) : Rv 150 [.ref 1, .int (nI q), .int (nI b), .int (nI t)] (amSH L) I J R (.int (bI (decide (tlK l (c q) b t)))) := by
  intro Q hQ
  have h0 := hc b (by omega)
  have h1 := hc (b + 1) (by omega)
  have h2 := hc (b + 2) (by omega)
  have h3 := hc (b + 3) (by omega)
  show Ex 150 0 [some (.ref 1), some (.int (nI q)), some (.int (nI b)), some (.int (nI t)), none, none, none, none, none] [] (amSH L) I J R _
  refine LA0 e150_0 ?_
  refine Gr e150_1 (o1 L) (hR 1 15 149 rfl) f719 ?_
  refine LI1 e150_4 ?_
  refine LI2 e150_5 ?_
  refine Cv2 e150_6 c150_108 (o149 L) (Nat.le_of_ble_eq_true rfl) (Nat.le_of_ble_eq_true rfl) ((h0 ▸ w_at (i := b) hR hq hz hm (by omega) : Rv 108 [.ref 149, .int (nI q), .int (nI b)] (amSH L) I J R (.int (c q b)))) ?_
  refine SI4 e150_9 rfl ?_
  refine LA0 e150_11 ?_
  refine Gr e150_12 (o1 L) (hR 1 15 149 rfl) f719 ?_
  refine LI1 e150_15 ?_
  refine LI2 e150_16 ?_
  refine Ki e150_17 kiconst_1 ?_
  refine IaddN (a := b) (b := 1) e150_18 rfl (by decide) ?_
  refine Cv2 e150_19 c150_108 (o149 L) (Nat.le_of_ble_eq_true rfl) (Nat.le_of_ble_eq_true rfl) ((h1 ▸ w_at (i := (b + 1)) hR hq hz hm (by omega) : Rv 108 [.ref 149, .int (nI q), .int (nI (b + 1))] (amSH L) I J R (.int (c q (b + 1))))) ?_
  refine SI5 e150_22 rfl ?_
  refine LA0 e150_24 ?_
  refine Gr e150_25 (o1 L) (hR 1 15 149 rfl) f719 ?_
  refine LI1 e150_28 ?_
  refine LI2 e150_29 ?_
  refine Ki e150_30 kiconst_2 ?_
  refine IaddN (a := b) (b := 2) e150_31 rfl (by decide) ?_
  refine Cv2 e150_32 c150_108 (o149 L) (Nat.le_of_ble_eq_true rfl) (Nat.le_of_ble_eq_true rfl) ((h2 ▸ w_at (i := (b + 2)) hR hq hz hm (by omega) : Rv 108 [.ref 149, .int (nI q), .int (nI (b + 2))] (amSH L) I J R (.int (c q (b + 2))))) ?_
  refine SI6 e150_35 rfl ?_
  refine LA0 e150_37 ?_
  refine Gr e150_38 (o1 L) (hR 1 15 149 rfl) f719 ?_
  refine LI1 e150_41 ?_
  refine LI2 e150_42 ?_
  refine Ki e150_43 kiconst_3 ?_
  refine IaddN (a := b) (b := 3) e150_44 rfl (by decide) ?_
  refine Cv2 e150_45 c150_108 (o149 L) (Nat.le_of_ble_eq_true rfl) (Nat.le_of_ble_eq_true rfl) ((h3 ▸ w_at (i := (b + 3)) hR hq hz hm (by omega) : Rv 108 [.ref 149, .int (nI q), .int (nI (b + 3))] (amSH L) I J R (.int (c q (b + 3))))) ?_
  refine SI7 e150_48 rfl ?_
  refine LI4 e150_50 ?_
  refine LI5 e150_52 ?_
  refine Cs2 e150_54 c150_146 (Nat.le_of_ble_eq_true rfl) (Nat.le_of_ble_eq_true rfl) (g_badPoint) ?_
  refine B_ne e150_57 t150_57 (fun hh57 => ?_) (fun hh57 => ?_)
  · refine Ki e150_83 kiconst_0 ?_
    exact Rz e150_84 rt150 (by decide) (by
    have e : bI (decide (tlK l (c q) b t)) = 0 := by
      rw [decide_eq_false]
      · rfl
      · exact fun q => by
          first
            | exact bI_t hh57 q.1
            | exact bI_t hh67 q.2.1
            | (have z := q.2.2.1
               rw [i32lt, pt_mul q.1.1 q.2.1.2, pt_mul q.2.1.1 q.1.2] at hh80
               exact hh80 z)
    rw [e] at hQ
    exact hQ)
  · refine LI6 e150_60 ?_
    refine LI7 e150_62 ?_
    refine Cs2 e150_64 c150_146 (Nat.le_of_ble_eq_true rfl) (Nat.le_of_ble_eq_true rfl) (g_badPoint) ?_
    refine B_ne e150_67 t150_67 (fun hh67 => ?_) (fun hh67 => ?_)
    · refine Ki e150_83 kiconst_0 ?_
      exact Rz e150_84 rt150 (by decide) (by
      have e : bI (decide (tlK l (c q) b t)) = 0 := by
        rw [decide_eq_false]
        · rfl
        · exact fun q => by
            first
              | exact bI_t hh57 q.1
              | exact bI_t hh67 q.2.1
              | (have z := q.2.2.1
                 rw [i32lt, pt_mul q.1.1 q.2.1.2, pt_mul q.2.1.1 q.1.2] at hh80
                 exact hh80 z)
      rw [e] at hQ
      exact hQ)
    · refine LI4 e150_70 ?_
      refine LI7 e150_72 ?_
      refine Imul e150_74 ?_
      refine LI6 e150_75 ?_
      refine LI5 e150_77 ?_
      refine Imul e150_79 ?_
      refine C_lt e150_80 t150_80 (fun hh80 => ?_) (fun hh80 => ?_)
      · have g1 : isPt (c q b) (c q (b + 1)) := Decidable.not_not.mp (bI_f hh57)
        have g2 : isPt (c q (b + 2)) (c q (b + 3)) := Decidable.not_not.mp (bI_f hh67)
        have gl : (c q b).toInt * (c q (b + 3)).toInt < (c q (b + 2)).toInt * (c q (b + 1)).toInt := by rw [i32lt, pt_mul g1.1 g2.2, pt_mul g2.1 g1.2] at hh80; exact hh80
        refine LA0 e150_85 ?_
        refine Gr e150_86 (o1 L) (hR 1 7 64 rfl) f711 ?_
        refine LI4 e150_89 ?_
        refine LI5 e150_91 ?_
        refine Cv2 e150_93 c150_41 (o64 L) (Nat.le_of_ble_eq_true rfl) (Nat.le_of_ble_eq_true rfl) ((h_notAbove ch64 hR hI hZ g1.2.1 g1.2.2)) ?_
        refine SI8 e150_96 rfl ?_
        refine LI8 e150_98 ?_
        refine LI3 e150_100 ?_
        refine C_ne e150_101 t150_101 (fun hh101 => ?_) (fun hh101 => ?_)
        · refine Ki e150_125 kiconst_0 ?_
          exact Rz e150_126 rt150 (by decide) (by
          have e : bI (decide (tlK l (c q) b t)) = 0 := by
            rw [decide_eq_false]
            · rfl
            · exact fun q => by first | exact hh101 q.2.2.2.1 | exact hh118 q.2.2.2.2
          rw [e] at hQ
          exact hQ)
        · refine LA0 e150_104 ?_
          refine Gr e150_105 (o1 L) (hR 1 7 64 rfl) f711 ?_
          refine LI6 e150_108 ?_
          refine LI7 e150_110 ?_
          refine Cv2 e150_112 c150_41 (o64 L) (Nat.le_of_ble_eq_true rfl) (Nat.le_of_ble_eq_true rfl) ((h_notAbove ch64 hR hI hZ g2.2.1 g2.2.2)) ?_
          refine LI3 e150_115 ?_
          refine Ki e150_116 kiconst_1 ?_
          refine IaddN (a := t) (b := 1) e150_117 rfl (by decide) ?_
          refine C_ne e150_118 t150_118 (fun hh118 => ?_) (fun hh118 => ?_)
          · refine Ki e150_125 kiconst_0 ?_
            exact Rz e150_126 rt150 (by decide) (by
            have e : bI (decide (tlK l (c q) b t)) = 0 := by
              rw [decide_eq_false]
              · rfl
              · exact fun q => by first | exact hh101 q.2.2.2.1 | exact hh118 q.2.2.2.2
            rw [e] at hQ
            exact hQ)
          · refine Ki e150_121 kiconst_1 ?_
            refine Go e150_122 t150_122 ?_
            exact Rz e150_126 rt150 (by decide) (by
            have e : bI (decide (tlK l (c q) b t)) = 1 := by
              rw [decide_eq_true]
              · rfl
              · exact ⟨g1, g2, gl, Decidable.not_not.mp hh101, Decidable.not_not.mp hh118⟩
            rw [e] at hQ
            exact hQ)
      · refine Ki e150_83 kiconst_0 ?_
        exact Rz e150_84 rt150 (by decide) (by
        have e : bI (decide (tlK l (c q) b t)) = 0 := by
          rw [decide_eq_false]
          · rfl
          · exact fun q => by
              first
                | exact bI_t hh57 q.1
                | exact bI_t hh67 q.2.1
                | (have z := q.2.2.1
                   rw [i32lt, pt_mul q.1.1 q.2.1.2, pt_mul q.2.1.1 q.1.2] at hh80
                   exact hh80 z)
        rw [e] at hQ
        exact hQ)
set_option maxHeartbeats 2000000 in
theorem jd_lp {y1 i : Int32} {q m a4 : Nat} (hR : amRok R) (hI : CI I J 64 l) (hZ : LZ l) (hq : q < 4) (hm : m ≤ 24) (hz : I 151 q = nI m) (hc : ∀ i, i < m → I 150 (q * 24 + i) = c q i) (hi : 0 ≤ i.toInt) : ∀ (f t : Nat), t + f = 10 → (∀ v, v = some (.int (jdN l (c q) m i.toInt f t)) → Q v I J R) → Ex 133 77 [some (.ref 1), some (.int y1), some (.int (nI q)), some (.int i), some (.ref a4), some (.int (nI m)), some (.int (nI (tB l) - nI (tU l))), some (.int (nI t))] [] (amSH L) I J R Q := by
  have htot := tot_le hI.2.2.2.1
  intro f
  induction f with
  | zero =>
    intro t ht hQ
    refine LI7 e133_77 ?_
    refine LI6 e133_79 ?_
    refine C_ge e133_81 t133_81 (fun _ => ?_) (fun q => absurd (by rw [i32le, nI_toInt (show t < 2 ^ 31 by omega)]; omega) q)
    refine Ki e133_128 kbipush_m5 ?_
    exact Ri e133_130 rt133 (hQ _ rfl)
  | succ f ih =>
    intro t ht hQ
    rw [jdN] at hQ
    refine LI7 e133_77 ?_
    refine LI6 e133_79 ?_
    refine C_ge e133_81 t133_81 (fun hh81 => ?_) (fun hh81 => ?_)
    · refine Ki e133_128 kbipush_m5 ?_
      exact Ri e133_130 rt133 (by
      rw [if_neg (by rw [i32lt]; rw [i32le] at hh81; omega)] at hQ
      exact hQ _ rfl)
    · refine LI3 e133_84 ?_
      refine LI5 e133_85 ?_
      refine Ki e133_87 kiconst_4 ?_
      refine LI7 e133_88 ?_
      refine ImulN (a := 4) (b := t) e133_90 (by decide) rfl ?_
      refine Isub e133_91 ?_
      refine Ki e133_92 kiconst_4 ?_
      refine Isub e133_93 ?_
      refine C_le e133_94 t133_94 (fun hh94 => ?_) (fun hh94 => ?_)
      · have hle : i.toInt ≤ (m : Int) - 4 * (t : Int) - 4 := by rw [i32le, jx hm (by omega)] at hh94; exact hh94
        rw [if_pos (by rw [i32lt]; rw [i32le] at hh81; omega), if_neg (by omega)] at hQ
        obtain ⟨b, hb, rfl⟩ : ∃ b : Nat, b + 4 * t + 3 < m ∧ i = nI b := ⟨i.toInt.toNat, by omega, by rw [← Int32.toInt_inj, nI_toInt (by omega)]; omega⟩
        have eb : (nI b).toInt.toNat = b := by rw [nI_toInt (by omega)]; omega
        rw [eb] at hQ
        refine LA0 e133_103 ?_
        refine LI2 e133_104 ?_
        refine LI3 e133_105 ?_
        refine Ki e133_106 kiconst_4 ?_
        refine LI7 e133_107 ?_
        refine ImulN (a := 4) (b := t) e133_109 (by decide) rfl ?_
        refine IaddN (a := b) (b := (4 * t)) e133_110 rfl rfl ?_
        refine LI7 e133_111 ?_
        refine Cv3 e133_113 c133_150 (o1 L) (Nat.le_of_ble_eq_true rfl) (Nat.le_of_ble_eq_true rfl) ((k_told (t := t) hR hI hZ hq hm hz hc (by omega) (by omega))) ?_
        refine B_ne e133_116 t133_116 (fun hh116 => ?_) (fun hh116 => ?_)
        · refine IncN7 (m := t) e133_122 rfl ?_
          refine Go e133_125 t133_125 ?_
          rw [if_pos (bI_t hh116)] at hQ
          exact ih (t + 1) (by omega) hQ
        · refine LI7 e133_119 ?_
          exact Ri e133_121 rt133 (by
          rw [if_neg (bI_f hh116)] at hQ
          exact hQ _ rfl)
      · refine Ki e133_97 kbipush_100 ?_
        refine LI7 e133_99 ?_
        refine IaddN (a := 100) (b := t) e133_101 (by decide) rfl ?_
        exact Ri e133_102 rt133 (by
        rw [if_pos (by rw [i32lt]; rw [i32le] at hh81; omega), if_pos (by rw [i32le, jx hm (by omega)] at hh94; omega)] at hQ
        exact hQ _ rfl)
set_option maxHeartbeats 2000000 in
theorem k_judge {p q i : Int32} (h : CSt I J R σ) : Cl 133 [.ref 1, .int p, .int q, .int i] (amSH L) I J R (CP I J R σ (.int (sJudge σ p q i))) := by
  obtain ⟨hR, ⟨x, y, hC⟩, hS, hK, hT, hW, hZ, hO⟩ := id h
  have h8 := hO.1.1
  have h0 := h
  have hfk : FrK I I J J := FrK.rf
  have hrk : RC R R := RC.rf
  unfold sJudge
  show Ex 133 0 [some (.ref 1), some (.int p), some (.int q), some (.int i), none, none, none, none] [] (amSH L) I J R _
  by_cases hp : inP σ.1 p
  · rw [if_pos hp]
    obtain ⟨k, hk, rfl, ek⟩ := hp.of h8
    have hok := hO.1.2 k hk
    have ha : amPO (amSH L) R (2 + 2 + 2 * k) := (show SH 2 from Or.inl rfl).pm hR k (by omega)
    have hP := hS.2 k hk
    rw [ek]
    have h5 := hok.2.2
    by_cases hl : inL q
    · obtain ⟨n, hn, eq, en⟩ := hl.of
      subst eq
      by_cases hi : 0 ≤ i.toInt
      · rw [if_pos ⟨hl, hi⟩, en]
        rcases hZ n hn with ⟨z1, z2⟩ | ⟨m, z1, z2, z3⟩
        · rw [z1]
          refine LA0 e133_0 ?_
          refine Gr e133_1 (o1 L) (hR 1 0 2 rfl) f704 ?_
          refine LI1 e133_4 ?_
          refine Cv1 e133_5 c133_55 (o2 L) (Nat.le_of_ble_eq_true rfl) (Nat.le_of_ble_eq_true rfl) ((s_pick (s := 2) (Or.inl rfl) hR hS.1 h8 hk)) ?_
          refine SA4 e133_8 rfl ?_
          refine LA4 e133_10 ?_
          refine N_null e133_12 t133_12 ?_
          refine LA0 e133_15 ?_
          refine Gr e133_16 (o1 L) (hR 1 15 149 rfl) f719 ?_
          refine LI2 e133_19 ?_
          refine Cv1 e133_20 c133_105 (o149 L) (Nat.le_of_ble_eq_true rfl) (Nat.le_of_ble_eq_true rfl) ((kn1 hn)) ?_
          refine B_eq e133_23 t133_23 (fun q => absurd q (by decide)) (fun _ => ?_)
          refine LI3 e133_26 ?_
          refine B_ge e133_27 t133_27 (fun _ => ?_) (fun q => absurd (by rw [i32le, show (0 : Int32).toInt = 0 from rfl]; exact hi) q)
          refine LA0 e133_32 ?_
          refine Gr e133_33 (o1 L) (hR 1 15 149 rfl) f719 ?_
          refine LI2 e133_36 ?_
          refine Cv1 e133_37 c133_106 (o149 L) (Nat.le_of_ble_eq_true rfl) (Nat.le_of_ble_eq_true rfl) ((wsz hR hn z2)) ?_
          refine SI5 e133_40 rfl ?_
          refine LI5 e133_42 ?_
          refine B_ge e133_44 t133_44 (fun q => absurd q (by decide)) (fun _ => ?_)
          refine Ki e133_47 kbipush_m11 ?_
          exact Ri e133_49 rt133 (CP.rf h)
        · rw [z1]
          have hm := hO.2.2.2.2 n m z1
          dsimp only
          refine LA0 e133_0 ?_
          refine Gr e133_1 (o1 L) (hR 1 0 2 rfl) f704 ?_
          refine LI1 e133_4 ?_
          refine Cv1 e133_5 c133_55 (o2 L) (Nat.le_of_ble_eq_true rfl) (Nat.le_of_ble_eq_true rfl) ((s_pick (s := 2) (Or.inl rfl) hR hS.1 h8 hk)) ?_
          refine SA4 e133_8 rfl ?_
          refine LA4 e133_10 ?_
          refine N_null e133_12 t133_12 ?_
          refine LA0 e133_15 ?_
          refine Gr e133_16 (o1 L) (hR 1 15 149 rfl) f719 ?_
          refine LI2 e133_19 ?_
          refine Cv1 e133_20 c133_105 (o149 L) (Nat.le_of_ble_eq_true rfl) (Nat.le_of_ble_eq_true rfl) ((kn1 hn)) ?_
          refine B_eq e133_23 t133_23 (fun q => absurd q (by decide)) (fun _ => ?_)
          refine LI3 e133_26 ?_
          refine B_ge e133_27 t133_27 (fun _ => ?_) (fun q => absurd (by rw [i32le, show (0 : Int32).toInt = 0 from rfl]; exact hi) q)
          refine LA0 e133_32 ?_
          refine Gr e133_33 (o1 L) (hR 1 15 149 rfl) f719 ?_
          refine LI2 e133_36 ?_
          refine Cv1 e133_37 c133_106 (o149 L) (Nat.le_of_ble_eq_true rfl) (Nat.le_of_ble_eq_true rfl) ((wsz hR hn z2)) ?_
          refine SI5 e133_40 rfl ?_
          refine LI5 e133_42 ?_
          refine B_ge e133_44 t133_44 (fun _ => ?_) (fun q => absurd (nI_nn (by omega)) q)
          refine LA0 e133_50 ?_
          refine Gr e133_51 (o1 L) (hR 1 7 64 rfl) f711 ?_
          refine LA4 e133_54 ?_
          refine Cv1p e133_56 c133_29 (o64 L) (Nat.le_of_ble_eq_true rfl) (Nat.le_of_ble_eq_true rfl) (h_build ch64 hR hC ha (by omega) hP (hok.b) (fr_ok h5)) ?_
          rintro v1 I1 J1 R1 hBu
          obtain ⟨hfi, hfb, hR, hrc, ⟨x, y, hC⟩, hD⟩ := id hBu
          have h := h.k (BuP.k ch64 hBu) hR ⟨x, y, hC⟩
          obtain ⟨-, -, hS, -, hT, hW, hZ, -⟩ := id h
          have hfk := hfk.tr (BuP.k ch64 hBu)
          have hrk := hrk.tr hrc
          have ha := ha.rc hrc (by omega)
          have hP := hP.fbb ch64 hfb (by omega)
          rcases hD with ⟨l, hll, rfl, hI⟩ | ⟨hll, rfl⟩
          · rw [hll]
            dsimp only
            have hZl := chn_LZ hll (hok.2.1) (h5)
            have hl9l := hI.2.2.2.1
            refine B_ne e133_59 t133_59 (fun _ => ?_) (fun q => absurd (by decide) q)
            refine LA0 e133_65 ?_
            refine Gr e133_66 (o1 L) (hR 1 7 64 rfl) f711 ?_
            refine Cv0 e133_69 c133_39 (o64 L) (Nat.le_of_ble_eq_true rfl) (Nat.le_of_ble_eq_true rfl) ((h_total ch64 hI)) ?_
            refine SI6 e133_72 rfl ?_
            refine Ki e133_74 kiconst_0 ?_
            refine SI7 e133_75 rfl ?_
            have e149 : I1 151 = _ := hBu.1 151 (by decide)
            have e148 : I1 150 = _ := hBu.1 150 (by decide)
            exact jd_lp (c := σ.2.2.2.2.2.2) hR hI hZl hn hm (by rw [e149]; exact z2) (fun i hi => by rw [e148]; exact z3 i hi) hi 10 0 rfl (fun v hv => by subst hv; exact CP.k h0 hfk hR ⟨_, _, hC⟩ hrk)
          · rw [hll]
            refine B_ne e133_59 t133_59 (fun q => absurd q (fun z => z rfl)) (fun _ => ?_)
            refine Ki e133_62 kbipush_m3 ?_
            exact Ri e133_64 rt133 (CP.k h0 hfk hR ⟨_, _, hC⟩ hrk)
      · rw [if_neg (fun z => hi z.2)]
        refine LA0 e133_0 ?_
        refine Gr e133_1 (o1 L) (hR 1 0 2 rfl) f704 ?_
        refine LI1 e133_4 ?_
        refine Cv1 e133_5 c133_55 (o2 L) (Nat.le_of_ble_eq_true rfl) (Nat.le_of_ble_eq_true rfl) ((s_pick (s := 2) (Or.inl rfl) hR hS.1 h8 hk)) ?_
        refine SA4 e133_8 rfl ?_
        refine LA4 e133_10 ?_
        refine N_null e133_12 t133_12 ?_
        refine LA0 e133_15 ?_
        refine Gr e133_16 (o1 L) (hR 1 15 149 rfl) f719 ?_
        refine LI2 e133_19 ?_
        refine Cv1 e133_20 c133_105 (o149 L) (Nat.le_of_ble_eq_true rfl) (Nat.le_of_ble_eq_true rfl) ((kn1 hn)) ?_
        refine B_eq e133_23 t133_23 (fun q => absurd q (by decide)) (fun _ => ?_)
        refine LI3 e133_26 ?_
        refine B_ge e133_27 t133_27 (fun q => absurd q (fun z => by rw [i32le, show (0 : Int32).toInt = 0 from rfl] at z; omega)) (fun _ => ?_)
        refine Ki e133_30 kiconst_m1 ?_
        exact Ri e133_31 rt133 (CP.rf h)
    · rw [if_neg (fun z => hl z.1)]
      refine LA0 e133_0 ?_
      refine Gr e133_1 (o1 L) (hR 1 0 2 rfl) f704 ?_
      refine LI1 e133_4 ?_
      refine Cv1 e133_5 c133_55 (o2 L) (Nat.le_of_ble_eq_true rfl) (Nat.le_of_ble_eq_true rfl) ((s_pick (s := 2) (Or.inl rfl) hR hS.1 h8 hk)) ?_
      refine SA4 e133_8 rfl ?_
      refine LA4 e133_10 ?_
      refine N_null e133_12 t133_12 ?_
      refine LA0 e133_15 ?_
      refine Gr e133_16 (o1 L) (hR 1 15 149 rfl) f719 ?_
      refine LI2 e133_19 ?_
      refine Cv1 e133_20 c133_105 (o149 L) (Nat.le_of_ble_eq_true rfl) (Nat.le_of_ble_eq_true rfl) ((kn0 hl)) ?_
      refine B_eq e133_23 t133_23 (fun _ => ?_) (fun q => absurd (rfl) q)
      refine Ki e133_30 kiconst_m1 ?_
      exact Ri e133_31 rt133 (CP.rf h)
  · rw [if_neg hp]
    refine LA0 e133_0 ?_
    refine Gr e133_1 (o1 L) (hR 1 0 2 rfl) f704 ?_
    refine LI1 e133_4 ?_
    refine Cv1 e133_5 c133_55 (o2 L) (Nat.le_of_ble_eq_true rfl) (Nat.le_of_ble_eq_true rfl) ((s_pickno (s := 2) (Or.inl rfl) hR hS.1 h8 hp)) ?_
    refine SN4 e133_8 rfl ?_
    refine LN4 e133_10 ?_
    refine Z_null e133_12 t133_12 ?_
    refine Ki e133_30 kiconst_m1 ?_
    exact Ri e133_31 rt133 (CP.rf h)
end CALLS7
