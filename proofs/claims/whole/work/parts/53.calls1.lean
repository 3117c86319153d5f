/-! calls: number, of, value, drop, feed, prints, paper (printed by wip/whole/t53.py) -/
abbrev NOv : Int64 := -9223372036854775808
def sNumber (ps : List Po) (p k : Int32) : Int64 := if inP ps p then (if 0 ≤ k.toInt ∧ k.toInt ≤ 4 then oI (plP ps p k.toInt.toNat) else NOv) else NOv
/-- how many of the first n are like p -/
def lkP (p q : Po) : Nat → Bool
  | 0 => true
  | n + 1 => lkP p q n && decide (p n = q n)
theorem lkP_iff {p q : Po} : ∀ {n : Nat}, lkP p q n = true ↔ ∀ k, k < n → p k = q k
  | 0 => ⟨fun _ k hk => absurd hk (Nat.not_lt_zero k), fun _ => rfl⟩
  | n + 1 => by
    rw [lkP, Bool.and_eq_true, lkP_iff (n := n), decide_eq_true_iff]
    constructor
    · intro h k hk
      by_cases e : k = n
      · rw [e]; exact h.2
      · exact h.1 k (by omega)
    · exact fun h => ⟨fun k hk => h k (by omega), h n (by omega)⟩
def alN (ps : List Po) (p : Po) : Nat → Nat
  | 0 => 0
  | n + 1 => alN ps p n + (if lkP (ps.getD n zP) p 9 = true then 1 else 0)
def sOf (ps : List Po) (p t : Int32) : Int32 := if inP ps p then (if t = 0 then dI (sz (plP ps p)) else if t = 1 then nI (chN (fun k => sgl (oI (plP ps p k))) 9).1 else if t = 2 then nI (alN ps (plP ps p) ps.length) else -1) else -1
def sValue (ps : List Po) (p u v : Int32) : Int64 := if inP ps p then (if isPt u v then oI (hv (plP ps p) u.toInt v.toInt) else NOv) else NOv
def sDrop (σ : PS) : Int32 × PS := if σ.1.length = 0 then (-6, σ) else (nI (σ.1.length - 1), (σ.1.take (σ.1.length - 1), σ.2))
def sFeed (σ : PS) (v : Int32) : Int32 × PS := if 1 ≤ v.toInt ∧ v.toInt ≤ 127 then (if σ.2.2.2.1 = 120 then (-3, σ) else (nI (σ.2.2.2.1 + 1), (σ.1, σ.2.1, (fun k => if k = σ.2.2.2.1 then v else σ.2.2.1 k), σ.2.2.2.1 + 1, σ.2.2.2.2))) else (-1, σ)
def sPrints (σ : PS) (p : Int32) : Int32 × PS := if inP σ.1 p then (nI (wrP (plP σ.1 p) 5 []).length, (σ.1, σ.2.1, σ.2.2.1, σ.2.2.2.1, wrP (plP σ.1 p) 5 [], σ.2.2.2.2.2)) else (-1, σ)
def sPaper (w : List Int32) (i : Int32) : Int32 := if i.toInt < 0 then -1 else if i.toInt < (w.length : Int) then w.getD i.toInt.toNat 0 else -2
theorem hml_al {J : amJ} {ps : List Po} {a : Nat} {p : Po} (hS : ∀ k, k < ps.length → JP J (2 + 2 + 2 * k + 1) (ps.getD k zP)) (hO : ∀ k, k < ps.length → Pok (ps.getD k zP)) (hp : JP J (a + 1) p) (hP : Pok p) : ∀ n, n ≤ ps.length → hml J 2 a n = alN ps p n
  | 0, _ => rfl
  | n + 1, h => by
    have e : (lk (J (2 + 2 + 2 * n + 1)) (J (a + 1)) 9 = true) ↔ (∀ i, i < 9 → ps.getD n zP i = p i) := by
      rw [lk_iff]
      constructor
      · intro q i hi
        have := q i hi
        rw [hS n (by omega) i hi, hp i hi, oI_eq ((hO n (by omega)).1.iB (by decide) hi) (hP.1.iB (by decide) hi)] at this
        exact this
      · intro q i hi
        rw [hS n (by omega) i hi, hp i hi, q i hi]
    rw [hml, alN, hml_al hS hO hp hP n (by omega)]
    by_cases g : lkP (ps.getD n zP) p 9 = true
    · rw [if_pos (e.mpr (lkP_iff.mp g)), if_pos g]
    · rw [if_neg (fun z => g (lkP_iff.mpr (e.mp z))), if_neg g, Nat.add_zero]
theorem i64_of (x : Int32) : x.toInt64 = oI x.toInt := i2l_oI x
theorem KpP.cg {I I' : amI} {J J' : amJ} {o : Option (List Po)} (h : KpP I J o) (h1 : I' 1 = I 1) (h2 : I' 20 = I 20) (h3 : ∀ l, o = some l → J' = J ∨ ∀ k, k < l.length → J' (20 + 2 + 2 * k + 1) = J (20 + 2 + 2 * k + 1)) : KpP I' J' o := by
  rcases h with h | ⟨l, e, h4, h5⟩
  · exact Or.inl ⟨h.1, by rw [h1]; exact h.2⟩
  · refine Or.inr ⟨l, e, by rw [h1]; exact h4, h5.cg h2 (fun k hk => ?_)⟩
    rcases h3 l e with q | q
    · rw [q]
    · exact q k hk
theorem TT.cg {I I' : amI} {T : Nat → Int32} {n : Nat} (h : TT I T n) (h1 : I' 143 = I 143) (h2 : I' 144 = I 144) : TT I' T n := ⟨by rw [h1]; exact h.1, h.2.1, fun k hk => by rw [h2]; exact h.2.2.1 k hk, h.2.2.2⟩
theorem PL.cg {I I' : amI} {w : List Int32} (h : PL I w) (h1 : I' 147 = I 147) (h2 : I' 148 = I 148) : PL I' w := ⟨by rw [h1]; exact h.1, fun k hk => by rw [h2]; exact h.2 k hk⟩
theorem RzP.cg {I I' : amI} {rz : Nat → Option Nat} {rc : Nat → Nat → Int32} (h : RzP I rz rc) (h1 : I' 150 = I 150) (h2 : I' 151 = I 151) : RzP I' rz rc := fun k hk => by
  rw [h1, h2]
  exact h k hk
section CALLS1
variable {L : Nat} {I : amI} {J : amJ} {R : amR} {Q : amQ} {σ : PS}
set_option maxHeartbeats 2000000 in
theorem k_number {p q : Int32} (h : CSt I J R σ) : Cl 114 [.ref 1, .int p, .int q] (amSH L) I J R (CP I J R σ (.long (sNumber σ.1 p q))) := by
  obtain ⟨hR, ⟨x, y, hC⟩, hS, hK, hT, hW, hZ, hO⟩ := id h
  have h8 := hO.1.1
  unfold sNumber
  show Ex 114 0 [some (.ref 1), some (.int p), some (.int q), none] [] (amSH L) I J R _
  by_cases hp : inP σ.1 p
  · rw [if_pos hp]
    obtain ⟨k, hk, rfl, ek⟩ := hp.of h8
    have hok := hO.1.2 k hk
    have ha : amPO (amSH L) R (2 + 2 + 2 * k) := (show SH 2 from Or.inl rfl).pm hR k (by omega)
    have hP := hS.2 k hk
    rw [ek]
    refine LA0 e114_0 ?_
    refine Gr e114_1 (o1 L) (hR 1 0 2 rfl) f704 ?_
    refine LI1 e114_4 ?_
    refine Cv1 e114_5 c114_55 (o2 L) (Nat.le_of_ble_eq_true rfl) (Nat.le_of_ble_eq_true rfl) ((s_pick (s := 2) (Or.inl rfl) hR hS.1 h8 hk)) ?_
    refine SA3 e114_8 rfl ?_
    refine LA3 e114_9 ?_
    refine N_null e114_10 t114_10 ?_
    refine LI2 e114_13 ?_
    refine B_lt e114_14 t114_14 (fun h14 => ?_) (fun h14 => ?_)
    · refine Kd e114_22 kj4 ?_
      exact Rj e114_25 rt114 (by
      simp only [i32lt, i32le, show (0 : Int32).toInt = 0 from rfl, show (4 : Int32).toInt = 4 from rfl] at *
      rw [if_neg (by omega)]
      exact CP.rf h)
    · refine LI2 e114_17 ?_
      refine Ki e114_18 kiconst_4 ?_
      refine C_le e114_19 t114_19 (fun h19 => ?_) (fun h19 => ?_)
      · refine LA3 e114_26 ?_
        refine LI2 e114_27 ?_
        refine Cv1 e114_28 c114_3 ha.1 (Nat.le_of_ble_eq_true rfl) (Nat.le_of_ble_eq_true rfl) ((p_at ha _)) ?_
        exact Rj e114_31 rt114 (by
        simp only [i32lt, i32le, show (0 : Int32).toInt = 0 from rfl, show (4 : Int32).toInt = 4 from rfl] at *
        rw [if_pos ⟨by omega, by omega⟩]
        have e : atv J (2 + 2 + 2 * k) q = oI ((σ.1.getD k zP) q.toInt.toNat) := by
          unfold atv
          rw [if_pos ⟨by omega, by omega⟩]
          exact hP _ (by omega)
        rw [e]
        exact CP.rf h)
      · refine Kd e114_22 kj4 ?_
        exact Rj e114_25 rt114 (by
        simp only [i32lt, i32le, show (0 : Int32).toInt = 0 from rfl, show (4 : Int32).toInt = 4 from rfl] at *
        rw [if_neg (by omega)]
        exact CP.rf h)
  · rw [if_neg hp]
    refine LA0 e114_0 ?_
    refine Gr e114_1 (o1 L) (hR 1 0 2 rfl) f704 ?_
    refine LI1 e114_4 ?_
    refine Cv1 e114_5 c114_55 (o2 L) (Nat.le_of_ble_eq_true rfl) (Nat.le_of_ble_eq_true rfl) ((s_pickno (s := 2) (Or.inl rfl) hR hS.1 h8 hp)) ?_
    refine SN3 e114_8 rfl ?_
    refine LN3 e114_9 ?_
    refine Z_null e114_10 t114_10 ?_
    refine Kd e114_22 kj4 ?_
    exact Rj e114_25 rt114 (CP.rf h)
set_option maxHeartbeats 2000000 in
theorem k_of {p q : Int32} (h : CSt I J R σ) : Cl 115 [.ref 1, .int p, .int q] (amSH L) I J R (CP I J R σ (.int (sOf σ.1 p q))) := by
  obtain ⟨hR, ⟨x, y, hC⟩, hS, hK, hT, hW, hZ, hO⟩ := id h
  have h8 := hO.1.1
  unfold sOf
  show Ex 115 0 [some (.ref 1), some (.int p), some (.int q), none] [] (amSH L) I J R _
  by_cases hp : inP σ.1 p
  · rw [if_pos hp]
    obtain ⟨k, hk, rfl, ek⟩ := hp.of h8
    have hok := hO.1.2 k hk
    have ha : amPO (amSH L) R (2 + 2 + 2 * k) := (show SH 2 from Or.inl rfl).pm hR k (by omega)
    have hP := hS.2 k hk
    rw [ek]
    refine LA0 e115_0 ?_
    refine Gr e115_1 (o1 L) (hR 1 0 2 rfl) f704 ?_
    refine LI1 e115_4 ?_
    refine Cv1 e115_5 c115_55 (o2 L) (Nat.le_of_ble_eq_true rfl) (Nat.le_of_ble_eq_true rfl) ((s_pick (s := 2) (Or.inl rfl) hR hS.1 h8 hk)) ?_
    refine SA3 e115_8 rfl ?_
    refine LA3 e115_9 ?_
    refine N_nonnull e115_10 t115_10 ?_
    refine LI2 e115_15 ?_
    by_cases q0 : q = 0
    · subst q0
      rw [if_pos rfl]
      refine Tin e115_16 0 rfl (by decide) rfl (show amTg 16 28 = some 44 from by decide) ?_
      refine LA3 e115_44 ?_
      refine Cv0 e115_45 c115_5 ha.1 (Nat.le_of_ble_eq_true rfl) (Nat.le_of_ble_eq_true rfl) ((p_degree ha hP hok.b)) ?_
      exact Ri e115_48 rt115 (CP.rf h)
    by_cases q1 : q = 1
    · subst q1
      rw [if_neg (by decide), if_pos rfl]
      refine Tin e115_16 1 rfl (by decide) rfl (show amTg 16 33 = some 49 from by decide) ?_
      refine LA3 e115_49 ?_
      refine Cv0 e115_50 c115_11 ha.1 (Nat.le_of_ble_eq_true rfl) (Nat.le_of_ble_eq_true rfl) ((p_turns ha hP)) ?_
      exact Ri e115_53 rt115 (CP.rf h)
    by_cases q2 : q = 2
    · subst q2
      rw [if_neg (by decide), if_neg (by decide), if_pos rfl]
      refine Tin e115_16 2 rfl (by decide) rfl (show amTg 16 38 = some 54 from by decide) ?_
      refine LA0 e115_54 ?_
      refine Gr e115_55 (o1 L) (hR 1 0 2 rfl) f704 ?_
      refine LA3 e115_58 ?_
      refine Cv1 e115_59 c115_58 (o2 L) (Nat.le_of_ble_eq_true rfl) (Nat.le_of_ble_eq_true rfl) ((s_like (s := 2) (Or.inl rfl) hR hS.1 h8 ha)) ?_
      exact Ri e115_62 rt115 (by
      rw [hml_al hS.2 hO.1.2 hP hok _ (Nat.le_refl _)]
      exact CP.rf h)
    rw [if_neg q0, if_neg q1, if_neg q2]
    refine Tout e115_16 (show amTg 16 47 = some 63 from by decide) ?_ ?_
    · simp only [← Int32.toInt_inj, show (0 : Int32).toInt = 0 from rfl, show (1 : Int32).toInt = 1 from rfl, show (2 : Int32).toInt = 2 from rfl] at q0 q1 q2
      omega
    refine Ki e115_63 kiconst_m1 ?_
    exact Ri e115_64 rt115 (CP.rf h)
    
  · rw [if_neg hp]
    refine LA0 e115_0 ?_
    refine Gr e115_1 (o1 L) (hR 1 0 2 rfl) f704 ?_
    refine LI1 e115_4 ?_
    refine Cv1 e115_5 c115_55 (o2 L) (Nat.le_of_ble_eq_true rfl) (Nat.le_of_ble_eq_true rfl) ((s_pickno (s := 2) (Or.inl rfl) hR hS.1 h8 hp)) ?_
    refine SN3 e115_8 rfl ?_
    refine LN3 e115_9 ?_
    refine Z_nonnull e115_10 t115_10 ?_
    refine Ki e115_13 kiconst_m1 ?_
    exact Ri e115_14 rt115 (CP.rf h)
set_option maxHeartbeats 2000000 in
theorem k_value {p u v : Int32} (h : CSt I J R σ) : Cl 116 [.ref 1, .int p, .int u, .int v] (amSH L) I J R (CP I J R σ (.long (sValue σ.1 p u v))) := by
  obtain ⟨hR, ⟨x, y, hC⟩, hS, hK, hT, hW, hZ, hO⟩ := id h
  have h8 := hO.1.1
  unfold sValue
  show Ex 116 0 [some (.ref 1), some (.int p), some (.int u), some (.int v), none] [] (amSH L) I J R _
  by_cases hp : inP σ.1 p
  · rw [if_pos hp]
    obtain ⟨k, hk, rfl, ek⟩ := hp.of h8
    have hok := hO.1.2 k hk
    have ha : amPO (amSH L) R (2 + 2 + 2 * k) := (show SH 2 from Or.inl rfl).pm hR k (by omega)
    have hP := hS.2 k hk
    rw [ek]
    refine LA0 e116_0 ?_
    refine Gr e116_1 (o1 L) (hR 1 0 2 rfl) f704 ?_
    refine LI1 e116_4 ?_
    refine Cv1 e116_5 c116_55 (o2 L) (Nat.le_of_ble_eq_true rfl) (Nat.le_of_ble_eq_true rfl) ((s_pick (s := 2) (Or.inl rfl) hR hS.1 h8 hk)) ?_
    refine SA4 e116_8 rfl ?_
    refine LA4 e116_10 ?_
    refine N_null e116_12 t116_12 ?_
    refine LI2 e116_15 ?_
    refine LI3 e116_16 ?_
    refine Cs2 e116_17 c116_146 (Nat.le_of_ble_eq_true rfl) (Nat.le_of_ble_eq_true rfl) (g_badPoint) ?_
    refine B_eq e116_20 t116_20 (fun h20 => ?_) (fun h20 => ?_)
    · have g : isPt u v := Decidable.not_not.mp (bI_z h20)
      refine LA4 e116_27 ?_
      refine LI2 e116_29 ?_
      refine I2l e116_30 ?_
      rw [i64_of u]
      refine LI3 e116_31 ?_
      refine I2l e116_32 ?_
      rw [i64_of v]
      refine Cv2 e116_33 c116_20 ha.1 (Nat.le_of_ble_eq_true rfl) (Nat.le_of_ble_eq_true rfl) ((p_worth ha hP hok.b hok.2.2 g.2.1 g.2.2)) ?_
      exact Rj e116_36 rt116 (by
      rw [if_pos g]
      exact CP.rf h)
    · refine Kd e116_23 kj4 ?_
      exact Rj e116_26 rt116 (by
      rw [if_neg (bI_t h20)]
      exact CP.rf h)
  · rw [if_neg hp]
    refine LA0 e116_0 ?_
    refine Gr e116_1 (o1 L) (hR 1 0 2 rfl) f704 ?_
    refine LI1 e116_4 ?_
    refine Cv1 e116_5 c116_55 (o2 L) (Nat.le_of_ble_eq_true rfl) (Nat.le_of_ble_eq_true rfl) ((s_pickno (s := 2) (Or.inl rfl) hR hS.1 h8 hp)) ?_
    refine SN4 e116_8 rfl ?_
    refine LN4 e116_10 ?_
    refine Z_null e116_12 t116_12 ?_
    refine Kd e116_23 kj4 ?_
    exact Rj e116_26 rt116 (CP.rf h)
theorem gd_take {ps : List Po} {n k : Nat} (h : k < n) (hn : n ≤ ps.length) : (ps.take n).getD k zP = ps.getD k zP := by
  rw [List.getD_eq_getElem?_getD, List.getD_eq_getElem?_getD, List.getElem?_take_of_lt h]
set_option maxHeartbeats 2000000 in
theorem k_drop (h : CSt I J R σ) : Cl 113 [.ref 1] (amSH L) I J R (CP I J R (sDrop σ).2 (.int (sDrop σ).1)) := by
  obtain ⟨hR, ⟨x, y, hC⟩, hS, hK, hT, hW, hZ, hO⟩ := id h
  have h8 := hO.1.1
  unfold sDrop
  show Ex 113 0 [some (.ref 1)] [] (amSH L) I J R _
  refine LA0 e113_0 ?_
  refine Gr e113_1 (o1 L) (hR 1 0 2 rfl) f704 ?_
  refine Cv0 e113_4 c113_53 (o2 L) (Nat.le_of_ble_eq_true rfl) (Nat.le_of_ble_eq_true rfl) ((s_size (s := 2) (Or.inl rfl) hS.1)) ?_
  refine B_ne e113_7 t113_7 (fun h7 => ?_) (fun h7 => ?_)
  · have g : ¬ σ.1.length = 0 := fun z => h7 (by rw [z]; rfl)
    refine LA0 e113_13 ?_
    refine Gr e113_14 (o1 L) (hR 1 0 2 rfl) f704 ?_
    refine LA0 e113_17 ?_
    refine Gr e113_18 (o1 L) (hR 1 0 2 rfl) f704 ?_
    refine Cv0 e113_21 c113_53 (o2 L) (Nat.le_of_ble_eq_true rfl) (Nat.le_of_ble_eq_true rfl) ((s_size (s := 2) (Or.inl rfl) hS.1)) ?_
    refine Ki e113_24 kiconst_1 ?_
    refine IsubN (a := σ.1.length) (b := 1) e113_25 rfl (by decide) (by omega) ?_
    refine Cv1p e113_26 c113_57 (o2 L) (Nat.le_of_ble_eq_true rfl) (Nat.le_of_ble_eq_true rfl) (s_shorten (s := 2) (k := σ.1.length - 1) (Or.inl rfl) hR hS.1 h8 (by omega)) ?_
    rintro _ I1 J1 R1 ⟨rfl, hI1, hJ1, hR1⟩
    subst hI1
    subst hJ1
    subst hR1
    refine LA0 e113_29 ?_
    refine Gr e113_30 (o1 L) (hR 1 0 2 rfl) f704 ?_
    refine Cv0 e113_33 c113_53 (o2 L) (Nat.le_of_ble_eq_true rfl) (Nat.le_of_ble_eq_true rfl) ((s_size (s := 2) (Or.inl rfl) amU_same)) ?_
    exact Ri e113_36 rt113 (by
    rw [if_neg g]
    have hl : (σ.1.take (σ.1.length - 1)).length = σ.1.length - 1 := by rw [List.length_take]; omega
    refine ⟨rfl, ⟨hR, ⟨x, y, hC⟩, ⟨by rw [amU_same]; show _ = nI (σ.1.take (σ.1.length - 1)).length; rw [hl], fun k hk => ?_⟩, ?_, hT.cg (by funext i; rw [amU_ne (by decide)]) (by funext i; rw [amU_ne (by decide)]), hW.cg (by funext i; rw [amU_ne (by decide)]) (by funext i; rw [amU_ne (by decide)]), hZ.cg (by funext i; rw [amU_ne (by decide)]) (by funext i; rw [amU_ne (by decide)]), ⟨⟨by show (σ.1.take (σ.1.length - 1)).length ≤ 8; omega, fun k hk => ?_⟩, hO.2⟩⟩, fun y hy => by funext i; rw [amU_ne (by omega)], fun _ _ => rfl, RC.rf⟩
    · have hk2 : k < (σ.1.take (σ.1.length - 1)).length := hk
      show JP _ _ ((σ.1.take (σ.1.length - 1)).getD k zP)
      rw [gd_take (by omega) (by omega)]
      exact hS.2 k (by omega)
    · exact hK.cg (by funext i; rw [amU_ne (by decide)]) (by funext i; rw [amU_ne (by decide)]) (fun _ _ => Or.inl rfl)
    · have hk2 : k < (σ.1.take (σ.1.length - 1)).length := hk
      show Pok ((σ.1.take (σ.1.length - 1)).getD k zP)
      rw [gd_take (by omega) (by omega)]
      exact hO.1.2 k (by omega))
  · refine Ki e113_10 kbipush_m6 ?_
    exact Ri e113_12 rt113 (by
    have g : σ.1.length = 0 := by
      have q := Decidable.not_not.mp h7
      have q2 := congrArg Int32.toInt q
      rw [nI_toInt (by omega), show (0 : Int32).toInt = 0 from rfl] at q2
      omega
    rw [if_pos g]
    exact CP.rf h)
set_option maxHeartbeats 2000000 in
theorem k_feed {v : Int32} (h : CSt I J R σ) : Cl 129 [.ref 1, .int v] (amSH L) I J R (CP I J R (sFeed σ v).2 (.int (sFeed σ v).1)) := by
  obtain ⟨hR, ⟨x, y, hC⟩, hS, hK, hT, hW, hZ, hO⟩ := id h
  have h8 := hO.1.1
  unfold sFeed
  show Ex 129 0 [some (.ref 1), some (.int v)] [] (amSH L) I J R _
  by_cases g : 1 ≤ v.toInt ∧ v.toInt ≤ 127
  · rw [if_pos g]
    by_cases g2 : σ.2.2.2.1 = 120
    · rw [if_pos g2]
      have hT1 : I 143 1 = nI 120 := by rw [← g2]; exact hT.1
      refine LI1 e129_0 ?_
      refine Ki e129_1 kiconst_1 ?_
      refine C_lt e129_2 t129_2 (fun q => absurd q (fun z => by simp only [i32lt, show (1 : Int32).toInt = 1 from rfl] at z; omega)) (fun _ => ?_)
      refine LI1 e129_5 ?_
      refine Ki e129_6 kbipush_127 ?_
      refine C_le e129_8 t129_8 (fun _ => ?_) (fun q => absurd (by simp only [i32le, show (127 : Int32).toInt = 127 from rfl]; omega) q)
      refine LA0 e129_13 ?_
      refine Gr e129_14 (o1 L) (hR 1 13 143 rfl) f717 ?_
      refine LI1 e129_17 ?_
      refine Cv1 e129_18 c129_81 (o143 L) (Nat.le_of_ble_eq_true rfl) (Nat.le_of_ble_eq_true rfl) ((t_full hT1)) ?_
      refine B_eq e129_21 t129_21 (fun _ => ?_) (fun q => absurd (rfl) q)
      refine Ki e129_34 kbipush_m3 ?_
      exact Ri e129_36 rt129 (CP.rf h)
    · rw [if_neg g2]
      have hn := hT.2.1
      have ev : v.toInt8.toInt32.toInt8.toInt32 = v := by
        have e : v = nI v.toInt.toNat := by rw [← Int32.toInt_inj, nI_toInt (by omega)]; omega
        rw [e, byt7 _ (by omega), byt7 _ (by omega)]
      refine LI1 e129_0 ?_
      refine Ki e129_1 kiconst_1 ?_
      refine C_lt e129_2 t129_2 (fun q => absurd q (fun z => by simp only [i32lt, show (1 : Int32).toInt = 1 from rfl] at z; omega)) (fun _ => ?_)
      refine LI1 e129_5 ?_
      refine Ki e129_6 kbipush_127 ?_
      refine C_le e129_8 t129_8 (fun _ => ?_) (fun q => absurd (by simp only [i32le, show (127 : Int32).toInt = 127 from rfl]; omega) q)
      refine LA0 e129_13 ?_
      refine Gr e129_14 (o1 L) (hR 1 13 143 rfl) f717 ?_
      refine LI1 e129_17 ?_
      refine Cv1p e129_18 c129_81 (o143 L) (Nat.le_of_ble_eq_true rfl) (Nat.le_of_ble_eq_true rfl) (t_take hR hT.1 (by omega)) ?_
      rintro _ I1 J1 R1 ⟨rfl, hI1, hJ1, hR1⟩
      rw [ev] at hI1
      subst hJ1
      subst hR1
      have hT1 : TT I1 (fun k => if k = σ.2.2.2.1 then v else σ.2.2.1 k) (σ.2.2.2.1 + 1) := by
        rw [hI1]
        refine ⟨amU_same, by omega, fun k hk => ?_, fun k hk => ?_⟩ <;> dsimp only
        · rw [amU_ne (by decide)]
          by_cases e : k = σ.2.2.2.1
          · rw [if_pos e, e, amU_same]
          · rw [if_neg e, amU_ni e]
            exact hT.2.2.1 k (by omega)
        · rw [if_neg (by omega)]
          exact hT.2.2.2 k (by omega)
      have hf : ∀ y, y ≠ 143 → y ≠ 144 → I1 y = I y := fun y a b => by rw [hI1]; funext i; rw [amU_ne a, amU_ne b]
      refine B_eq e129_21 t129_21 (fun q => absurd q (by decide)) (fun _ => ?_)
      refine LA0 e129_24 ?_
      refine Gr e129_25 (o1 L) (hR 1 13 143 rfl) f717 ?_
      refine Cv0 e129_28 c129_80 (o143 L) (Nat.le_of_ble_eq_true rfl) (Nat.le_of_ble_eq_true rfl) ((t_length hT1.1)) ?_
      refine Go e129_31 t129_31 ?_
      exact Ri e129_36 rt129 (⟨rfl, ⟨hR, ⟨x, y, hC⟩, hS.cg (hf 2 (by decide) (by decide)) (fun _ _ => rfl), hK.cg (hf 1 (by decide) (by decide)) (hf 20 (by decide) (by decide)) (fun _ _ => Or.inl rfl), hT1, hW.cg (hf 147 (by decide) (by decide)) (hf 148 (by decide) (by decide)), hZ.cg (hf 150 (by decide) (by decide)) (hf 151 (by decide) (by decide)), ⟨hO.1, hO.2.1, by show σ.2.2.2.1 + 1 ≤ 120; omega, hO.2.2.2⟩⟩, fun y hy => hf y (by omega) (by omega), fun _ _ => rfl, RC.rf⟩)
  · rw [if_neg g]
    refine LI1 e129_0 ?_
    refine Ki e129_1 kiconst_1 ?_
    refine C_lt e129_2 t129_2 (fun hh2 => ?_) (fun hh2 => ?_)
    · refine Ki e129_11 kiconst_m1 ?_
      exact Ri e129_12 rt129 (CP.rf h)
    · refine LI1 e129_5 ?_
      refine Ki e129_6 kbipush_127 ?_
      refine C_le e129_8 t129_8 (fun hh8 => ?_) (fun hh8 => ?_)
      · exact (g ⟨by simp only [i32lt, show (1 : Int32).toInt = 1 from rfl] at hh2; omega, by simp only [i32le, show (127 : Int32).toInt = 127 from rfl] at hh8; omega⟩).elim
      · refine Ki e129_11 kiconst_m1 ?_
        exact Ri e129_12 rt129 (CP.rf h)
set_option maxHeartbeats 2000000 in
theorem k_prints {p : Int32} (h : CSt I J R σ) : Cl 131 [.ref 1, .int p] (amSH L) I J R (CP I J R (sPrints σ p).2 (.int (sPrints σ p).1)) := by
  obtain ⟨hR, ⟨x, y, hC⟩, hS, hK, hT, hW, hZ, hO⟩ := id h
  have h8 := hO.1.1
  unfold sPrints
  show Ex 131 0 [some (.ref 1), some (.int p), none] [] (amSH L) I J R _
  by_cases hp : inP σ.1 p
  · rw [if_pos hp]
    obtain ⟨k, hk, rfl, ek⟩ := hp.of h8
    have hok := hO.1.2 k hk
    have ha : amPO (amSH L) R (2 + 2 + 2 * k) := (show SH 2 from Or.inl rfl).pm hR k (by omega)
    have hP := hS.2 k hk
    rw [ek]
    have hwl := wrP_le (p := σ.1.getD k zP) 5 []
    rw [List.length_nil] at hwl
    refine LA0 e131_0 ?_
    refine Gr e131_1 (o1 L) (hR 1 0 2 rfl) f704 ?_
    refine LI1 e131_4 ?_
    refine Cv1 e131_5 c131_55 (o2 L) (Nat.le_of_ble_eq_true rfl) (Nat.le_of_ble_eq_true rfl) ((s_pick (s := 2) (Or.inl rfl) hR hS.1 h8 hk)) ?_
    refine SA2 e131_8 rfl ?_
    refine LA2 e131_9 ?_
    refine N_nonnull e131_10 t131_10 ?_
    refine LA0 e131_15 ?_
    refine Gr e131_16 (o1 L) (hR 1 14 147 rfl) f718 ?_
    refine LA2 e131_19 ?_
    refine Cv1p e131_20 c131_100 (o147 L) (Nat.le_of_ble_eq_true rfl) (Nat.le_of_ble_eq_true rfl) (r_write hR ha hP hok.1) ?_
    rintro _ I1 J1 R1 ⟨rfl, hP1, hF1, hJ1, hR1⟩
    subst hJ1
    subst hR1
    refine LA0 e131_23 ?_
    refine Gr e131_24 (o1 L) (hR 1 14 147 rfl) f718 ?_
    refine Cv0 e131_27 c131_98 (o147 L) (Nat.le_of_ble_eq_true rfl) (Nat.le_of_ble_eq_true rfl) ((r_length hP1.1)) ?_
    exact Ri e131_30 rt131 (⟨rfl, ⟨hR, ⟨x, y, hC⟩, hS.cg (hF1 2 (by decide) (by decide)) (fun _ _ => rfl), hK.cg (hF1 1 (by decide) (by decide)) (hF1 20 (by decide) (by decide)) (fun _ _ => Or.inl rfl), hT.cg (hF1 143 (by decide) (by decide)) (hF1 144 (by decide) (by decide)), hP1, hZ.cg (hF1 150 (by decide) (by decide)) (hF1 151 (by decide) (by decide)), ⟨hO.1, hO.2.1, hO.2.2.1, by show (wrP (σ.1.getD k zP) 5 []).length ≤ 35; omega, hO.2.2.2.2⟩⟩, fun y hy => hF1 y (by omega) (by omega), fun _ _ => rfl, RC.rf⟩)
  · rw [if_neg hp]
    refine LA0 e131_0 ?_
    refine Gr e131_1 (o1 L) (hR 1 0 2 rfl) f704 ?_
    refine LI1 e131_4 ?_
    refine Cv1 e131_5 c131_55 (o2 L) (Nat.le_of_ble_eq_true rfl) (Nat.le_of_ble_eq_true rfl) ((s_pickno (s := 2) (Or.inl rfl) hR hS.1 h8 hp)) ?_
    refine SN2 e131_8 rfl ?_
    refine LN2 e131_9 ?_
    refine Z_nonnull e131_10 t131_10 ?_
    refine Ki e131_13 kiconst_m1 ?_
    exact Ri e131_14 rt131 (CP.rf h)
set_option maxHeartbeats 2000000 in
theorem k_paper {i : Int32} (h : CSt I J R σ) : Cl 132 [.ref 1, .int i] (amSH L) I J R (CP I J R σ (.int (sPaper σ.2.2.2.2.1 i))) := by
  obtain ⟨hR, ⟨x, y, hC⟩, hS, hK, hT, hW, hZ, hO⟩ := id h
  have h8 := hO.1.1
  have hwl : σ.2.2.2.2.1.length ≤ 35 := hO.2.2.2.1
  unfold sPaper
  show Ex 132 0 [some (.ref 1), some (.int i)] [] (amSH L) I J R _
  refine LI1 e132_0 ?_
  refine B_ge e132_1 t132_1 (fun hh1 => ?_) (fun hh1 => ?_)
  · refine LI1 e132_6 ?_
    refine LA0 e132_7 ?_
    refine Gr e132_8 (o1 L) (hR 1 14 147 rfl) f718 ?_
    refine Cv0 e132_11 c132_98 (o147 L) (Nat.le_of_ble_eq_true rfl) (Nat.le_of_ble_eq_true rfl) ((r_length hW.1)) ?_
    refine C_ge e132_14 t132_14 (fun hh14 => ?_) (fun hh14 => ?_)
    · refine Ki e132_28 kbipush_m2 ?_
      exact Ri e132_30 rt132 (by
      simp only [i32le, nI_toInt (show σ.2.2.2.2.1.length < 2 ^ 31 by omega), show (0 : Int32).toInt = 0 from rfl] at hh1 hh14
      rw [if_neg (by omega), if_neg (by omega)]
      exact CP.rf h)
    · refine LA0 e132_17 ?_
      refine Gr e132_18 (o1 L) (hR 1 14 147 rfl) f718 ?_
      refine LI1 e132_21 ?_
      refine Cv1 e132_22 c132_99 (o147 L) (Nat.le_of_ble_eq_true rfl) (Nat.le_of_ble_eq_true rfl) ((r_at hR hW.1 (by omega))) ?_
      refine Go e132_25 t132_25 ?_
      exact Ri e132_30 rt132 (by
      simp only [i32le, nI_toInt (show σ.2.2.2.2.1.length < 2 ^ 31 by omega), show (0 : Int32).toInt = 0 from rfl] at hh1 hh14
      rw [if_neg (by omega), if_pos (by omega)]
      have e : byt I 148 σ.2.2.2.2.1.length i = σ.2.2.2.2.1.getD i.toInt.toNat 0 := by
        unfold byt
        rw [if_pos ⟨by omega, by omega⟩]
        exact hW.2 _ (by omega)
      rw [e]
      exact CP.rf h)
  · refine Ki e132_4 kiconst_m1 ?_
    exact Ri e132_5 rt132 (by
    simp only [i32le, show (0 : Int32).toInt = 0 from rfl] at hh1
    rw [if_pos (by omega)]
    exact CP.rf h)
end CALLS1
