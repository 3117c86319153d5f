/-! the reference: judge (printed by wip/whole/t83.py) -/
section REF18
variable {L : Nat} {I : amI} {J : amJ} {R : amR} {Q : amQ} {a B t : Nat} {q : Po} {ps l : List Po} {σ : PS}
set_option maxHeartbeats 2000000 in
theorem m_jd_lp {p : Int32} {s n m : Nat} {c : Nat → Int32} (hR : amRok R) (hM : MI I J 0 l) (hs : s < 4) (hm : m ≤ 24) (hn : n < 2147483648) (hz : I 201 s = nI m) (hc : ∀ i, i < m → I 202 (s * 24 + i) = c i) : ∀ (f t : Nat) (l6 l7 : Option Value), t + f = 10 → Q (some (.int (jdN l c m (n : Int) f t))) I J R → Ex 237 63 [some (.ref 152), some (.int p), some (.int (nI s)), some (.int (nI n)), some (.int (nI (tB l) - nI (tU l))), some (.int (nI t)), l6, l7] [] (amSH L) I J R Q := by
  have q1 := tB_le l
  have q2 := tU_5 hM.2.1
  have q3 := hM.2.2.1
  have q4 := nI_sub_t (tB l) (by omega) (tU l) (by omega)
  have n4 : ∀ t, t ≤ 20 → (nI t).toInt = t := fun t ht => nI_toInt (by omega)
  intro f
  induction f with
  | zero =>
    intro t l6 l7 ht hQ
    have ht2 := n4 t (by omega)
    rw [jdN] at hQ
    refine LI5 e237_63 ?_
    refine LI4 e237_65 ?_
    refine C_ge e237_67 t237_67 (fun _ => ?_) (fun q => absurd (by rw [i32le, q4, ht2]; omega) q)
    refine Ki e237_131 kbipush_m5 ?_
    exact Ri e237_133 rt237 (hQ)
  | succ f ih =>
    intro t l6 l7 ht hQ
    have ht2 := n4 t (by omega)
    rw [jdN] at hQ
    by_cases gD : nI t < nI (tB l) - nI (tU l)
    · rw [if_pos gD] at hQ
      by_cases g4 : (m : Int) - 4 * (t : Int) - 4 < (n : Int)
      · rw [if_pos g4] at hQ
        refine LI5 e237_63 ?_
        refine LI4 e237_65 ?_
        refine C_ge e237_67 t237_67 (fun q => absurd q (fun z => by rw [i32le] at z; rw [i32lt] at gD; omega)) (fun _ => ?_)
        refine LI3 e237_70 ?_
        refine I2l e237_71 ?_
        rw [nI_oI (n := n) (by omega)]
        refine Kd e237_72 kj7 ?_
        refine LI5 e237_75 ?_
        refine I2l e237_77 ?_
        rw [nI_oI (n := t) (by omega)]
        refine Lmul e237_78 ?_
        refine Ladd e237_79 ?_
        rw [show (4 : Int64) * oI ((t : Nat) : Int) = oI ((4 * t : Nat) : Int) from by rw [show (4 : Int64) = oI 4 from rfl, oI_mul]; rfl, show oI ((n : Nat) : Int) + oI ((4 * t : Nat) : Int) = oI ((n + 4 * t : Nat) : Int) from oI_add _ _]
        refine SJ6 e237_80 rfl ?_
        refine LJ6 e237_82 ?_
        refine Kd e237_84 kj7 ?_
        refine Ladd e237_87 ?_
        rw [show oI ((n + 4 * t : Nat) : Int) + 4 = oI ((n + 4 * t + 4 : Nat) : Int) from by rw [show (4 : Int64) = oI 4 from rfl, oI_add]; rfl]
        refine LA0 e237_88 ?_
        refine Gr e237_89 (o152 L) (hR 152 47 201 rfl) f815 ?_
        refine LI2 e237_92 ?_
        refine AiN (k := s) e237_93 (o201 L) rfl (by omega) (by decide) ?_
        rw [hz]
        refine I2l e237_94 ?_
        rw [nI_oI (n := m) (by omega)]
        refine D_le e237_95 e237_96 t237_96 (fun q => absurd q (fun z => by rw [oI_le ⟨by omega, by omega⟩ ⟨by omega, by omega⟩] at z; omega)) (fun _ => ?_)
        refine Ki e237_99 kbipush_100 ?_
        refine LI5 e237_101 ?_
        refine IaddN (a := 100) (b := t) e237_103 (by decide) rfl ?_
        exact Ri e237_104 rt237 (hQ)
      · rw [if_neg g4, Int.toNat_natCast] at hQ
        have hle : n + 4 * t + 4 ≤ m := by omega
        have hx : ∀ i, i < 4 → I 202 (24 * s + (n + 4 * t) + i) = c (n + 4 * t + i) := fun i hi => by
          rw [show 24 * s + (n + 4 * t) + i = s * 24 + (n + 4 * t + i) from by omega]
          exact hc _ (by omega)
        have hd : ∀ b, bI (decide (tlK l c (n + 4 * t) t)) = b → b = 0 ∨ b = 1 := fun b e => e ▸ bI_01 _
        refine LI5 e237_63 ?_
        refine LI4 e237_65 ?_
        refine C_ge e237_67 t237_67 (fun q => absurd q (fun z => by rw [i32le] at z; rw [i32lt] at gD; omega)) (fun _ => ?_)
        refine LI3 e237_70 ?_
        refine I2l e237_71 ?_
        rw [nI_oI (n := n) (by omega)]
        refine Kd e237_72 kj7 ?_
        refine LI5 e237_75 ?_
        refine I2l e237_77 ?_
        rw [nI_oI (n := t) (by omega)]
        refine Lmul e237_78 ?_
        refine Ladd e237_79 ?_
        rw [show (4 : Int64) * oI ((t : Nat) : Int) = oI ((4 * t : Nat) : Int) from by rw [show (4 : Int64) = oI 4 from rfl, oI_mul]; rfl, show oI ((n : Nat) : Int) + oI ((4 * t : Nat) : Int) = oI ((n + 4 * t : Nat) : Int) from oI_add _ _]
        refine SJ6 e237_80 rfl ?_
        refine LJ6 e237_82 ?_
        refine Kd e237_84 kj7 ?_
        refine Ladd e237_87 ?_
        rw [show oI ((n + 4 * t : Nat) : Int) + 4 = oI ((n + 4 * t + 4 : Nat) : Int) from by rw [show (4 : Int64) = oI 4 from rfl, oI_add]; rfl]
        refine LA0 e237_88 ?_
        refine Gr e237_89 (o152 L) (hR 152 47 201 rfl) f815 ?_
        refine LI2 e237_92 ?_
        refine AiN (k := s) e237_93 (o201 L) rfl (by omega) (by decide) ?_
        rw [hz]
        refine I2l e237_94 ?_
        rw [nI_oI (n := m) (by omega)]
        refine D_le e237_95 e237_96 t237_96 (fun _ => ?_) (fun q => absurd (by rw [oI_le ⟨by omega, by omega⟩ ⟨by omega, by omega⟩]; omega) q)
        refine LA0 e237_105 ?_
        refine Ki e237_106 kbipush_24 ?_
        refine LI2 e237_108 ?_
        refine ImulN (a := 24) (b := s) e237_109 (by decide) rfl ?_
        refine LJ6 e237_110 ?_
        refine L2i e237_112 ?_
        rw [oI_i32, ← nI_iI]
        refine IaddN (a := (24 * s)) (b := (n + 4 * t)) e237_113 rfl rfl ?_
        refine LI5 e237_114 ?_
        refine Cv2 e237_116 c237_236 (o152 L) (Nat.le_of_ble_eq_true rfl) (Nat.le_of_ble_eq_true rfl) ((m_isTold (x := 24 * s + (n + 4 * t)) (b := n + 4 * t) (t := t) (c := c) hR hM (by omega) (by omega) (hx 0 (by omega)) (hx 1 (by omega)) (hx 2 (by omega)) (hx 3 (by omega)))) ?_
        refine B_ne e237_119 t237_119 (fun h119 => ?_) (fun h119 => ?_)
        · refine IncN5 (m := t) e237_125 rfl ?_
          refine Go e237_128 t237_128 ?_
          rw [if_pos (by first | exact bI_t h119 | exact bI_t (not_not_intro h119))] at hQ
          exact ih (t + 1) _ _ (by omega) hQ
        · refine LI5 e237_122 ?_
          exact Ri e237_124 rt237 (by
          rw [if_neg (by first | exact bI_f h119 | exact bI_z h119)] at hQ
          exact hQ)
    · rw [if_neg gD] at hQ
      refine LI5 e237_63 ?_
      refine LI4 e237_65 ?_
      refine C_ge e237_67 t237_67 (fun _ => ?_) (fun q => absurd (by rw [i32le]; rw [i32lt] at gD; omega) q)
      refine Ki e237_131 kbipush_m5 ?_
      exact Ri e237_133 rt237 (hQ)
set_option maxHeartbeats 2000000 in
theorem n_judge {p q i : Int32} (h : MSt I J R σ) : Cl 237 [.ref 152, .int p, .int q, .int i] (amSH L) I J R (MP I J R σ (.int (sJudge σ p q i))) := by
  obtain ⟨hR, hPl, h3, h4, h5, h6, h7⟩ := id h
  have h3 : M3 I σ.2.1 := h3
  have h4 : M4 I σ.2.2.1 σ.2.2.2.1 := h4
  have h5 : M5 I σ.2.2.2.2.1 := h5
  have h6 : M6 I σ.2.2.2.2.2.1 σ.2.2.2.2.2.2 := h6
  have h8 := h7.1.1
  have hn120 := h7.2.2.1
  have hw35 := h7.2.2.2.1
  have hk0 : MK I (amU I 152 9 0) J J := ⟨fun y i a b c => by unfold amU; rw [if_neg (by omega)], fun _ _ => rfl⟩
  have h0 : MSt (amU I 152 9 0) J R σ := h.k hk0
  unfold sJudge
  show Ex 237 0 [some (.ref 152), some (.int p), some (.int q), some (.int i), none, none, none, none] [] (amSH L) I J R _
  by_cases hp : inP σ.1 p
  · rw [if_pos hp]
    obtain ⟨k, hk, rfl, ek⟩ := hp.of h8
    have ei : bI (decide (inP σ.1 (nI k))) = 1 := by rw [decide_eq_true hp]; rfl
    rw [ek]
    by_cases g : inL q
    · by_cases g0 : 0 ≤ i.toInt
      · rw [if_pos ⟨g, g0⟩]
        have g0p : (0 : Int32) ≤ i := by rw [i32le, show (0 : Int32).toInt = 0 from rfl]; exact g0
        obtain ⟨s, hs, rfl⟩ : ∃ s : Nat, s < 4 ∧ q = nI s := ⟨q.toInt.toNat, by omega, by rw [← Int32.toInt_inj, nI_toInt (by omega)]; omega⟩
        have es : (nI s).toInt.toNat = s := by rw [nI_toInt (by omega)]; omega
        rw [es]
        rcases h6 s hs with ⟨e1, e2⟩ | ⟨m, e1, e2, e3⟩
        · rw [e1]
          dsimp only
          refine LA0 e237_0 ?_
          refine LI1 e237_1 ?_
          refine Cv1 e237_2 c237_157 (o152 L) (Nat.le_of_ble_eq_true rfl) (Nat.le_of_ble_eq_true rfl) ((m_isPoly h8 hPl.1)) ?_
          rw [ei]
          refine B_eq e237_5 t237_5 (fun q => absurd q (by decide)) (fun _ => ?_)
          refine LI2 e237_8 ?_
          refine Cs1 e237_9 c237_240 (Nat.le_of_ble_eq_true rfl) (Nat.le_of_ble_eq_true rfl) (m_isList) ?_
          rw [decide_eq_true g]
          rw [show bI true = 1 from rfl]
          refine B_eq e237_12 t237_12 (fun q => absurd q (by decide)) (fun _ => ?_)
          refine LI3 e237_15 ?_
          refine B_ge e237_16 t237_16 (fun _ => ?_) (fun q => absurd (g0p) q)
          refine LA0 e237_21 ?_
          refine Gr e237_22 (o152 L) (hR 152 47 201 rfl) f815 ?_
          refine LI2 e237_25 ?_
          refine AiN (k := s) e237_26 (o201 L) rfl (by omega) (by decide) ?_
          rw [e2]
          refine B_ge e237_27 t237_27 (fun q => absurd q (by decide)) (fun _ => ?_)
          refine Ki e237_30 kbipush_m11 ?_
          exact Ri e237_32 rt237 (MP.rf h)
        · rw [e1]
          dsimp only
          have hm24 := h7.2.2.2.2 s m e1
          have hm0 : (0 : Int32) ≤ nI m := by rw [i32le, nI_toInt (by omega), show (0 : Int32).toInt = 0 from rfl]; omega
          obtain ⟨n, hn0, rfl⟩ : ∃ n : Nat, (n : Int) = i.toInt ∧ i = nI n := ⟨i.toInt.toNat, by omega, by rw [← Int32.toInt_inj, nI_toInt (by have := Int32.toInt_lt i; omega)]; omega⟩
          have hn9 : n < 2147483648 := by have := Int32.toInt_lt (nI n); omega
          rw [← hn0]
          refine LA0 e237_0 ?_
          refine LI1 e237_1 ?_
          refine Cv1 e237_2 c237_157 (o152 L) (Nat.le_of_ble_eq_true rfl) (Nat.le_of_ble_eq_true rfl) ((m_isPoly h8 hPl.1)) ?_
          rw [ei]
          refine B_eq e237_5 t237_5 (fun q => absurd q (by decide)) (fun _ => ?_)
          refine LI2 e237_8 ?_
          refine Cs1 e237_9 c237_240 (Nat.le_of_ble_eq_true rfl) (Nat.le_of_ble_eq_true rfl) (m_isList) ?_
          rw [decide_eq_true g]
          rw [show bI true = 1 from rfl]
          refine B_eq e237_12 t237_12 (fun q => absurd q (by decide)) (fun _ => ?_)
          refine LI3 e237_15 ?_
          refine B_ge e237_16 t237_16 (fun _ => ?_) (fun q => absurd (g0p) q)
          refine LA0 e237_21 ?_
          refine Gr e237_22 (o152 L) (hR 152 47 201 rfl) f815 ?_
          refine LI2 e237_25 ?_
          refine AiN (k := s) e237_26 (o201 L) rfl (by omega) (by decide) ?_
          rw [e2]
          refine B_ge e237_27 t237_27 (fun _ => ?_) (fun q => absurd (hm0) q)
          refine LA0 e237_33 ?_
          refine Cv0p e237_34 c237_189 (o152 L) (Nat.le_of_ble_eq_true rfl) (Nat.le_of_ble_eq_true rfl) (m_opens) ?_
          rintro _ I1 J1 R1 ⟨rfl, hI1, hJ1, hR1⟩
          subst hI1
          subst hJ1
          subst hR1
          refine LA0 e237_37 ?_
          refine Ki e237_38 kiconst_0 ?_
          refine LI1 e237_39 ?_
          refine Cv2p e237_40 c237_185 (o152 L) (Nat.le_of_ble_eq_true rfl) (Nat.le_of_ble_eq_true rfl) (m_chainOf (p := k) h0 (by decide) hk amU_same) ?_
          rintro _ I2 J2 R2 ⟨rfl, hR2, hk2, hoth2, hD⟩
          subst hR2
          have hkk := hk0.tr hk2
          rcases hD with ⟨l, hll, hf2, hM⟩ | ⟨hll, hf2⟩
          · rw [hll]
            dsimp only
            refine LA0 e237_43 ?_
            refine Gi e237_44 (o152 L) (amGi_of f777 (by decide)) ?_
            rw [hf2]
            refine B_eq e237_47 t237_47 (fun _ => ?_) (fun q => absurd (rfl) q)
            refine LA0 e237_53 ?_
            refine Ki e237_54 kiconst_0 ?_
            refine Cv1 e237_55 c237_188 (o152 L) (Nat.le_of_ble_eq_true rfl) (Nat.le_of_ble_eq_true rfl) ((m_roots hR (by decide) hM)) ?_
            refine SI4 e237_58 rfl ?_
            refine Ki e237_60 kiconst_0 ?_
            refine SI5 e237_61 rfl ?_
            exact m_jd_lp hR hM hs hm24 hn9 ((hkk.1 _ _ (by omega) (by omega) (by omega)).trans e2) (fun i hi => (hkk.1 _ _ (by omega) (by omega) (by omega)).trans (e3 i hi)) 10 0 _ _ (by omega) (MP.k h hkk)
          · rw [hll]
            refine LA0 e237_43 ?_
            refine Gi e237_44 (o152 L) (amGi_of f777 (by decide)) ?_
            rw [hf2]
            refine B_eq e237_47 t237_47 (fun q => absurd q (by decide)) (fun _ => ?_)
            refine Ki e237_50 kbipush_m3 ?_
            exact Ri e237_52 rt237 (MP.k h hkk)
      · rw [if_neg (fun z => g0 z.2)]
        have g0n : ¬ (0 : Int32) ≤ i := fun z => by rw [i32le, show (0 : Int32).toInt = 0 from rfl] at z; exact g0 z
        refine LA0 e237_0 ?_
        refine LI1 e237_1 ?_
        refine Cv1 e237_2 c237_157 (o152 L) (Nat.le_of_ble_eq_true rfl) (Nat.le_of_ble_eq_true rfl) ((m_isPoly h8 hPl.1)) ?_
        rw [ei]
        refine B_eq e237_5 t237_5 (fun q => absurd q (by decide)) (fun _ => ?_)
        refine LI2 e237_8 ?_
        refine Cs1 e237_9 c237_240 (Nat.le_of_ble_eq_true rfl) (Nat.le_of_ble_eq_true rfl) (m_isList) ?_
        rw [decide_eq_true g]
        rw [show bI true = 1 from rfl]
        refine B_eq e237_12 t237_12 (fun q => absurd q (by decide)) (fun _ => ?_)
        refine LI3 e237_15 ?_
        refine B_ge e237_16 t237_16 (fun q => absurd q (g0n)) (fun _ => ?_)
        refine Ki e237_19 kiconst_m1 ?_
        exact Ri e237_20 rt237 (MP.rf h)
    · rw [if_neg (fun z => g z.1)]
      refine LA0 e237_0 ?_
      refine LI1 e237_1 ?_
      refine Cv1 e237_2 c237_157 (o152 L) (Nat.le_of_ble_eq_true rfl) (Nat.le_of_ble_eq_true rfl) ((m_isPoly h8 hPl.1)) ?_
      rw [ei]
      refine B_eq e237_5 t237_5 (fun q => absurd q (by decide)) (fun _ => ?_)
      refine LI2 e237_8 ?_
      refine Cs1 e237_9 c237_240 (Nat.le_of_ble_eq_true rfl) (Nat.le_of_ble_eq_true rfl) (m_isList) ?_
      rw [decide_eq_false g]
      rw [show bI false = 0 from rfl]
      refine B_eq e237_12 t237_12 (fun _ => ?_) (fun q => absurd (rfl) q)
      refine Ki e237_19 kiconst_m1 ?_
      exact Ri e237_20 rt237 (MP.rf h)
  · rw [if_neg hp]
    refine LA0 e237_0 ?_
    refine LI1 e237_1 ?_
    refine Cv1 e237_2 c237_157 (o152 L) (Nat.le_of_ble_eq_true rfl) (Nat.le_of_ble_eq_true rfl) ((m_isPoly h8 hPl.1)) ?_
    rw [show bI (decide (inP σ.1 p)) = 0 from by rw [decide_eq_false hp]; rfl]
    refine B_eq e237_5 t237_5 (fun _ => ?_) (fun q => absurd (rfl) q)
    refine Ki e237_19 kiconst_m1 ?_
    exact Ri e237_20 rt237 (MP.rf h)
end REF18
