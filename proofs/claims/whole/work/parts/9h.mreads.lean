/-! the reference: reads (printed by wip/whole/t9h.py) -/
section REF41
variable {L : Nat} {Ia : amI} {Ja : amJ} {Ra : amR} {Q : amQ} {T : Nat → Int32} {n k b e i s ab t m : Nat} {p q g : Po} {σ τ : PS}
theorem m_goes1 (hR : amRok Ra) (hT : MT Ia T n) (h0 : Ia 152 38 = 0) : Cl 230 [.ref 152, .int 0] (amSH L) Ia Ja Ra (G1P Ia Ja Ra (ckN T n 120 0 1)) := by
  show Ex 230 0 [some (.ref 152), some (.int 0), none, none, none, none] [] (amSH L) Ia Ja Ra _
  refine LA0 e230_0 ?_
  refine Ki e230_1 kiconst_0 ?_
  refine Pi e230_2 (o152 L) f805 ?_
  refine Ki e230_5 kiconst_0 ?_
  refine SI2 e230_6 rfl ?_
  refine Ki e230_7 kiconst_1 ?_
  refine SI3 e230_8 rfl ?_
  exact (m_go1 hR 120 0 0 _ Ja _ _ rfl (Nat.le_refl _) (Nat.zero_le _) (hT.x (FrX.rf.up (by omega))) (by rw [amU_same]; rfl) (by (repeat rw [up_o (by omega)]); first | exact amU_same | exact h0)).mono (fun v Ia' Ja' Ra' hz => hz.tr (FrX.rf.up (by omega)) Fr.rf)
theorem m_goes2 {C : Nat} (hR : amRok Ra) (hz : ∀ k, σ.2.2.2.1 ≤ k → σ.2.2.1 k = 0) (hC : C ≤ 120) (hC0 : 0 < C) (hck : ckN σ.2.2.1 σ.2.2.2.1 120 0 1 = .inr C) (h : MSt Ia Ja Ra σ) (h0 : Ia 152 38 = 0) : Cl 230 [.ref 152, .int 1] (amSH L) Ia Ja Ra (G2P Ia Ja Ra σ C (rdN σ.2.2.1 C (0, σ))) := by
  have hO := h.2.2.2.2.2.2
  show Ex 230 0 [some (.ref 152), some (.int 1), none, none, none, none] [] (amSH L) Ia Ja Ra _
  refine LA0 e230_0 ?_
  refine Ki e230_1 kiconst_0 ?_
  refine Pi e230_2 (o152 L) f805 ?_
  refine Ki e230_5 kiconst_0 ?_
  refine SI2 e230_6 rfl ?_
  refine Ki e230_7 kiconst_1 ?_
  refine SI3 e230_8 rfl ?_
  exact (m_go2 hR hz hO hC C 0 0 120 σ _ Ja _ _ (Nat.zero_add _) hC0 hck (Nat.zero_le _) (h.k ((FrX.rf.up (k := 37) (by omega)).k (fun _ _ => rfl))) rfl (by rw [amU_same]; rfl) (by (repeat rw [up_o (by omega)]); first | exact amU_same | exact h0)).mono (fun v Ia' Ja' Ra' hz => hz.tr (fun i => up_o (by omega)) (fun y hy => by funext i; rw [up_o (by omega)]) (fun _ _ => rfl))
set_option maxHeartbeats 2000000 in
theorem m_rd_c1 {x1 x2 x3 : Int32} (hR : amRok Ra) (hQ : ∀ Ia'', (∀ y j, y ≠ 155 → Ia'' y j = Ia y j) → (∀ j, j < 40 → Ia'' 155 j = Ia 153 j) → Ex 231 59 [some (.ref 152), some (.int x1), some (.int x2), some (.int x3), some (.int (nI 40))] [] (amSH L) Ia'' Ja Ra Q) : ∀ (n i : Nat) (Ia' : amI), 40 - i < n → i ≤ 40 → (∀ y j, y ≠ 155 → Ia' y j = Ia y j) → (∀ j, j < i → Ia' 155 j = Ia 153 j) → Ex 231 32 [some (.ref 152), some (.int x1), some (.int x2), some (.int x3), some (.int (nI i))] [] (amSH L) Ia' Ja Ra Q := by
  intro n
  induction n with
  | zero => intro i Ia' h; omega
  | succ n ih =>
    intro i Ia' h h9 g1 g2
    refine LI4 e231_32 ?_
    refine Ki e231_34 kbipush_40 ?_
    refine CN_ge (a := i) (b := 40) e231_36 t231_36 rfl (by decide) (by omega) (by omega) (fun h36 => ?_) (fun h36 => ?_)
    · have e9 : i = 40 := by omega
      subst e9
      exact hQ _ g1 g2
    · refine LA0 e231_39 ?_
      refine Gr e231_40 (o152 L) (hR 152 5 155 rfl) f773 ?_
      refine LI4 e231_43 ?_
      refine LA0 e231_45 ?_
      refine Gr e231_46 (o152 L) (hR 152 1 153 rfl) f769 ?_
      refine LI4 e231_49 ?_
      refine AiN (k := i) e231_51 (o153 L) rfl (by omega) (by decide) ?_
      refine WiN (k := i) e231_52 (o155 L) rfl (by omega) (by decide) ?_
      refine IncN4 (m := i) e231_53 rfl ?_
      refine Go e231_56 t231_56 ?_
      refine ih (i + 1) _ (by omega) (by omega) (fun y j hy => by rw [up_o (by omega)]; exact g1 y j hy) (fun j hj => ?_)
      by_cases e : j = i
      · rw [e, amU_same]
        exact g1 153 i (by decide)
      · rw [up_o (by omega)]
        exact g2 j (by omega)
set_option maxHeartbeats 2000000 in
theorem m_rd_c2 {x1 x2 x3 : Int32} (hR : amRok Ra) (hQ : ∀ Ia'', (∀ y j, y ≠ 153 → Ia'' y j = Ia y j) → (∀ j, j < 40 → Ia'' 153 j = Ia 155 j) → Ex 231 111 [some (.ref 152), some (.int x1), some (.int x2), some (.int x3), some (.int (nI 40))] [] (amSH L) Ia'' Ja Ra Q) : ∀ (n i : Nat) (Ia' : amI), 40 - i < n → i ≤ 40 → (∀ y j, y ≠ 153 → Ia' y j = Ia y j) → (∀ j, j < i → Ia' 153 j = Ia 155 j) → Ex 231 84 [some (.ref 152), some (.int x1), some (.int x2), some (.int x3), some (.int (nI i))] [] (amSH L) Ia' Ja Ra Q := by
  intro n
  induction n with
  | zero => intro i Ia' h; omega
  | succ n ih =>
    intro i Ia' h h9 g1 g2
    refine LI4 e231_84 ?_
    refine Ki e231_86 kbipush_40 ?_
    refine CN_ge (a := i) (b := 40) e231_88 t231_88 rfl (by decide) (by omega) (by omega) (fun h88 => ?_) (fun h88 => ?_)
    · have e9 : i = 40 := by omega
      subst e9
      exact hQ _ g1 g2
    · refine LA0 e231_91 ?_
      refine Gr e231_92 (o152 L) (hR 152 1 153 rfl) f769 ?_
      refine LI4 e231_95 ?_
      refine LA0 e231_97 ?_
      refine Gr e231_98 (o152 L) (hR 152 5 155 rfl) f773 ?_
      refine LI4 e231_101 ?_
      refine AiN (k := i) e231_103 (o155 L) rfl (by omega) (by decide) ?_
      refine WiN (k := i) e231_104 (o153 L) rfl (by omega) (by decide) ?_
      refine IncN4 (m := i) e231_105 rfl ?_
      refine Go e231_108 t231_108 ?_
      refine ih (i + 1) _ (by omega) (by omega) (fun y j hy => by rw [up_o (by omega)]; exact g1 y j hy) (fun j hj => ?_)
      by_cases e : j = i
      · rw [e, amU_same]
        exact g1 155 i (by decide)
      · rw [up_o (by omega)]
        exact g2 j (by omega)
set_option maxHeartbeats 2000000 in
theorem m_rd_e0 {x1 x2 : Int32} {l3 l4 : Option Value} (h : MSt Ia Ja Ra σ) (h0 : Ia 152 38 = 0) : Ex 231 111 [some (.ref 152), some (.int x1), some (.int x2), l3, l4] [] (amSH L) Ia Ja Ra (MP Ia Ja Ra (clrT σ) (.int x2)) := by
  obtain ⟨hR, hPl, h3, h4, h5, h6, h7⟩ := id h
  have h3 : M3 Ia σ.2.1 := h3
  have h4 : M4 Ia σ.2.2.1 σ.2.2.2.1 := h4
  have h5 : M5 Ia σ.2.2.2.2.1 := h5
  have h6 : M6 Ia σ.2.2.2.2.2.1 σ.2.2.2.2.2.2 := h6
  have h8 := h7.1.1
  have hn120 := h7.2.2.1
  have hw35 := h7.2.2.2.1
  refine LA0 e231_111 ?_
  refine Ki e231_112 kiconst_0 ?_
  refine Pi e231_113 (o152 L) f804 ?_
  refine LA0 e231_116 ?_
  refine Gi e231_117 (o152 L) (amGi_of f806 (by decide)) ?_
  rw [up_o (by omega), h0]
  refine B_eq e231_120 t231_120 (fun _ => ?_) (fun q => absurd (rfl) q)
  refine LI2 e231_133 ?_
  exact Ri e231_134 rt231 (by
  refine ⟨rfl, ⟨hR, hPl.cg (up_o (by omega)) (fun i => up_o (by omega)), h3.cg (up_o (by omega)) (fun i => up_o (by omega)), ⟨by rw [amU_same]; rfl, fun k hk => absurd hk (Nat.not_lt_zero k)⟩, h5.cg (up_o (by omega)) (fun i => up_o (by omega)), h6.cg (fun i => up_o (by omega)) (fun i => up_o (by omega)), ⟨h7.1, h7.2.1, Nat.zero_le _, h7.2.2.2⟩⟩, fun y hy => by funext i; rw [up_o (by omega)], fun _ _ => rfl, rfl⟩)
set_option maxHeartbeats 2000000 in
theorem m_rd_e1 {x1 x2 : Int32} {l3 l4 : Option Value} (h : MSt Ia Ja Ra σ) (h0 : Ia 152 38 = 1) (hf : Ia 152 39 = nI e) : Ex 231 111 [some (.ref 152), some (.int x1), some (.int x2), l3, l4] [] (amSH L) Ia Ja Ra (MP Ia Ja Ra (clrT σ) (.int (-x1 - nI e))) := by
  obtain ⟨hR, hPl, h3, h4, h5, h6, h7⟩ := id h
  have h3 : M3 Ia σ.2.1 := h3
  have h4 : M4 Ia σ.2.2.1 σ.2.2.2.1 := h4
  have h5 : M5 Ia σ.2.2.2.2.1 := h5
  have h6 : M6 Ia σ.2.2.2.2.2.1 σ.2.2.2.2.2.2 := h6
  have h8 := h7.1.1
  have hn120 := h7.2.2.1
  have hw35 := h7.2.2.2.1
  refine LA0 e231_111 ?_
  refine Ki e231_112 kiconst_0 ?_
  refine Pi e231_113 (o152 L) f804 ?_
  refine LA0 e231_116 ?_
  refine Gi e231_117 (o152 L) (amGi_of f806 (by decide)) ?_
  rw [up_o (by omega), h0]
  refine B_eq e231_120 t231_120 (fun q => absurd q (by decide)) (fun _ => ?_)
  refine LI1 e231_123 ?_
  refine Ineg e231_124 ?_
  refine LA0 e231_125 ?_
  refine Gi e231_126 (o152 L) (amGi_of f807 (by decide)) ?_
  rw [up_o (by omega), hf]
  refine Isub e231_129 ?_
  refine Go e231_130 t231_130 ?_
  exact Ri e231_134 rt231 (by
  refine ⟨rfl, ⟨hR, hPl.cg (up_o (by omega)) (fun i => up_o (by omega)), h3.cg (up_o (by omega)) (fun i => up_o (by omega)), ⟨by rw [amU_same]; rfl, fun k hk => absurd hk (Nat.not_lt_zero k)⟩, h5.cg (up_o (by omega)) (fun i => up_o (by omega)), h6.cg (fun i => up_o (by omega)) (fun i => up_o (by omega)), ⟨h7.1, h7.2.1, Nat.zero_le _, h7.2.2.2⟩⟩, fun y hy => by funext i; rw [up_o (by omega)], fun _ _ => rfl, rfl⟩)
set_option maxHeartbeats 2000000 in
theorem n_reads (h : MSt Ia Ja Ra σ) (hz : ∀ k, σ.2.2.2.1 ≤ k → σ.2.2.1 k = 0) : Cl 231 [.ref 152] (amSH L) Ia Ja Ra (MP Ia Ja Ra (sReads σ).2 (.int (sReads σ).1)) := by
  obtain ⟨hR, hPl, h3, h4, h5, h6, h7⟩ := id h
  have h3 : M3 Ia σ.2.1 := h3
  have h4 : M4 Ia σ.2.2.1 σ.2.2.2.1 := h4
  have h5 : M5 Ia σ.2.2.2.2.1 := h5
  have h6 : M6 Ia σ.2.2.2.2.2.1 σ.2.2.2.2.2.2 := h6
  have h8 := h7.1.1
  have hn120 := h7.2.2.1
  have hw35 := h7.2.2.2.1
  unfold sReads
  show Ex 231 0 [some (.ref 152), none, none, none, none] [] (amSH L) Ia Ja Ra _
  refine LA0 e231_0 ?_
  refine Ki e231_1 kiconst_0 ?_
  refine Pz e231_2 (o152 L) f806 (by decide) ?_
  refine LA0 e231_5 ?_
  refine Ki e231_6 kiconst_0 ?_
  refine Cv1p e231_7 c231_230 (o152 L) (Nat.le_of_ble_eq_true rfl) (Nat.le_of_ble_eq_true rfl) (m_goes1 (T := σ.2.2.1) (n := σ.2.2.2.1) hR ⟨h4.cg (up_o (by omega)) (fun i => up_o (by omega)), hn120, hz⟩ amU_same) ?_
  rintro v1 Ia1 Ja1 Ra1 ⟨⟨x, hv⟩, hR1, hF1, hF2, hD⟩
  subst hv
  have hR1 := hR1.symm
  subst hR1
  have hX1 : FrX Ia Ia1 := (FrX.rf.up (k := 38) (by omega)).tr hF1
  have hJ1 : ∀ y, y < 152 → Ja1 y = Ja y := fun y hy => hF2 y (by omega)
  have hm1 := h.k (hX1.k hJ1)
  have hlo : ∀ y, y < 152 → Ia1 y = Ia y := fun y hy => funext (fun i => hX1 y i (by omega))
  rcases hD with ⟨e, hck, w1, w2⟩ | ⟨c, hck, w1⟩
  · rw [hck]
    dsimp only
    refine Pop e231_10 rfl ?_
    refine Ki e231_11 ksipush_1000 ?_
    refine SI1 e231_14 rfl ?_
    refine Ki e231_15 kiconst_0 ?_
    refine SI2 e231_16 rfl ?_
    refine LA0 e231_17 ?_
    refine Gi e231_18 (o152 L) (amGi_of f806 (by decide)) ?_
    rw [w1]
    refine B_ne e231_21 t231_21 (fun _ => ?_) (fun q => absurd (by decide) q)
    exact (m_rd_e1 hm1 w1 w2).mono (fun v Ia' Ja' Ra' hz => hz.tr hlo hJ1)
  · rw [hck]
    dsimp only
    have hcg := ckN_ge hck
    refine Pop e231_10 rfl ?_
    refine Ki e231_11 ksipush_1000 ?_
    refine SI1 e231_14 rfl ?_
    refine Ki e231_15 kiconst_0 ?_
    refine SI2 e231_16 rfl ?_
    refine LA0 e231_17 ?_
    refine Gi e231_18 (o152 L) (amGi_of f806 (by decide)) ?_
    rw [w1]
    refine B_ne e231_21 t231_21 (fun q => absurd q (fun z => z rfl)) (fun _ => ?_)
    refine LA0 e231_24 ?_
    refine Gi e231_25 (o152 L) (amGi_of f770 (by decide)) ?_
    rw [hm1.2.1.1]
    refine SI3 e231_28 rfl ?_
    refine Ki e231_29 kiconst_0 ?_
    refine SI4 e231_30 rfl ?_
    refine m_rd_c1 hR (fun Ia2 g1 g2 => ?_) 41 0 Ia1 (by omega) (by omega) (fun _ _ _ => rfl) (fun j hj => by omega)
    have hm2 : MSt Ia2 Ja1 Ra σ := hm1.k ⟨fun y i a b c => g1 y i (by omega), fun _ _ => rfl⟩
    refine Ki e231_59 ksipush_2000 ?_
    refine SI1 e231_62 rfl ?_
    refine LA0 e231_63 ?_
    refine Ki e231_64 kiconst_1 ?_
    refine Cv1p e231_65 c231_230 (o152 L) (Nat.le_of_ble_eq_true rfl) (Nat.le_of_ble_eq_true rfl) (m_goes2 hR hz (by omega) (by omega) hck hm2 ((g1 _ _ (by omega)).trans w1)) ?_
    rintro v4 Ia4 Ja4 Ra4 ⟨τ, hm4, hR4, hτ, hX4, hY4, hZ4, hD4⟩
    have hR4 := hR4.symm
    subst hR4
    have hlo4 : ∀ y, y < 152 → Ia4 y = Ia y := fun y hy => (hY4 y hy).trans ((funext (fun i => g1 y i (by omega))).trans (hlo y hy))
    have hJ4 : ∀ y, y < 152 → Ja4 y = Ja y := fun y hy => (hZ4 y hy).trans (hJ1 y hy)
    rcases hD4 with ⟨b, x4, hrd, hv, u1, u2⟩ | ⟨hrd, hv, u1⟩
    · subst hv
      rw [hrd]
      unfold rdA
      dsimp only
      refine SI2 e231_68 rfl ?_
      refine LA0 e231_69 ?_
      refine Gi e231_70 (o152 L) (amGi_of f806 (by decide)) ?_
      rw [u1]
      refine B_eq e231_73 t231_73 (fun q => absurd q (by decide)) (fun _ => ?_)
      refine LA0 e231_76 ?_
      refine LI3 e231_77 ?_
      refine Pi e231_78 (o152 L) f770 ?_
      refine Ki e231_81 kiconst_0 ?_
      refine SI4 e231_82 rfl ?_
      refine m_rd_c2 hR (fun Ia5 k1 k2 => ?_) 41 0 _ (by omega) (by omega) (fun _ _ _ => rfl) (fun j hj => by omega)
      have k3 : ∀ y j, y ≠ 153 → ¬ (y = 152 ∧ j = 2) → Ia5 y j = Ia4 y j := fun y j a b => (k1 y j a).trans (up_o b)
      obtain ⟨r1, r2, r3, r4, r5, r6, r7⟩ := hm4
      have r3 : M3 Ia4 τ.2.1 := r3
      have r4 : M4 Ia4 τ.2.2.1 τ.2.2.2.1 := r4
      have r5 : M5 Ia4 τ.2.2.2.2.1 := r5
      have r6 : M6 Ia4 τ.2.2.2.2.2.1 τ.2.2.2.2.2.2 := r6
      rw [hτ] at r3 r4 r5 r6
      have hm5 : MSt Ia5 Ja4 Ra σ := by
        refine ⟨hR, ⟨(k1 _ _ (by omega)).trans amU_same, fun p k hp hk => ?_⟩, r3.cg (k3 _ _ (by omega) (by omega)) (fun i => k3 _ _ (by omega) (by omega)), r4.cg (k3 _ _ (by omega) (by omega)) (fun i => k3 _ _ (by omega) (by omega)), r5.cg (k3 _ _ (by omega) (by omega)) (fun i => k3 _ _ (by omega) (by omega)), r6.cg (fun i => k3 _ _ (by omega) (by omega)) (fun i => k3 _ _ (by omega) (by omega)), h7⟩
        rw [k2 _ (by omega), up_o (by omega), hX4, g2 _ (by omega)]
        exact hm1.2.1.2 p k hp hk
      exact (m_rd_e1 hm5 ((k3 _ _ (by omega) (by omega)).trans u1) ((k3 _ _ (by omega) (by omega)).trans u2)).mono (fun v Ia' Ja' Ra' hz => hz.tr (fun y hy => (funext (fun i => k3 y i (by omega) (by omega))).trans (hlo4 y hy)) hJ4)
    · subst hv
      rw [hrd]
      unfold rdA
      dsimp only
      refine SI2 e231_68 rfl ?_
      refine LA0 e231_69 ?_
      refine Gi e231_70 (o152 L) (amGi_of f806 (by decide)) ?_
      rw [u1]
      refine B_eq e231_73 t231_73 (fun _ => ?_) (fun q => absurd (rfl) q)
      exact (m_rd_e0 hm4 u1).mono (fun v Ia' Ja' Ra' hz => hz.tr hlo4 hJ4)
end REF41
