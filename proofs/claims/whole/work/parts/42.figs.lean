/-! the tape: figures, a statement, the check (printed by wip/whole/t42.py) -/
section FIGS
variable {L : Nat} {I : amI} {J : amJ} {R : amR} {Q : amQ} {T : Nat → Int32} {n k b c e i t v : Nat} {p : Po}
set_option maxHeartbeats 2000000 in
theorem t_figures (hR : amRok R) (hT : TT I T n) (hb : b ≤ 200) (ht : t < 12) (hw : I 143 3 = nI t) : Cl 91 [.ref 143, .int (nI b)] (amSH L) I J R (fun v I' J' R' => FgP I t (figS T t b) v I' ∧ J' = J ∧ R' = R) := by
  show Ex 91 0 [some (.ref 143), some (.int (nI b)), none, none, none] [] (amSH L) I J R _
  refine LI1 e91_0 ?_
  refine SI2 e91_1 rfl ?_
  refine LA0 e91_2 ?_
  refine LI2 e91_3 ?_
  refine Cv1 e91_4 c91_94 (o143 L) (Nat.le_of_ble_eq_true rfl) (Nat.le_of_ble_eq_true rfl) ((tq_at hR hT (by omega))) ?_
  refine Ki e91_7 kbipush_32 ?_
  refine C_eq e91_9 t91_9 (fun h9 => ?_) (fun h9 => ?_)
  · refine IncN2 (m := b) e91_17 rfl ?_
    refine LA0 e91_20 ?_
    refine LI2 e91_21 ?_
    refine Cv1 e91_22 c91_95 (o143 L) (Nat.le_of_ble_eq_true rfl) (Nat.le_of_ble_eq_true rfl) ((t_isFig hR hT (by omega))) ?_
    refine B_ne e91_25 t91_25 (fun h25 => ?_) (fun h25 => ?_)
    · refine LA0 e91_33 ?_
      refine LA0 e91_34 ?_
      refine LI2 e91_35 ?_
      refine Cv1 e91_36 c91_94 (o143 L) (Nat.le_of_ble_eq_true rfl) (Nat.le_of_ble_eq_true rfl) ((tq_at hR hT (by omega))) ?_
      refine Ki e91_39 kbipush_48 ?_
      rw [dg_nI (bI_t h25)]
      refine IsubN (a := (48 + dg (T (b + 1)))) (b := 48) e91_41 rfl (by decide) (by omega) ?_
      rw [Nat.add_sub_cancel_left]
      refine Pi e91_42 (o143 L) f644 ?_
      refine IncN2 (m := (b + 1)) e91_45 rfl ?_
      refine LA0 e91_48 ?_
      refine Gi e91_49 (o143 L) (amGi_of f643 (by decide)) ?_
      rw [amU_ni (by decide), hw]
      refine Ki e91_52 kbipush_6 ?_
      refine CN_eq (a := t) (b := 6) e91_54 t91_54 rfl (by decide) (by omega) (by omega) (fun h54 => ?_) (fun h54 => ?_)
      · refine Ki e91_75 kiconst_1 ?_
        refine Go e91_76 t91_76 ?_
        refine SI3 e91_80 rfl ?_
        refine LI3 e91_81 ?_
        refine B_ne e91_82 t91_82 (fun _ => ?_) (fun q => absurd (by decide) q)
        refine LA0 e91_97 ?_
        refine LI2 e91_98 ?_
        refine Cv1 e91_99 c91_94 (o143 L) (Nat.le_of_ble_eq_true rfl) (Nat.le_of_ble_eq_true rfl) ((tq_at hR (hT.fr (FrT.up FrT.rf (by decide))) (by omega))) ?_
        refine Ki e91_102 kbipush_32 ?_
        refine C_eq e91_104 t91_104 (fun h104 => ?_) (fun h104 => ?_)
        · refine IncN2 (m := ((b + 1) + 1)) e91_112 rfl ?_
          refine LI3 e91_115 ?_
          refine B_eq e91_116 t91_116 (fun q => absurd q (by decide)) (fun _ => ?_)
          refine LA0 e91_119 ?_
          refine LI2 e91_120 ?_
          refine Cv1 e91_121 c91_94 (o143 L) (Nat.le_of_ble_eq_true rfl) (Nat.le_of_ble_eq_true rfl) ((tq_at hR (hT.fr (FrT.up FrT.rf (by decide))) (by omega))) ?_
          refine Ki e91_124 kbipush_45 ?_
          refine C_ne e91_126 t91_126 (fun h126 => ?_) (fun h126 => ?_)
          · refine Ki e91_133 kiconst_0 ?_
            refine SI4 e91_134 rfl ?_
            refine LI4 e91_136 ?_
            refine B_eq e91_138 t91_138 (fun _ => ?_) (fun q => absurd (rfl) q)
            refine LA0 e91_144 ?_
            refine LI2 e91_145 ?_
            refine Cv1 e91_146 c91_95 (o143 L) (Nat.le_of_ble_eq_true rfl) (Nat.le_of_ble_eq_true rfl) ((t_isFig hR (hT.fr (FrT.up FrT.rf (by decide))) (by omega))) ?_
            refine B_ne e91_149 t91_149 (fun h149 => ?_) (fun h149 => ?_)
            · refine LA0 e91_157 ?_
              refine LI4 e91_158 ?_
              refine B_eq e91_160 t91_160 (fun _ => ?_) (fun q => absurd (rfl) q)
              refine LA0 e91_174 ?_
              refine LI2 e91_175 ?_
              refine Cv1 e91_176 c91_94 (o143 L) (Nat.le_of_ble_eq_true rfl) (Nat.le_of_ble_eq_true rfl) ((tq_at hR (hT.fr (FrT.up FrT.rf (by decide))) (by omega))) ?_
              refine Ki e91_179 kbipush_48 ?_
              rw [dg_nI (bI_t h149)]
              refine IsubN (a := (48 + dg (T (((b + 1) + 1) + 1)))) (b := 48) e91_181 rfl (by decide) (by omega) ?_
              rw [Nat.add_sub_cancel_left]
              refine Pi e91_182 (o143 L) f645 ?_
              refine LI2 e91_185 ?_
              refine Ki e91_186 kiconst_1 ?_
              refine IaddN (a := (((b + 1) + 1) + 1)) (b := 1) e91_187 rfl (by decide) ?_
              exact Ri e91_188 rt91 (by
              refine ⟨⟨(FrT.up (FrT.up FrT.rf (by decide)) (by decide)), by rw [amU_ni (by decide), amU_ni (by decide)], ?_⟩, rfl, rfl⟩
              unfold figS
              rw [if_neg (fun z => z h9), if_neg (fun z => z (bI_t h25)), if_neg (fun z => z.1 (by unfold isSg; omega)), if_neg (fun z => z h104), if_neg (fun z => h126 z.2)]
              rw [if_neg (fun z => z (bI_t h149))]
              exact Or.inr ⟨_, _, _, rfl, rfl, by rw [amU_ni (by decide), amU_same], fun _ => by rw [amU_same]⟩)
            · refine LI2 e91_152 ?_
              refine Cs1 e91_153 c91_96 (Nat.le_of_ble_eq_true rfl) (Nat.le_of_ble_eq_true rfl) (t_fault) ?_
              exact Ri e91_156 rt91 (by
              refine ⟨⟨(FrT.up FrT.rf (by decide)), by rw [amU_ni (by decide)], ?_⟩, rfl, rfl⟩
              unfold figS
              rw [if_neg (fun z => z h9), if_neg (fun z => z (bI_t h25)), if_neg (fun z => z.1 (by unfold isSg; omega)), if_neg (fun z => z h104), if_neg (fun z => h126 z.2)]
              rw [if_pos (bI_f h149)]
              exact Or.inl ⟨_, rfl, rfl⟩)
          · refine Ki e91_129 kiconst_1 ?_
            refine Go e91_130 t91_130 ?_
            refine SI4 e91_134 rfl ?_
            refine LI4 e91_136 ?_
            refine B_eq e91_138 t91_138 (fun q => absurd q (by decide)) (fun _ => ?_)
            refine IncN2 (m := (((b + 1) + 1) + 1)) e91_141 rfl ?_
            refine LA0 e91_144 ?_
            refine LI2 e91_145 ?_
            refine Cv1 e91_146 c91_95 (o143 L) (Nat.le_of_ble_eq_true rfl) (Nat.le_of_ble_eq_true rfl) ((t_isFig hR (hT.fr (FrT.up FrT.rf (by decide))) (by omega))) ?_
            refine B_ne e91_149 t91_149 (fun h149 => ?_) (fun h149 => ?_)
            · refine LA0 e91_157 ?_
              refine LI4 e91_158 ?_
              refine B_eq e91_160 t91_160 (fun q => absurd q (by decide)) (fun _ => ?_)
              refine Ki e91_163 kbipush_48 ?_
              refine LA0 e91_165 ?_
              refine LI2 e91_166 ?_
              refine Cv1 e91_167 c91_94 (o143 L) (Nat.le_of_ble_eq_true rfl) (Nat.le_of_ble_eq_true rfl) ((tq_at hR (hT.fr (FrT.up FrT.rf (by decide))) (by omega))) ?_
              rw [dg_nI (bI_t h149)]
              refine Isub e91_170 ?_
              refine Go e91_171 t91_171 ?_
              rw [sub48 _ (by have := dg_le (bI_t h149); omega)]
              refine Pi e91_182 (o143 L) f645 ?_
              refine LI2 e91_185 ?_
              refine Ki e91_186 kiconst_1 ?_
              refine IaddN (a := ((((b + 1) + 1) + 1) + 1)) (b := 1) e91_187 rfl (by decide) ?_
              exact Ri e91_188 rt91 (by
              refine ⟨⟨(FrT.up (FrT.up FrT.rf (by decide)) (by decide)), by rw [amU_ni (by decide), amU_ni (by decide)], ?_⟩, rfl, rfl⟩
              unfold figS
              rw [if_neg (fun z => z h9), if_neg (fun z => z (bI_t h25)), if_neg (fun z => z.1 (by unfold isSg; omega)), if_neg (fun z => z h104), if_pos ⟨by unfold isSg; omega, Decidable.not_not.mp h126⟩]
              rw [if_neg (fun z => z (bI_t h149))]
              exact Or.inr ⟨_, _, _, rfl, rfl, by rw [amU_ni (by decide), amU_same], fun _ => by rw [amU_same]⟩)
            · refine LI2 e91_152 ?_
              refine Cs1 e91_153 c91_96 (Nat.le_of_ble_eq_true rfl) (Nat.le_of_ble_eq_true rfl) (t_fault) ?_
              exact Ri e91_156 rt91 (by
              refine ⟨⟨(FrT.up FrT.rf (by decide)), by rw [amU_ni (by decide)], ?_⟩, rfl, rfl⟩
              unfold figS
              rw [if_neg (fun z => z h9), if_neg (fun z => z (bI_t h25)), if_neg (fun z => z.1 (by unfold isSg; omega)), if_neg (fun z => z h104), if_pos ⟨by unfold isSg; omega, Decidable.not_not.mp h126⟩]
              rw [if_pos (bI_f h149)]
              exact Or.inl ⟨_, rfl, rfl⟩)
        · refine LI2 e91_107 ?_
          refine Cs1 e91_108 c91_96 (Nat.le_of_ble_eq_true rfl) (Nat.le_of_ble_eq_true rfl) (t_fault) ?_
          exact Ri e91_111 rt91 (by
          refine ⟨⟨(FrT.up FrT.rf (by decide)), by rw [amU_ni (by decide)], ?_⟩, rfl, rfl⟩
          unfold figS
          rw [if_neg (fun z => z h9), if_neg (fun z => z (bI_t h25)), if_neg (fun z => z.1 (by unfold isSg; omega)), if_pos h104]
          exact Or.inl ⟨_, rfl, rfl⟩)
      · refine LA0 e91_57 ?_
        refine Gi e91_58 (o143 L) (amGi_of f643 (by decide)) ?_
        rw [amU_ni (by decide), hw]
        refine Ki e91_61 kbipush_7 ?_
        refine CN_eq (a := t) (b := 7) e91_63 t91_63 rfl (by decide) (by omega) (by omega) (fun h63 => ?_) (fun h63 => ?_)
        · refine Ki e91_75 kiconst_1 ?_
          refine Go e91_76 t91_76 ?_
          refine SI3 e91_80 rfl ?_
          refine LI3 e91_81 ?_
          refine B_ne e91_82 t91_82 (fun _ => ?_) (fun q => absurd (by decide) q)
          refine LA0 e91_97 ?_
          refine LI2 e91_98 ?_
          refine Cv1 e91_99 c91_94 (o143 L) (Nat.le_of_ble_eq_true rfl) (Nat.le_of_ble_eq_true rfl) ((tq_at hR (hT.fr (FrT.up FrT.rf (by decide))) (by omega))) ?_
          refine Ki e91_102 kbipush_32 ?_
          refine C_eq e91_104 t91_104 (fun h104 => ?_) (fun h104 => ?_)
          · refine IncN2 (m := ((b + 1) + 1)) e91_112 rfl ?_
            refine LI3 e91_115 ?_
            refine B_eq e91_116 t91_116 (fun q => absurd q (by decide)) (fun _ => ?_)
            refine LA0 e91_119 ?_
            refine LI2 e91_120 ?_
            refine Cv1 e91_121 c91_94 (o143 L) (Nat.le_of_ble_eq_true rfl) (Nat.le_of_ble_eq_true rfl) ((tq_at hR (hT.fr (FrT.up FrT.rf (by decide))) (by omega))) ?_
            refine Ki e91_124 kbipush_45 ?_
            refine C_ne e91_126 t91_126 (fun h126 => ?_) (fun h126 => ?_)
            · refine Ki e91_133 kiconst_0 ?_
              refine SI4 e91_134 rfl ?_
              refine LI4 e91_136 ?_
              refine B_eq e91_138 t91_138 (fun _ => ?_) (fun q => absurd (rfl) q)
              refine LA0 e91_144 ?_
              refine LI2 e91_145 ?_
              refine Cv1 e91_146 c91_95 (o143 L) (Nat.le_of_ble_eq_true rfl) (Nat.le_of_ble_eq_true rfl) ((t_isFig hR (hT.fr (FrT.up FrT.rf (by decide))) (by omega))) ?_
              refine B_ne e91_149 t91_149 (fun h149 => ?_) (fun h149 => ?_)
              · refine LA0 e91_157 ?_
                refine LI4 e91_158 ?_
                refine B_eq e91_160 t91_160 (fun _ => ?_) (fun q => absurd (rfl) q)
                refine LA0 e91_174 ?_
                refine LI2 e91_175 ?_
                refine Cv1 e91_176 c91_94 (o143 L) (Nat.le_of_ble_eq_true rfl) (Nat.le_of_ble_eq_true rfl) ((tq_at hR (hT.fr (FrT.up FrT.rf (by decide))) (by omega))) ?_
                refine Ki e91_179 kbipush_48 ?_
                rw [dg_nI (bI_t h149)]
                refine IsubN (a := (48 + dg (T (((b + 1) + 1) + 1)))) (b := 48) e91_181 rfl (by decide) (by omega) ?_
                rw [Nat.add_sub_cancel_left]
                refine Pi e91_182 (o143 L) f645 ?_
                refine LI2 e91_185 ?_
                refine Ki e91_186 kiconst_1 ?_
                refine IaddN (a := (((b + 1) + 1) + 1)) (b := 1) e91_187 rfl (by decide) ?_
                exact Ri e91_188 rt91 (by
                refine ⟨⟨(FrT.up (FrT.up FrT.rf (by decide)) (by decide)), by rw [amU_ni (by decide), amU_ni (by decide)], ?_⟩, rfl, rfl⟩
                unfold figS
                rw [if_neg (fun z => z h9), if_neg (fun z => z (bI_t h25)), if_neg (fun z => z.1 (by unfold isSg; omega)), if_neg (fun z => z h104), if_neg (fun z => h126 z.2)]
                rw [if_neg (fun z => z (bI_t h149))]
                exact Or.inr ⟨_, _, _, rfl, rfl, by rw [amU_ni (by decide), amU_same], fun _ => by rw [amU_same]⟩)
              · refine LI2 e91_152 ?_
                refine Cs1 e91_153 c91_96 (Nat.le_of_ble_eq_true rfl) (Nat.le_of_ble_eq_true rfl) (t_fault) ?_
                exact Ri e91_156 rt91 (by
                refine ⟨⟨(FrT.up FrT.rf (by decide)), by rw [amU_ni (by decide)], ?_⟩, rfl, rfl⟩
                unfold figS
                rw [if_neg (fun z => z h9), if_neg (fun z => z (bI_t h25)), if_neg (fun z => z.1 (by unfold isSg; omega)), if_neg (fun z => z h104), if_neg (fun z => h126 z.2)]
                rw [if_pos (bI_f h149)]
                exact Or.inl ⟨_, rfl, rfl⟩)
            · refine Ki e91_129 kiconst_1 ?_
              refine Go e91_130 t91_130 ?_
              refine SI4 e91_134 rfl ?_
              refine LI4 e91_136 ?_
              refine B_eq e91_138 t91_138 (fun q => absurd q (by decide)) (fun _ => ?_)
              refine IncN2 (m := (((b + 1) + 1) + 1)) e91_141 rfl ?_
              refine LA0 e91_144 ?_
              refine LI2 e91_145 ?_
              refine Cv1 e91_146 c91_95 (o143 L) (Nat.le_of_ble_eq_true rfl) (Nat.le_of_ble_eq_true rfl) ((t_isFig hR (hT.fr (FrT.up FrT.rf (by decide))) (by omega))) ?_
              refine B_ne e91_149 t91_149 (fun h149 => ?_) (fun h149 => ?_)
              · refine LA0 e91_157 ?_
                refine LI4 e91_158 ?_
                refine B_eq e91_160 t91_160 (fun q => absurd q (by decide)) (fun _ => ?_)
                refine Ki e91_163 kbipush_48 ?_
                refine LA0 e91_165 ?_
                refine LI2 e91_166 ?_
                refine Cv1 e91_167 c91_94 (o143 L) (Nat.le_of_ble_eq_true rfl) (Nat.le_of_ble_eq_true rfl) ((tq_at hR (hT.fr (FrT.up FrT.rf (by decide))) (by omega))) ?_
                rw [dg_nI (bI_t h149)]
                refine Isub e91_170 ?_
                refine Go e91_171 t91_171 ?_
                rw [sub48 _ (by have := dg_le (bI_t h149); omega)]
                refine Pi e91_182 (o143 L) f645 ?_
                refine LI2 e91_185 ?_
                refine Ki e91_186 kiconst_1 ?_
                refine IaddN (a := ((((b + 1) + 1) + 1) + 1)) (b := 1) e91_187 rfl (by decide) ?_
                exact Ri e91_188 rt91 (by
                refine ⟨⟨(FrT.up (FrT.up FrT.rf (by decide)) (by decide)), by rw [amU_ni (by decide), amU_ni (by decide)], ?_⟩, rfl, rfl⟩
                unfold figS
                rw [if_neg (fun z => z h9), if_neg (fun z => z (bI_t h25)), if_neg (fun z => z.1 (by unfold isSg; omega)), if_neg (fun z => z h104), if_pos ⟨by unfold isSg; omega, Decidable.not_not.mp h126⟩]
                rw [if_neg (fun z => z (bI_t h149))]
                exact Or.inr ⟨_, _, _, rfl, rfl, by rw [amU_ni (by decide), amU_same], fun _ => by rw [amU_same]⟩)
              · refine LI2 e91_152 ?_
                refine Cs1 e91_153 c91_96 (Nat.le_of_ble_eq_true rfl) (Nat.le_of_ble_eq_true rfl) (t_fault) ?_
                exact Ri e91_156 rt91 (by
                refine ⟨⟨(FrT.up FrT.rf (by decide)), by rw [amU_ni (by decide)], ?_⟩, rfl, rfl⟩
                unfold figS
                rw [if_neg (fun z => z h9), if_neg (fun z => z (bI_t h25)), if_neg (fun z => z.1 (by unfold isSg; omega)), if_neg (fun z => z h104), if_pos ⟨by unfold isSg; omega, Decidable.not_not.mp h126⟩]
                rw [if_pos (bI_f h149)]
                exact Or.inl ⟨_, rfl, rfl⟩)
          · refine LI2 e91_107 ?_
            refine Cs1 e91_108 c91_96 (Nat.le_of_ble_eq_true rfl) (Nat.le_of_ble_eq_true rfl) (t_fault) ?_
            exact Ri e91_111 rt91 (by
            refine ⟨⟨(FrT.up FrT.rf (by decide)), by rw [amU_ni (by decide)], ?_⟩, rfl, rfl⟩
            unfold figS
            rw [if_neg (fun z => z h9), if_neg (fun z => z (bI_t h25)), if_neg (fun z => z.1 (by unfold isSg; omega)), if_pos h104]
            exact Or.inl ⟨_, rfl, rfl⟩)
        · refine LA0 e91_66 ?_
          refine Gi e91_67 (o143 L) (amGi_of f643 (by decide)) ?_
          rw [amU_ni (by decide), hw]
          refine Ki e91_70 kbipush_11 ?_
          refine CN_ne (a := t) (b := 11) e91_72 t91_72 rfl (by decide) (by omega) (by omega) (fun h72 => ?_) (fun h72 => ?_)
          · refine Ki e91_79 kiconst_0 ?_
            refine SI3 e91_80 rfl ?_
            refine LI3 e91_81 ?_
            refine B_ne e91_82 t91_82 (fun q => absurd q (fun q => q rfl)) (fun _ => ?_)
            refine LA0 e91_85 ?_
            refine Gi e91_86 (o143 L) (amGi_of f643 (by decide)) ?_
            rw [amU_ni (by decide), hw]
            refine Cs1 e91_89 c91_144 (Nat.le_of_ble_eq_true rfl) (Nat.le_of_ble_eq_true rfl) (x_two) ?_
            refine B_ne e91_92 t91_92 (fun h92 => ?_) (fun h92 => ?_)
            · refine LA0 e91_97 ?_
              refine LI2 e91_98 ?_
              refine Cv1 e91_99 c91_94 (o143 L) (Nat.le_of_ble_eq_true rfl) (Nat.le_of_ble_eq_true rfl) ((tq_at hR (hT.fr (FrT.up FrT.rf (by decide))) (by omega))) ?_
              refine Ki e91_102 kbipush_32 ?_
              refine C_eq e91_104 t91_104 (fun h104 => ?_) (fun h104 => ?_)
              · refine IncN2 (m := ((b + 1) + 1)) e91_112 rfl ?_
                refine LI3 e91_115 ?_
                refine B_eq e91_116 t91_116 (fun _ => ?_) (fun q => absurd (rfl) q)
                refine Ki e91_133 kiconst_0 ?_
                refine SI4 e91_134 rfl ?_
                refine LI4 e91_136 ?_
                refine B_eq e91_138 t91_138 (fun _ => ?_) (fun q => absurd (rfl) q)
                refine LA0 e91_144 ?_
                refine LI2 e91_145 ?_
                refine Cv1 e91_146 c91_95 (o143 L) (Nat.le_of_ble_eq_true rfl) (Nat.le_of_ble_eq_true rfl) ((t_isFig hR (hT.fr (FrT.up FrT.rf (by decide))) (by omega))) ?_
                refine B_ne e91_149 t91_149 (fun h149 => ?_) (fun h149 => ?_)
                · refine LA0 e91_157 ?_
                  refine LI4 e91_158 ?_
                  refine B_eq e91_160 t91_160 (fun _ => ?_) (fun q => absurd (rfl) q)
                  refine LA0 e91_174 ?_
                  refine LI2 e91_175 ?_
                  refine Cv1 e91_176 c91_94 (o143 L) (Nat.le_of_ble_eq_true rfl) (Nat.le_of_ble_eq_true rfl) ((tq_at hR (hT.fr (FrT.up FrT.rf (by decide))) (by omega))) ?_
                  refine Ki e91_179 kbipush_48 ?_
                  rw [dg_nI (bI_t h149)]
                  refine IsubN (a := (48 + dg (T (((b + 1) + 1) + 1)))) (b := 48) e91_181 rfl (by decide) (by omega) ?_
                  rw [Nat.add_sub_cancel_left]
                  refine Pi e91_182 (o143 L) f645 ?_
                  refine LI2 e91_185 ?_
                  refine Ki e91_186 kiconst_1 ?_
                  refine IaddN (a := (((b + 1) + 1) + 1)) (b := 1) e91_187 rfl (by decide) ?_
                  exact Ri e91_188 rt91 (by
                  refine ⟨⟨(FrT.up (FrT.up FrT.rf (by decide)) (by decide)), by rw [amU_ni (by decide), amU_ni (by decide)], ?_⟩, rfl, rfl⟩
                  unfold figS
                  rw [if_neg (fun z => z h9), if_neg (fun z => z (bI_t h25)), if_neg (fun z => z.2 (bI_t h92)), if_neg (fun z => z h104), if_neg (fun z => by have := z.1; unfold isSg at this; omega)]
                  rw [if_neg (fun z => z (bI_t h149))]
                  exact Or.inr ⟨_, _, _, rfl, rfl, by rw [amU_ni (by decide), amU_same], fun _ => by rw [amU_same]⟩)
                · refine LI2 e91_152 ?_
                  refine Cs1 e91_153 c91_96 (Nat.le_of_ble_eq_true rfl) (Nat.le_of_ble_eq_true rfl) (t_fault) ?_
                  exact Ri e91_156 rt91 (by
                  refine ⟨⟨(FrT.up FrT.rf (by decide)), by rw [amU_ni (by decide)], ?_⟩, rfl, rfl⟩
                  unfold figS
                  rw [if_neg (fun z => z h9), if_neg (fun z => z (bI_t h25)), if_neg (fun z => z.2 (bI_t h92)), if_neg (fun z => z h104), if_neg (fun z => by have := z.1; unfold isSg at this; omega)]
                  rw [if_pos (bI_f h149)]
                  exact Or.inl ⟨_, rfl, rfl⟩)
              · refine LI2 e91_107 ?_
                refine Cs1 e91_108 c91_96 (Nat.le_of_ble_eq_true rfl) (Nat.le_of_ble_eq_true rfl) (t_fault) ?_
                exact Ri e91_111 rt91 (by
                refine ⟨⟨(FrT.up FrT.rf (by decide)), by rw [amU_ni (by decide)], ?_⟩, rfl, rfl⟩
                unfold figS
                rw [if_neg (fun z => z h9), if_neg (fun z => z (bI_t h25)), if_neg (fun z => z.2 (bI_t h92)), if_pos h104]
                exact Or.inl ⟨_, rfl, rfl⟩)
            · refine LI2 e91_95 ?_
              exact Ri e91_96 rt91 (by
              refine ⟨⟨(FrT.up FrT.rf (by decide)), by rw [amU_ni (by decide)], ?_⟩, rfl, rfl⟩
              unfold figS
              rw [if_neg (fun z => z h9), if_neg (fun z => z (bI_t h25)), if_pos ⟨by unfold isSg; omega, bI_f h92⟩]
              exact Or.inr ⟨_, _, _, rfl, rfl, by rw [amU_same], fun z => (z.elim (fun y => by unfold isSg at y; omega) (fun y => bI_f h92 y)).elim⟩)
          · refine Ki e91_75 kiconst_1 ?_
            refine Go e91_76 t91_76 ?_
            refine SI3 e91_80 rfl ?_
            refine LI3 e91_81 ?_
            refine B_ne e91_82 t91_82 (fun _ => ?_) (fun q => absurd (by decide) q)
            refine LA0 e91_97 ?_
            refine LI2 e91_98 ?_
            refine Cv1 e91_99 c91_94 (o143 L) (Nat.le_of_ble_eq_true rfl) (Nat.le_of_ble_eq_true rfl) ((tq_at hR (hT.fr (FrT.up FrT.rf (by decide))) (by omega))) ?_
            refine Ki e91_102 kbipush_32 ?_
            refine C_eq e91_104 t91_104 (fun h104 => ?_) (fun h104 => ?_)
            · refine IncN2 (m := ((b + 1) + 1)) e91_112 rfl ?_
              refine LI3 e91_115 ?_
              refine B_eq e91_116 t91_116 (fun q => absurd q (by decide)) (fun _ => ?_)
              refine LA0 e91_119 ?_
              refine LI2 e91_120 ?_
              refine Cv1 e91_121 c91_94 (o143 L) (Nat.le_of_ble_eq_true rfl) (Nat.le_of_ble_eq_true rfl) ((tq_at hR (hT.fr (FrT.up FrT.rf (by decide))) (by omega))) ?_
              refine Ki e91_124 kbipush_45 ?_
              refine C_ne e91_126 t91_126 (fun h126 => ?_) (fun h126 => ?_)
              · refine Ki e91_133 kiconst_0 ?_
                refine SI4 e91_134 rfl ?_
                refine LI4 e91_136 ?_
                refine B_eq e91_138 t91_138 (fun _ => ?_) (fun q => absurd (rfl) q)
                refine LA0 e91_144 ?_
                refine LI2 e91_145 ?_
                refine Cv1 e91_146 c91_95 (o143 L) (Nat.le_of_ble_eq_true rfl) (Nat.le_of_ble_eq_true rfl) ((t_isFig hR (hT.fr (FrT.up FrT.rf (by decide))) (by omega))) ?_
                refine B_ne e91_149 t91_149 (fun h149 => ?_) (fun h149 => ?_)
                · refine LA0 e91_157 ?_
                  refine LI4 e91_158 ?_
                  refine B_eq e91_160 t91_160 (fun _ => ?_) (fun q => absurd (rfl) q)
                  refine LA0 e91_174 ?_
                  refine LI2 e91_175 ?_
                  refine Cv1 e91_176 c91_94 (o143 L) (Nat.le_of_ble_eq_true rfl) (Nat.le_of_ble_eq_true rfl) ((tq_at hR (hT.fr (FrT.up FrT.rf (by decide))) (by omega))) ?_
                  refine Ki e91_179 kbipush_48 ?_
                  rw [dg_nI (bI_t h149)]
                  refine IsubN (a := (48 + dg (T (((b + 1) + 1) + 1)))) (b := 48) e91_181 rfl (by decide) (by omega) ?_
                  rw [Nat.add_sub_cancel_left]
                  refine Pi e91_182 (o143 L) f645 ?_
                  refine LI2 e91_185 ?_
                  refine Ki e91_186 kiconst_1 ?_
                  refine IaddN (a := (((b + 1) + 1) + 1)) (b := 1) e91_187 rfl (by decide) ?_
                  exact Ri e91_188 rt91 (by
                  refine ⟨⟨(FrT.up (FrT.up FrT.rf (by decide)) (by decide)), by rw [amU_ni (by decide), amU_ni (by decide)], ?_⟩, rfl, rfl⟩
                  unfold figS
                  rw [if_neg (fun z => z h9), if_neg (fun z => z (bI_t h25)), if_neg (fun z => z.1 (by unfold isSg; omega)), if_neg (fun z => z h104), if_neg (fun z => h126 z.2)]
                  rw [if_neg (fun z => z (bI_t h149))]
                  exact Or.inr ⟨_, _, _, rfl, rfl, by rw [amU_ni (by decide), amU_same], fun _ => by rw [amU_same]⟩)
                · refine LI2 e91_152 ?_
                  refine Cs1 e91_153 c91_96 (Nat.le_of_ble_eq_true rfl) (Nat.le_of_ble_eq_true rfl) (t_fault) ?_
                  exact Ri e91_156 rt91 (by
                  refine ⟨⟨(FrT.up FrT.rf (by decide)), by rw [amU_ni (by decide)], ?_⟩, rfl, rfl⟩
                  unfold figS
                  rw [if_neg (fun z => z h9), if_neg (fun z => z (bI_t h25)), if_neg (fun z => z.1 (by unfold isSg; omega)), if_neg (fun z => z h104), if_neg (fun z => h126 z.2)]
                  rw [if_pos (bI_f h149)]
                  exact Or.inl ⟨_, rfl, rfl⟩)
              · refine Ki e91_129 kiconst_1 ?_
                refine Go e91_130 t91_130 ?_
                refine SI4 e91_134 rfl ?_
                refine LI4 e91_136 ?_
                refine B_eq e91_138 t91_138 (fun q => absurd q (by decide)) (fun _ => ?_)
                refine IncN2 (m := (((b + 1) + 1) + 1)) e91_141 rfl ?_
                refine LA0 e91_144 ?_
                refine LI2 e91_145 ?_
                refine Cv1 e91_146 c91_95 (o143 L) (Nat.le_of_ble_eq_true rfl) (Nat.le_of_ble_eq_true rfl) ((t_isFig hR (hT.fr (FrT.up FrT.rf (by decide))) (by omega))) ?_
                refine B_ne e91_149 t91_149 (fun h149 => ?_) (fun h149 => ?_)
                · refine LA0 e91_157 ?_
                  refine LI4 e91_158 ?_
                  refine B_eq e91_160 t91_160 (fun q => absurd q (by decide)) (fun _ => ?_)
                  refine Ki e91_163 kbipush_48 ?_
                  refine LA0 e91_165 ?_
                  refine LI2 e91_166 ?_
                  refine Cv1 e91_167 c91_94 (o143 L) (Nat.le_of_ble_eq_true rfl) (Nat.le_of_ble_eq_true rfl) ((tq_at hR (hT.fr (FrT.up FrT.rf (by decide))) (by omega))) ?_
                  rw [dg_nI (bI_t h149)]
                  refine Isub e91_170 ?_
                  refine Go e91_171 t91_171 ?_
                  rw [sub48 _ (by have := dg_le (bI_t h149); omega)]
                  refine Pi e91_182 (o143 L) f645 ?_
                  refine LI2 e91_185 ?_
                  refine Ki e91_186 kiconst_1 ?_
                  refine IaddN (a := ((((b + 1) + 1) + 1) + 1)) (b := 1) e91_187 rfl (by decide) ?_
                  exact Ri e91_188 rt91 (by
                  refine ⟨⟨(FrT.up (FrT.up FrT.rf (by decide)) (by decide)), by rw [amU_ni (by decide), amU_ni (by decide)], ?_⟩, rfl, rfl⟩
                  unfold figS
                  rw [if_neg (fun z => z h9), if_neg (fun z => z (bI_t h25)), if_neg (fun z => z.1 (by unfold isSg; omega)), if_neg (fun z => z h104), if_pos ⟨by unfold isSg; omega, Decidable.not_not.mp h126⟩]
                  rw [if_neg (fun z => z (bI_t h149))]
                  exact Or.inr ⟨_, _, _, rfl, rfl, by rw [amU_ni (by decide), amU_same], fun _ => by rw [amU_same]⟩)
                · refine LI2 e91_152 ?_
                  refine Cs1 e91_153 c91_96 (Nat.le_of_ble_eq_true rfl) (Nat.le_of_ble_eq_true rfl) (t_fault) ?_
                  exact Ri e91_156 rt91 (by
                  refine ⟨⟨(FrT.up FrT.rf (by decide)), by rw [amU_ni (by decide)], ?_⟩, rfl, rfl⟩
                  unfold figS
                  rw [if_neg (fun z => z h9), if_neg (fun z => z (bI_t h25)), if_neg (fun z => z.1 (by unfold isSg; omega)), if_neg (fun z => z h104), if_pos ⟨by unfold isSg; omega, Decidable.not_not.mp h126⟩]
                  rw [if_pos (bI_f h149)]
                  exact Or.inl ⟨_, rfl, rfl⟩)
            · refine LI2 e91_107 ?_
              refine Cs1 e91_108 c91_96 (Nat.le_of_ble_eq_true rfl) (Nat.le_of_ble_eq_true rfl) (t_fault) ?_
              exact Ri e91_111 rt91 (by
              refine ⟨⟨(FrT.up FrT.rf (by decide)), by rw [amU_ni (by decide)], ?_⟩, rfl, rfl⟩
              unfold figS
              rw [if_neg (fun z => z h9), if_neg (fun z => z (bI_t h25)), if_neg (fun z => z.1 (by unfold isSg; omega)), if_pos h104]
              exact Or.inl ⟨_, rfl, rfl⟩)
    · refine LI2 e91_28 ?_
      refine Cs1 e91_29 c91_96 (Nat.le_of_ble_eq_true rfl) (Nat.le_of_ble_eq_true rfl) (t_fault) ?_
      exact Ri e91_32 rt91 (by
      refine ⟨⟨FrT.rf, rfl, ?_⟩, rfl, rfl⟩
      unfold figS
      rw [if_neg (fun z => z h9), if_pos (bI_f h25)]
      exact Or.inl ⟨_, rfl, rfl⟩)
  · refine LI2 e91_12 ?_
    refine Cs1 e91_13 c91_96 (Nat.le_of_ble_eq_true rfl) (Nat.le_of_ble_eq_true rfl) (t_fault) ?_
    exact Ri e91_16 rt91 (by
    refine ⟨⟨FrT.rf, rfl, ?_⟩, rfl, rfl⟩
    unfold figS
    rw [if_pos h9]
    exact Or.inl ⟨_, rfl, rfl⟩)
/-- the letters from k on end there -/
def ltN (T : Nat → Int32) : Nat → Nat → Nat
  | 0, k => k
  | f + 1, k => if 97 ≤ (T k).toInt ∧ (T k).toInt ≤ 122 then ltN T f (k + 1) else k
theorem ltN_n {T : Nat → Int32} {n : Nat} (hz : ∀ k, n ≤ k → T k = 0) : ∀ {f k : Nat}, k ≤ n → k ≤ ltN T f k ∧ ltN T f k ≤ n
  | 0, k, h => ⟨Nat.le_refl _, h⟩
  | f + 1, k, h => by
    unfold ltN
    split
    · rename_i g
      have hk : k < n := T_lt hz (fun z => by rw [z] at g; exact absurd g.1 (by decide))
      have h2 := ltN_n hz (f := f) (k := k + 1) hk
      exact ⟨by omega, h2.2⟩
    · exact ⟨Nat.le_refl _, h⟩
/-- a STATEMENT: the fault's place, or the place behind it and a polynomial told, or a word and its figures -/
def stmS (T : Nat → Int32) (b : Nat) : Nat ⊕ (Nat × (Po ⊕ (Nat × Nat × Int32))) :=
  if T b = 61 then (match txtS T (b + 1) with
    | .inl e => .inl e
    | .inr (k, p) => .inr (k, .inl p))
  else match wrdS T b (ltN T 121 b) with
    | none => .inl b
    | some t => match figS T t (ltN T 121 b) with
      | .inl e => .inl e
      | .inr (k, i, s) => .inr (k, .inr (t, i, s))
theorem stmS_n {T : Nat → Int32} {n b : Nat} (hz : ∀ k, n ≤ k → T k = 0) (hb : b ≤ n) : (∀ e, stmS T b = .inl e → e ≤ n) ∧ ∀ k o, stmS T b = .inr (k, o) → k ≤ n ∧ b < k := by
  have hl := ltN_n hz (f := 121) hb
  unfold stmS
  split
  · rename_i g
    have hk : b < n := T_lt hz (fun z => by rw [z] at g; exact absurd g (by decide))
    have h := txtS_n hz (b := b + 1) hk
    cases hE : txtS T (b + 1) with
    | inl e => exact ⟨fun e' h' => (by cases h'; exact h.1 e hE), fun k o h' => (by cases h')⟩
    | inr x =>
      obtain ⟨k, p⟩ := x
      have := h.2 k p hE
      exact ⟨fun e' h' => (by cases h'), fun k' o h' => (by cases h'; omega)⟩
  · cases hW : wrdS T b (ltN T 121 b) with
    | none => exact ⟨fun e' h' => (by cases h'; exact hb), fun k o h' => (by cases h')⟩
    | some t =>
      have h := figS_n hz (t := t) hl.2
      dsimp only
      cases hE : figS T t (ltN T 121 b) with
      | inl e => exact ⟨fun e' h' => (by cases h'; exact h.1 e hE), fun k o h' => (by cases h')⟩
      | inr x =>
        obtain ⟨k, i, s⟩ := x
        have := h.2 k i s hE
        exact ⟨fun e' h' => (by cases h'), fun k' o h' => (by cases h'; omega)⟩
/-- what statement() answers and leaves -/
def StP (I : amI) (J : amJ) (R : amR) (o : Nat ⊕ (Nat × (Po ⊕ (Nat × Nat × Int32)))) (v : Option Value) (I' : amI) (J' : amJ) (R' : amR) : Prop := FrT I I' ∧ R' = R ∧ Fr J J' 146 ∧ ((∃ e, o = .inl e ∧ v = some (.int (fI e))) ∨ (∃ k p, o = .inr (k, .inl p) ∧ v = some (.int (nI k)) ∧ I' 143 3 = 12 ∧ JP J' 146 p) ∨ (∃ k t i s, o = .inr (k, .inr (t, i, s)) ∧ t < 12 ∧ v = some (.int (nI k)) ∧ I' 143 3 = nI t ∧ I' 143 4 = nI i ∧ (isSg t ∨ isTw (nI t) → I' 143 5 = s)))
set_option maxHeartbeats 2000000 in
theorem t_letters (hR : amRok R) (hT : TT I T n) : ∀ (f k : Nat), n - k < f → k ≤ n → Ex 88 60 [some (.ref 143), some (.int (nI b)), some (.int (nI (ltN T f k)))] [] (amSH L) I J R Q → Ex 88 26 [some (.ref 143), some (.int (nI b)), some (.int (nI k))] [] (amSH L) I J R Q := by
  intro f
  have hn := hT.2.1
  induction f with
  | zero => intro k h; omega
  | succ f ih =>
    intro k h hk hQ
    rw [ltN] at hQ
    refine LI2 e88_26 ?_
    refine LA0 e88_27 ?_
    refine Gi e88_28 (o143 L) (amGi_of f641 (by decide)) ?_
    rw [hT.1]
    refine CN_ge (a := k) (b := n) e88_31 t88_31 rfl rfl (by omega) (by omega) (fun h31 => ?_) (fun h31 => ?_)
    · rw [if_neg (fun z => by first | (have := hT.2.2.2 k (by omega); rw [this] at z; exact absurd z.1 (by decide)) | (simp only [i32lt, i32le, show (97 : Int32).toInt = 97 from rfl, show (122 : Int32).toInt = 122 from rfl] at *; omega))] at hQ
      exact hQ
    · refine LA0 e88_34 ?_
      refine LI2 e88_35 ?_
      refine Cv1 e88_36 c88_94 (o143 L) (Nat.le_of_ble_eq_true rfl) (Nat.le_of_ble_eq_true rfl) ((tq_at hR hT (by omega))) ?_
      refine Ki e88_39 kbipush_97 ?_
      refine C_lt e88_41 t88_41 (fun h41 => ?_) (fun h41 => ?_)
      · rw [if_neg (fun z => by first | (have := hT.2.2.2 k (by omega); rw [this] at z; exact absurd z.1 (by decide)) | (simp only [i32lt, i32le, show (97 : Int32).toInt = 97 from rfl, show (122 : Int32).toInt = 122 from rfl] at *; omega))] at hQ
        exact hQ
      · refine LA0 e88_44 ?_
        refine LI2 e88_45 ?_
        refine Cv1 e88_46 c88_94 (o143 L) (Nat.le_of_ble_eq_true rfl) (Nat.le_of_ble_eq_true rfl) ((tq_at hR hT (by omega))) ?_
        refine Ki e88_49 kbipush_122 ?_
        refine C_gt e88_51 t88_51 (fun h51 => ?_) (fun h51 => ?_)
        · rw [if_neg (fun z => by first | (have := hT.2.2.2 k (by omega); rw [this] at z; exact absurd z.1 (by decide)) | (simp only [i32lt, i32le, show (97 : Int32).toInt = 97 from rfl, show (122 : Int32).toInt = 122 from rfl] at *; omega))] at hQ
          exact hQ
        · refine IncN2 (m := k) e88_54 rfl ?_
          refine Go e88_57 t88_57 ?_
          rw [if_pos (by simp only [i32lt, i32le, show (97 : Int32).toInt = 97 from rfl, show (122 : Int32).toInt = 122 from rfl] at *; omega)] at hQ
          exact ih (k + 1) (by omega) (by omega) hQ
theorem wdI_neg {o : Option Nat} (ho : ∀ t, o = some t → t < 12) : 0 ≤ wdI o ↔ o ≠ none := by
  cases o with
  | none => exact ⟨fun h => absurd h (by decide), fun h => absurd rfl h⟩
  | some t =>
    have := ho t rfl
    exact ⟨fun _ => by simp, fun _ => nI_nn (by omega)⟩
set_option maxHeartbeats 2000000 in
theorem t_statement (hR : amRok R) (hT : TT I T n) (hb : b ≤ n) : Cl 88 [.ref 143, .int (nI b)] (amSH L) I J R (fun v I' J' R' => StP I J R (stmS T b) v I' J' R') := by
  have hn := hT.2.1
  have hz := hT.2.2.2
  have hl := ltN_n hz (f := 121) hb
  have h12 : ∀ t, wrdS T b (ltN T 121 b) = some t → t < 12 := fun t h => by have := wdN_lt h; omega
  unfold stmS
  show Ex 88 0 [some (.ref 143), some (.int (nI b)), none] [] (amSH L) I J R _
  refine LA0 e88_0 ?_
  refine LI1 e88_1 ?_
  refine Cv1 e88_2 c88_94 (o143 L) (Nat.le_of_ble_eq_true rfl) (Nat.le_of_ble_eq_true rfl) ((tq_at hR hT (by omega))) ?_
  refine Ki e88_5 kbipush_61 ?_
  refine C_ne e88_7 t88_7 (fun h7 => ?_) (fun h7 => ?_)
  · refine LI1 e88_24 ?_
    refine SI2 e88_25 rfl ?_
    rw [if_neg h7]
    refine t_letters hR hT 121 b (by omega) hb ?_
    refine LA0 e88_60 ?_
    refine LA0 e88_61 ?_
    refine LI1 e88_62 ?_
    refine LI2 e88_63 ?_
    refine Cv2 e88_64 c88_89 (o143 L) (Nat.le_of_ble_eq_true rfl) (Nat.le_of_ble_eq_true rfl) ((t_between hR hT (by omega) (by omega) (by omega))) ?_
    refine Pi e88_67 (o143 L) f643 ?_
    cases hW : wrdS T b (ltN T 121 b) with
    | none =>
      refine LA0 e88_70 ?_
      refine Gi e88_71 (o143 L) (amGi_of f643 (by decide)) ?_
      rw [amU_same]
      refine B_ge e88_74 t88_74 (fun q => absurd q (fun q => absurd q (by decide))) (fun _ => ?_)
      refine LI1 e88_77 ?_
      refine Cs1 e88_78 c88_96 (Nat.le_of_ble_eq_true rfl) (Nat.le_of_ble_eq_true rfl) (t_fault) ?_
      refine Go e88_81 t88_81 ?_
      exact Ri e88_89 rt88 (⟨FrT.up FrT.rf (by decide), rfl, Fr.rf, Or.inl ⟨b, rfl, rfl⟩⟩)
    | some t =>
      dsimp only
      refine LA0 e88_70 ?_
      refine Gi e88_71 (o143 L) (amGi_of f643 (by decide)) ?_
      rw [amU_same]
      refine B_ge e88_74 t88_74 (fun _ => ?_) (fun q => absurd ((wdI_neg (fun u hu => by cases hu; exact h12 _ hW)).mpr (by simp)) q)
      refine LA0 e88_84 ?_
      refine LI2 e88_85 ?_
      refine Cv1p e88_86 c88_91 (o143 L) (Nat.le_of_ble_eq_true rfl) (Nat.le_of_ble_eq_true rfl) (t_figures hR (hT.fr (FrT.up FrT.rf (by decide))) (by omega) (h12 t hW) amU_same) ?_
      rintro v I1 J1 R1 ⟨⟨hF, h3, hD⟩, hJ1, hR1⟩
      subst hJ1
      subst hR1
      have hFF := FrT.tr (FrT.up FrT.rf (by decide)) hF
      rw [amU_same] at h3
      rcases hD with ⟨e, hE, rfl⟩ | ⟨k, i, s, hE, rfl, h4, h5⟩
      · rw [hE]
        exact Ri e88_89 rt88 (⟨hFF, rfl, Fr.rf, Or.inl ⟨e, rfl, rfl⟩⟩)
      · rw [hE]
        exact Ri e88_89 rt88 (⟨hFF, rfl, Fr.rf, Or.inr (Or.inr ⟨k, t, i, s, rfl, h12 t hW, rfl, h3, h4, h5⟩)⟩)
  · refine LA0 e88_10 ?_
    refine Ki e88_11 kbipush_12 ?_
    refine Pi e88_13 (o143 L) f643 ?_
    refine LA0 e88_16 ?_
    refine LI1 e88_17 ?_
    refine Ki e88_18 kiconst_1 ?_
    refine IaddN (a := b) (b := 1) e88_19 rfl (by decide) ?_
    refine Cv1p e88_20 c88_92 (o143 L) (Nat.le_of_ble_eq_true rfl) (Nat.le_of_ble_eq_true rfl) (t_text hR (hT.fr (FrT.up FrT.rf (by decide))) (T_lt hz (fun z => h7 (fun y => by rw [z] at y; exact absurd y (by decide))))) ?_
    rintro v I1 J1 R1 ⟨hF, h3, hR1, hF1, hD⟩
    subst hR1
    rw [if_pos (Decidable.not_not.mp h7)]
    have hFF := FrT.tr (FrT.up FrT.rf (by decide)) hF
    rw [amU_same] at h3
    rcases hD with ⟨e, hE, rfl⟩ | ⟨k, q, hE, rfl, hP⟩
    · rw [hE]
      exact Ri e88_23 rt88 (⟨hFF, rfl, hF1, Or.inl ⟨e, rfl, rfl⟩⟩)
    · rw [hE]
      exact Ri e88_23 rt88 (⟨hFF, rfl, hF1, Or.inr (Or.inl ⟨k, q, rfl, rfl, h3, hP⟩)⟩)
end FIGS
