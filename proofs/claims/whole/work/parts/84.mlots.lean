/-! the reference: draw, lots (printed by wip/whole/t84.py) -/
/-- a number by lot, before m is taken off -/
def drZ (m : Nat) (z : Int32) : Int32 := (z &&& 2147483647) / 65536 - (z &&& 2147483647) / 65536 / nI (2 * m + 1) * nI (2 * m + 1)
theorem drZ_dv {m : Nat} {z : Int32} : drZ m z - nI m = dvZ m z := rfl
theorem b0Z : ∀ m, m ≤ 9 → ¬ nI (2 * m + 1) = 0 := by decide +kernel
section REF19
variable {L : Nat} {I : amI} {J : amJ} {R : amR} {Q : amQ} {a B t : Nat} {q : Po} {ps l : List Po} {σ : PS}
set_option maxHeartbeats 2000000 in
theorem m_draw {m : Nat} {z : Int32} (hm : m ≤ 9) (hz : I 150 46 = z) : Cl 238 [.ref 150, .int (nI (2 * m + 1))] (amSH L) I J R (fun v I' J' R' => v = some (.int (drZ m (nxZ z))) ∧ I' = amU I 150 46 (nxZ z) ∧ J' = J ∧ R' = R) := by
  show Ex 238 0 [some (.ref 150), some (.int (nI (2 * m + 1)))] [] (amSH L) I J R _
  refine LA0 e238_0 ?_
  refine LA0 e238_1 ?_
  refine Gi e238_2 (o150 L) (amGi_of f814 (by decide)) ?_
  rw [hz]
  refine Kw e238_5 ki0 ?_
  refine Imul e238_8 ?_
  refine Ki e238_9 ksipush_12345 ?_
  refine Iadd e238_12 ?_
  rw [show z * 1103515245 + 12345 = nxZ z from rfl]
  refine Pi e238_13 (o150 L) f814 ?_
  refine LA0 e238_16 ?_
  refine Gi e238_17 (o150 L) (amGi_of f814 (by decide)) ?_
  rw [amU_same]
  refine Kw e238_20 ki1 ?_
  refine Iand e238_23 ?_
  refine Kw e238_24 ki2 ?_
  refine Idiv e238_27 (by decide) ?_
  refine LI1 e238_28 ?_
  refine Irem e238_29 (b0Z m hm) ?_
  exact Ri e238_30 rt238 (⟨rfl, rfl, rfl, rfl⟩)
set_option maxHeartbeats 2000000 in
theorem m_lz_in {n d m t : Nat} {z0 acc : Int32} (hR : amRok R) (hd : d ≤ 3) (hm9 : m ≤ 9) : ∀ (f k : Nat) (z : Int32) (p : Po) (I : amI) (J : amJ), k + f = d + 1 → JP J 155 p → I 150 46 = z → (∀ I' J', (∀ y i, ¬ (y = 150 ∧ i = 46) → I' y i = I y i) → Fr J J' 155 → I' 150 46 = (lozP m f k z p).1 → JP J' 155 (lozP m f k z p).2 → Ex 239 101 [some (.ref 150), some (.int (nI n)), some (.int (nI d)), some (.int (nI m)), some (.int z0), some (.int acc), some (.int (nI t)), some (.int (nI (d + 1)))] [] (amSH L) I' J' R Q) → Ex 239 70 [some (.ref 150), some (.int (nI n)), some (.int (nI d)), some (.int (nI m)), some (.int z0), some (.int acc), some (.int (nI t)), some (.int (nI k))] [] (amSH L) I J R Q := by
  intro f
  induction f with
  | zero =>
    intro k z p I J hk hP hz hQ
    have ek : k = d + 1 := by omega
    subst ek
    refine LI7 e239_70 ?_
    refine LI2 e239_72 ?_
    refine CN_gt (a := (d + 1)) (b := d) e239_73 t239_73 rfl rfl (by omega) (by omega) (fun _ => ?_) (fun q => by omega)
    exact hQ I J (fun _ _ _ => rfl) Fr.rf hz hP
  | succ f ih =>
    intro k z p I J hk hP hz hQ
    rw [lozP] at hQ
    refine LI7 e239_70 ?_
    refine LI2 e239_72 ?_
    refine CN_gt (a := k) (b := d) e239_73 t239_73 rfl rfl (by omega) (by omega) (fun q => absurd q (by omega)) (fun _ => ?_)
    refine LA0 e239_76 ?_
    refine Gr e239_77 (o150 L) (hR 150 7 155 rfl) f775 ?_
    refine LI7 e239_80 ?_
    refine LA0 e239_82 ?_
    refine Ki e239_83 kiconst_2 ?_
    refine LI3 e239_84 ?_
    refine ImulN (a := 2) (b := m) e239_85 (by decide) rfl ?_
    refine Ki e239_86 kiconst_1 ?_
    refine IaddN (a := (2 * m)) (b := 1) e239_87 rfl (by decide) ?_
    refine Cv1p e239_88 c239_238 (o150 L) (Nat.le_of_ble_eq_true rfl) (Nat.le_of_ble_eq_true rfl) (m_draw hm9 hz) ?_
    rintro v I1 J1 R1 ⟨rfl, hI1, hJ1, hR1⟩
    subst hI1
    subst hJ1
    subst hR1
    · skip
      refine LI3 e239_91 ?_
      refine Isub e239_92 ?_
      rw [drZ_dv]
      refine I2l e239_93 ?_
      rw [i2l_oI (dvZ m (nxZ z))]
      refine WjN (k := k) e239_94 (o155 L) rfl (by omega) (by decide) ?_
      refine IncN7 (m := k) e239_95 rfl ?_
      refine Go e239_98 t239_98 ?_
      refine ih (k + 1) (nxZ z) (pU p k (dvZ m (nxZ z)).toInt) _ _ (by omega) (JP.st hP) amU_same (fun I' J' g1 g2 g3 g4 => hQ I' J' (fun y i hy => (g1 y i hy).trans (by rw [up_o hy])) (fun y hy => (g2 y hy).trans (by funext i; rw [amU_ne hy])) g3 g4)
end REF19
