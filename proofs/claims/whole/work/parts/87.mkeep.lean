/-! the reference: keepsFence (printed by wip/whole/t87.py) -/
section REF21
variable {L : Nat} {I : amI} {J : amJ} {R : amR} {Q : amQ}
set_option maxHeartbeats 2000000 in
theorem m_keeps {u v t s : Int64} (h1 : J 152 18 = u) (h2 : J 152 19 = v) (h3 : J 152 20 = t) (h4 : J 152 21 = s) : Cl 207 [.ref 152] (amSH L) I J R (fun x I' J' R' => x = none ∧ I' = I ∧ R' = R ∧ (∀ y, y ≠ 152 → J' y = J y) ∧ (∀ i, i < 25 → J' 152 i = J 152 i) ∧ J' 152 25 = u ∧ J' 152 26 = v ∧ J' 152 27 = t ∧ J' 152 28 = s) := by
  show Ex 207 0 [some (.ref 152)] [] (amSH L) I J R _
  refine LA0 e207_0 ?_
  refine LA0 e207_1 ?_
  refine Gj e207_2 (o152 L) f786 ?_
  rw [h1]
  refine Pj e207_5 (o152 L) f793 ?_
  refine LA0 e207_8 ?_
  refine LA0 e207_9 ?_
  refine Gj e207_10 (o152 L) f787 ?_
  rw [amU_ni (by decide), h2]
  refine Pj e207_13 (o152 L) f794 ?_
  refine LA0 e207_16 ?_
  refine LA0 e207_17 ?_
  refine Gj e207_18 (o152 L) f788 ?_
  rw [amU_ni (by decide), amU_ni (by decide), h3]
  refine Pj e207_21 (o152 L) f795 ?_
  refine LA0 e207_24 ?_
  refine LA0 e207_25 ?_
  refine Gj e207_26 (o152 L) f789 ?_
  rw [amU_ni (by decide), amU_ni (by decide), amU_ni (by decide), h4]
  refine Pj e207_29 (o152 L) f796 ?_
  exact Rvd e207_32 rt207 (by
  refine ⟨rfl, rfl, rfl, fun y hy => by funext i; rw [amU_ne hy, amU_ne hy, amU_ne hy, amU_ne hy], fun i hi => by rw [amU_ni (by omega), amU_ni (by omega), amU_ni (by omega), amU_ni (by omega)], ?_, ?_, ?_, amU_same⟩
  · rw [amU_ni (by decide), amU_ni (by decide), amU_ni (by decide), amU_same]
  · rw [amU_ni (by decide), amU_ni (by decide), amU_same]
  · rw [amU_ni (by decide), amU_same])
end REF21
