/-! rows of rows: the heap behind it -/
theorem amNews_at (k : Nat) (a : Nat) : ∀ (N : Nat) (σ : amH), (amNews σ k N).1.2.2 a = (if σ.1.1 < a ∧ a ≤ σ.1.1 + N then .inr (1, k) else σ.1.2.2 a) ∧ (amNews σ k N).2.1 a = (if σ.1.1 < a ∧ a ≤ σ.1.1 + N then fun _ => 0 else σ.2.1 a) ∧
    (amNews σ k N).2.2.1 a = (if σ.1.1 < a ∧ a ≤ σ.1.1 + N then fun _ => 0 else σ.2.2.1 a) ∧ (amNews σ k N).2.2.2 a = (if σ.1.1 < a ∧ a ≤ σ.1.1 + N then fun _ => none else σ.2.2.2 a)
  | 0, σ => by
    have h : ¬ (σ.1.1 < a ∧ a ≤ σ.1.1 + 0) := by omega
    rw [if_neg h, if_neg h, if_neg h, if_neg h]
    exact ⟨rfl, rfl, rfl, rfl⟩
  | N + 1, σ => by
    obtain ⟨h1, h2, h3, h4⟩ := amNews_at k a N σ
    have hn := (amNews_n k N σ).1
    have e1 : (amNews σ k (N + 1)).1.2.2 a = (if a = (amNews σ k N).1.1 + 1 then .inr (1, k) else (amNews σ k N).1.2.2 a) := rfl
    have e2 : (amNews σ k (N + 1)).2.1 a = (if a = (amNews σ k N).1.1 + 1 then fun _ => 0 else (amNews σ k N).2.1 a) := by
      funext i
      show (if a = (amNews σ k N).1.1 + 1 then 0 else (amNews σ k N).2.1 a i) = _
      split <;> rfl
    have e3 : (amNews σ k (N + 1)).2.2.1 a = (if a = (amNews σ k N).1.1 + 1 then fun _ => 0 else (amNews σ k N).2.2.1 a) := by
      funext i
      show (if a = (amNews σ k N).1.1 + 1 then 0 else (amNews σ k N).2.2.1 a i) = _
      split <;> rfl
    have e4 : (amNews σ k (N + 1)).2.2.2 a = (if a = (amNews σ k N).1.1 + 1 then fun _ => none else (amNews σ k N).2.2.2 a) := by
      funext i
      show (if a = (amNews σ k N).1.1 + 1 then none else (amNews σ k N).2.2.2 a i) = _
      split <;> rfl
    rw [e1, e2, e3, e4, h1, h2, h3, h4, hn]
    by_cases q : a = σ.1.1 + N + 1
    · have g : σ.1.1 < a ∧ a ≤ σ.1.1 + (N + 1) := by omega
      rw [if_pos q, if_pos q, if_pos q, if_pos q, if_pos g, if_pos g, if_pos g, if_pos g]
      exact ⟨rfl, rfl, rfl, rfl⟩
    · rw [if_neg q, if_neg q, if_neg q, if_neg q]
      by_cases g : σ.1.1 < a ∧ a ≤ σ.1.1 + N
      · have g2 : σ.1.1 < a ∧ a ≤ σ.1.1 + (N + 1) := by omega
        rw [if_pos g, if_pos g, if_pos g, if_pos g, if_pos g2, if_pos g2, if_pos g2, if_pos g2]
        exact ⟨rfl, rfl, rfl, rfl⟩
      · have g2 : ¬ (σ.1.1 < a ∧ a ≤ σ.1.1 + (N + 1)) := by omega
        rw [if_neg g, if_neg g, if_neg g, if_neg g, if_neg g2, if_neg g2, if_neg g2, if_neg g2]
        exact ⟨rfl, rfl, rfl, rfl⟩
theorem amNews_sv {L : Nat} {xs : Nat → Int32} (k : Nat) : ∀ (N : Nat) (σ : amH), amSv L xs σ → amSv L xs (amNews σ k N)
  | 0, _, h => h
  | N + 1, σ, h => (amNews_sv k N σ h).new
theorem amNew_same (σ : amH) (kd : amK) (q : Nat) {a : Nat} (h : a ≠ σ.1.1 + 1) : (amNew σ kd q).1.2.2 a = σ.1.2.2 a ∧ (amNew σ kd q).2.1 a = σ.2.1 a ∧ (amNew σ kd q).2.2.1 a = σ.2.2.1 a ∧ (amNew σ kd q).2.2.2 a = σ.2.2.2 a := by
  refine ⟨if_neg h, ?_, ?_, ?_⟩
  all_goals (funext i; exact if_neg h)
section AMMU
variable {p : Program} {l : Launch} {e : Env} {R : Room} {s : State} {m : MethodId} {args : Array Value} {below : List Frame} {meth : Method} {c : Code} {H : Heap} {locs : List Loc} {cells slots : Nat} {Q : State → Prop} {cc : ByteArray} {z b L : Nat} {xs : Nat → Int32} {adK adV : Nat → Nat} {dC : Nat → ClassId} {dI : Nat → Nat → Nat} {cA : Nat → ClassId}
theorem mu_rp {σ τ : amH} {H1 : Heap} {N K : Nat} (hRp : amRp z (amAd z b adK) dC dI cA σ H) (hN : N < 100) (hσ : σ.1.1 < 800000)
    (hτ : τ = (let τ := amNews (amNew σ (.inr (4, N)) N) K N; (τ.1, τ.2.1, τ.2.2.1, amZ τ.2.2.2 (σ.1.1 + 1) (fun i => if i < N then some (σ.1.1 + 2 + i) else none))))
    (g1 : H1.size = H.size + 1 + N) (g2 : ∀ x, x < H.size → H1[x]? = H[x]?) (g3 : H1[H.size]? = some (mgO (cA 4) N H.size N)) (g4 : ∀ j, j < N → H1[H.size + 1 + j]? = some (arrV (cA 1) K (fun _ => .long 0))) : amRp z (amAd z b adK) dC dI cA τ H1 := by
  have hz := hRp.1
  have hnn : τ.1.1 = σ.1.1 + 1 + N := by
    rw [hτ]
    show (amNews _ _ _).1.1 = _
    rw [(amNews_n _ _ _).1, amNew_n]
  have hat := fun a => amNews_at K a N (amNew σ (.inr (4, N)) N)
  rw [amNew_n] at hat
  have hR : ∀ a, τ.2.2.2 a = if a = σ.1.1 + 1 then (fun i => if i < N then some (σ.1.1 + 2 + i) else none) else (amNews (amNew σ (.inr (4, N)) N) K N).2.2.2 a := by
    intro a
    rw [hτ]
    funext i
    show (if a = σ.1.1 + 1 then (if i < N then some (σ.1.1 + 2 + i) else none) else (amNews (amNew σ (.inr (4, N)) N) K N).2.2.2 a i) = _
    split <;> rfl
  have hK : τ.1.2.2 = (amNews (amNew σ (.inr (4, N)) N) K N).1.2.2 := by rw [hτ]
  have hI : τ.2.1 = (amNews (amNew σ (.inr (4, N)) N) K N).2.1 := by rw [hτ]
  have hJ : τ.2.2.1 = (amNews (amNew σ (.inr (4, N)) N) K N).2.2.1 := by rw [hτ]
  refine ⟨by rw [g1, hnn]; omega, by omega, fun a a0 a1 => ?_⟩
  rw [hnn] at a1
  obtain ⟨q1, q2, q3, q4⟩ := hat a
  rcases Nat.lt_trichotomy a (σ.1.1 + 1) with h | h | h
  · have hne : ¬ (σ.1.1 + 1 < a ∧ a ≤ σ.1.1 + 1 + N) := by omega
    rw [if_neg hne] at q1 q2 q3 q4
    obtain ⟨s1, s2, s3, s4⟩ := amNew_same σ (.inr (4, N)) N (a := a) (by omega)
    have hc := hRp.2.2 a a0 (by omega)
    exact hc.kept (by rw [hK, q1, s1]) (fun k => by rw [hI, q2, s2]) (fun k => by rw [hJ, q3, s3]) (fun k => by rw [hR, if_neg (by omega), q4, s4]) (g2 _ hc.lt)
  · have hne : ¬ (σ.1.1 + 1 < a ∧ a ≤ σ.1.1 + 1 + N) := by omega
    rw [if_neg hne] at q1
    have e1 : amAd z b adK a = H.size := by rw [amAd_in a0 (by omega), hz]; omega
    unfold amCe
    rw [hK, q1, show (amNew σ (.inr (4, N)) N).1.2.2 a = .inr (4, N) from if_pos h]
    refine ⟨by omega, ?_⟩
    rw [e1, g3]
    refine congrArg some (congrArg (arrV (cA 4) N) (funext fun i => ?_))
    show _ = va_rf ((τ.2.2.2 a i).map (amAd z b adK))
    rw [hR, if_pos h]
    show va_rf (if i < N then _ else _) = va_rf (Option.map _ (if i < N then _ else _))
    by_cases hi : i < N
    · rw [if_pos hi, if_pos hi]
      show va_rf (some _) = va_rf (some _)
      rw [amAd_in (by omega) (by omega), hz]
      congr 2
      omega
    · rw [if_neg hi, if_neg hi]
      rfl
  · have hin : σ.1.1 + 1 < a ∧ a ≤ σ.1.1 + 1 + N := ⟨h, a1⟩
    rw [if_pos hin] at q1 q3
    have e1 : amAd z b adK a = H.size + 1 + (a - (σ.1.1 + 2)) := by rw [amAd_in a0 (by omega), hz]; omega
    unfold amCe
    rw [hK, q1]
    refine ⟨by omega, ?_⟩
    rw [e1, g4 _ (by omega)]
    refine congrArg some (congrArg (arrV (cA 1) K) (funext fun i => ?_))
    show _ = Value.long (τ.2.2.1 a i)
    rw [hJ, q3]
end AMMU
