/-! the start: what the tables say of the classes, the arrays, the constants -/
def hs_ps : List (List Nat) := [[1118, 1120, 1122, 1124, 1126, 1128], [1066, 1068, 1070], [1142, 1144, 1146, 1148, 1150], [1164, 1166, 1168, 1170, 1172], [1099, 1101], [1218, 1220], [1084, 1086, 1088], [1042], [1231, 1233], [1048, 1050], [1192, 1194, 1196, 1198, 1200, 1202, 1204, 1206], [2012, 2014, 2016, 2018, 2020, 2022, 2024, 2026, 2028, 2030, 2032, 2034, 2036, 2038, 2040, 2042], [5064, 5066, 5068, 5070, 5072, 5074, 5076, 5078, 5080, 5082, 5084, 5086, 5088, 5090, 5092, 5094, 5096, 5098, 5100, 5102, 5104, 5106, 5108, 5110, 5112, 5114, 5116, 5118, 5120, 5122, 5124, 5126, 5128, 5130, 5132, 5134, 5136, 5138, 5140, 5142, 5144, 5146, 5148, 5150, 5152, 5154, 5156, 5158, 5160]]
def hs_in : List Nat := [1105, 1056, 1132, 1154, 1092, 1211, 1074, 1036, 1224, 1029, 1177, 1021, 5009]
def hs_np : List Nat := [1054, 1057, 1133, 1155, 1178, 1212, 1111, 1062, 3131, 3124, 3229, 1080, 1037, 1183, 4119]
theorem hs_lay : ∀ c, c < 13 → ∀ k, k < (amCd c).2.2 → amW ((hs_ps.getD c []).getD k 0) (u_lay (amCd c).1 (amCd c).2.1 k) = true := by decide +kernel
theorem hs_inst : ∀ c, c < 13 → amW (hs_in.getD c 0) (.instantiable (amCd c).1 (amCd c).2.2) = true := by decide +kernel
theorem hs_fn : ∀ c, c < 13 → (amCd c).2.2 = amFn c := by decide +kernel
theorem hs_parse : ∀ c, c < 13 → ∀ k, k < amFn c → parseFieldDescriptor ((amCd c).2.1 k).2.2.1 = some (amTy c k) := by decide +kernel
theorem hs_names : ∀ c, c < 13 → ∀ a, a < amFn c → ∀ b, b < amFn c → a ≠ b → ((amCd c).2.1 a).2.1 ≠ ((amCd c).2.1 b).2.1 := by decide +kernel
theorem hs_kinds : ∀ c, c < 13 → ∀ k, k < amFn c → amFtOk (amFk c k) (amTy c k) = true := by decide +kernel
theorem hs_at {c : Nat} (h : c < 13) : amCl[c]? = some (amCd c) := by
  unfold amCd
  rw [List.getD_eq_getElem?_getD, List.getElem?_eq_getElem (show c < amCl.length from h)]
  rfl
theorem hs_lays {c : Nat} (h : c < 13) : ∀ w ∈ u_ws (amCd c).1 (amCd c).2.1 (amCd c).2.2, w ∈ amWd := by
  intro w hw
  obtain ⟨k, hk, rfl⟩ := List.mem_map.mp hw
  exact amW_spec (hs_lay c h k (List.mem_range.mp hk))
theorem hs_cl : ∀ c, c < 13 → amClP c := fun c h => ⟨hs_lays h, hs_fn c h, hs_parse c h, hs_names c h, hs_at h, hs_kinds c h⟩
theorem hs_max : Cond.code Lib.MathLoose.max_long.x Lib.MathLoose.max_long.code 4 (some .long) ∈ amWd ∧ Cond.static Lib.MathLoose.max_long.x ∈ amWd ∧ Cond.initialized "java/lang/Math" ∈ amWd := ⟨amW_spec (p := 2081) (by decide +kernel), amW_spec (p := 2080) (by decide +kernel), amW_spec (p := 1014) (by decide +kernel)⟩
theorem hs_abs : Cond.code Lib.MathLoose.abs_long.x Lib.MathLoose.abs_long.code 2 (some .long) ∈ amWd ∧ Cond.static Lib.MathLoose.abs_long.x ∈ amWd ∧ Cond.initialized "java/lang/Math" ∈ amWd := ⟨amW_spec (p := 2078) (by decide +kernel), amW_spec (p := 2077) (by decide +kernel), amW_spec (p := 1014) (by decide +kernel)⟩
theorem hs_nest0 : ∀ i, i < amNest.length → (amTk (hs_np.getD i 0 / 1000))[hs_np.getD i 0 % 1000]? = some (Cond.methodLinkNest (amNest.getD i ("", 0, yL_law)).1 (amNest.getD i ("", 0, yL_law)).2.1 (amNest.getD i ("", 0, yL_law)).2.2 "RootFence") := by decide +kernel
theorem hs_nest {q : String × Nat × MethodName} (h : q ∈ amNest) : Cond.methodLinkNest q.1 q.2.1 q.2.2 "RootFence" ∈ lw_tbl := by
  obtain ⟨i, hi, rfl⟩ := List.mem_iff_getElem.mp h
  have h1 := hs_nest0 i hi
  rw [show amNest.getD i ("", 0, yL_law) = amNest[i] from by rw [List.getD_eq_getElem?_getD, List.getElem?_eq_getElem hi]; rfl] at h1
  exact amTk_in _ (List.mem_of_getElem? h1)
theorem hs_T {p : Nat} {w : Cond} (h : (amTk (p / 1000))[p % 1000]? = some w) : w ∈ lw_tbl := amTk_in _ (List.mem_of_getElem? h)
theorem hs_ac0 : Cond.arrayClass .int ∈ amWd := amW_spec (p := 1175) (by decide +kernel)
theorem hs_ac1 : Cond.arrayClass .long ∈ amWd := amW_spec (p := 1045) (by decide +kernel)
theorem hs_ac2 : Cond.arrayClass .byte ∈ amWd := amW_spec (p := 1209) (by decide +kernel)
theorem hs_ao3 : Cond.arrayOver (.object "RootFence$Poly") ∈ lw_tbl := hs_T (p := 1035) (by decide +kernel)
theorem hs_ao4 : Cond.arrayOver (.array .long) ∈ lw_tbl := hs_T (p := 5015) (by decide +kernel)
theorem hs_sref0 : ∀ i, i < 12 → (amTk ((4055 + i) / 1000))[(4055 + i) % 1000]? = some (.stringRef (amSc.getD i amS1).1 (amSc.getD i amS1).2.1 (amSc.getD i amS1).2.2) := by decide +kernel
theorem hs_lay1 : Cond.laysStatic "java/lang/String" "COMPACT_STRINGS" "Z" ∈ lw_tbl := hs_T (p := 4076) (by decide +kernel)
theorem hs_lay2 : Cond.laysStatic "jdk/internal/util/Preconditions" "SIOOBE_FORMATTER" "Ljava/util/function/BiFunction;" ∈ lw_tbl := hs_T (p := 4092) (by decide +kernel)
theorem hs_arr {s : State} {ty : FieldType} {cI comp : ClassId} {k : Class} (h1 : s.vm.classes[cI]? = some k) (h2 : k.kind = .array comp ty) : ArrOfT s cI ty := fun n z => ⟨fun x => by simp [arrV], k, h1, comp, h2⟩
/-- the strings of the constants -/
def hs_tm (i : Nat) : Term := Term.string (amSc.getD i amS1).1 (amSc.getD i amS1).2.1
def hs_gv : List Cond := flatC (Jvm.Cond.and given_1 narrow_1)
theorem hs_g1 : ∀ i, i < 12 → Cond.exactly (hs_tm i) "java/lang/String" ∈ hs_gv := by decide +kernel
theorem hs_g2 : ∀ i, i < 12 → Cond.eq (.field (hs_tm i) "java/lang/String" "coder" "B") (.int 0) ∈ hs_gv := by decide +kernel
theorem hs_g3 : ∀ i, i < 12 → Cond.arrayOf (.field (hs_tm i) "java/lang/String" "value" "[B") .byte ∈ hs_gv := by decide +kernel
theorem hs_g4 : ∀ i, i < 12 → Cond.eq (.length (.field (hs_tm i) "java/lang/String" "value" "[B")) (.int (Int32.ofNat (amSl.getD i 0))) ∈ hs_gv := by decide +kernel
theorem hs_g5 : ∀ i, i < 12 → ∀ j, j < amSl.getD i 0 → Cond.eq (.elem (.field (hs_tm i) "java/lang/String" "value" "[B") (.int (Int32.ofNat j))) (.int ((((List.range 12).map amTx).getD i []).getD j 0)) ∈ hs_gv := by decide +kernel
theorem hs_g6 : ∀ i, i < 12 → ∀ j, j < 12 → i ≠ j → Cond.not (Cond.eq (hs_tm i) (hs_tm j)) ∈ hs_gv ∨ Cond.not (Cond.eq (hs_tm j) (hs_tm i)) ∈ hs_gv := by decide +kernel
theorem hs_g7 : Cond.eq (.static "java/lang/String" "COMPACT_STRINGS" "Z") (.int 1) ∈ hs_gv := by decide +kernel
theorem hs_g8 : Cond.isRef (.static "jdk/internal/util/Preconditions" "SIOOBE_FORMATTER" "Ljava/util/function/BiFunction;") ∈ hs_gv := by decide +kernel
theorem hs_len : ∀ i, i < 12 → amSl.getD i 0 < 2 ^ 31 := by decide +kernel
section HSW
variable {s : State} {args : Array Value}
theorem hs_str (hts : ∀ w ∈ lw_tbl, w.before args s = true) (hgv : ∀ w ∈ hs_gv, w.before args s = true) : ∃ adK adV : Nat → Nat, amPS s.heap.size adK adV s := by
  have hA : ∀ a : Nat, a < s.heap.size → ¬ s.heap.size ≤ a := fun a h => Nat.not_le.mpr h
  obtain ⟨adK, adV, h1, h2⟩ := vk_Sof (args := args) (s := s) (N := 12) (tm := hs_tm) (len := amSl) (byt := (List.range 12).map amTx) (A := fun q => s.heap.size ≤ q) hs_len (fun i hi => hgv _ (hs_g1 i hi)) (fun i hi => hgv _ (hs_g2 i hi)) (fun i hi => hgv _ (hs_g3 i hi)) (fun i hi => hgv _ (hs_g4 i hi)) (fun i hi j hj => hgv _ (hs_g5 i hi j hj)) (fun i j hi hj hij => (hs_g6 i hi j hj hij).imp (hgv _) (hgv _)) hA
  refine ⟨adK, adV, fun i hi => vk_R.of (A := args) (hts _ (hs_T (hs_sref0 i hi))) (h2 i hi), h1, va_Zof (args := args) (hts _ hs_lay1) (hts _ (List.mem_filter.mp jz_ini0).1) (va_eqi (hgv _ hs_g7)) hA, va_Zqof (args := args) (hts _ hs_lay2) (hts _ (List.mem_filter.mp jz_ini3).1) (hgv _ hs_g8) hA⟩
theorem hs_kn (hts0 : ∀ w ∈ lw_tbl, w.before args s = true) : ∃ (dC : Nat → ClassId) (dI : Nat → Nat → Nat) (cA : Nat → ClassId), va_K (dC, dI) amCl (amTys cA) s := by
  have hts : ∀ w ∈ amWd, w.before args s = true := fun w hw => hts0 w (List.mem_filter.mp hw).1
  have h0 : ∀ c, ∃ q : ClassId × (Nat → Nat), c < 13 → u_Kn s (amCd c).1 (amCd c).2.1 (amCd c).2.2 q.1 q.2 := by
    intro c
    by_cases h : c < 13
    · obtain ⟨cC, iS, hk⟩ := u_known (args := args) (ws := amWd) hts (hs_lays h) (hts _ (amW_spec (hs_inst c h)))
      exact ⟨(cC, iS), fun _ => hk⟩
    · exact ⟨(0, fun _ => 0), fun q => absurd q h⟩
  obtain ⟨dd, hdd⟩ : ∃ dd : Nat → ClassId × (Nat → Nat), ∀ c, c < 13 → u_Kn s (amCd c).1 (amCd c).2.1 (amCd c).2.2 (dd c).1 (dd c).2 := ⟨fun c => Classical.choose (h0 c), fun c => Classical.choose_spec (h0 c)⟩
  obtain ⟨c0, k0, p0, a1, a2, a3⟩ := Cond.arrayClass_spec (hts _ hs_ac0)
  obtain ⟨c1, k1, p1, b1, b2, b3⟩ := Cond.arrayClass_spec (hts _ hs_ac1)
  obtain ⟨c2, k2, p2, d1, d2, d3⟩ := Cond.arrayClass_spec (hts _ hs_ac2)
  obtain ⟨p3, c3, k3, e1, -, e3, e4, e5⟩ := Cond.arrayOver_spec (hts0 _ hs_ao3)
  obtain ⟨p4, c4, k4, f1, -, f3, f4, f5⟩ := arrayOverA_spec (hts0 _ hs_ao4)
  refine ⟨fun c => (dd c).1, fun c => (dd c).2, fun t => match t with | 0 => c0 | 1 => c1 | 2 => c2 | 3 => c3 | _ => c4, fun c q hq => ?_, fun k q hq => ?_⟩
  · have hc : c < 13 := (List.getElem?_eq_some_iff.mp hq).1
    rw [hs_at hc] at hq
    cases hq
    exact hdd c hc
  · match k, hq with
    | 0, hq => cases hq; exact ⟨hs_arr a2 a3, a1⟩
    | 1, hq => cases hq; exact ⟨hs_arr b2 b3, b1⟩
    | 2, hq => cases hq; exact ⟨hs_arr d2 d3, d1⟩
    | 3, hq => cases hq; exact ⟨hs_arr e3 e4, k3, p3, e3, e4, e1, e5⟩
    | 4, hq => cases hq; exact ⟨hs_arr f3 f4, f5⟩
    | k + 5, hq => cases hq
theorem hs_wo {b L : Nat} {xs : Nat → Int32} (hts : ∀ w ∈ lw_tbl, w.before args s = true) (hgv : ∀ w ∈ hs_gv, w.before args s = true) (hX : va_X b L xs s s.heap) (hb : b < s.heap.size) : ∃ (adK adV : Nat → Nat) (dC : Nat → ClassId) (dI : Nat → Nat → Nat) (cA : Nat → ClassId), amWo s.heap.size b L xs adK dC dI cA (amPQ s.heap.size adK adV) s := by
  obtain ⟨adK, adV, hp⟩ := hs_str hts hgv
  obtain ⟨dC, dI, cA, hk⟩ := hs_kn hts
  exact ⟨adK, adV, dC, dI, cA, hk, fun q hq => va_Nw.of rfl (hts _ (hs_nest hq)), va_AO.of (hts _ hs_ao3), ⟨hX, hb, Nat.le_refl _⟩, hts _ hs_ao4, hp⟩
end HSW
theorem hs_ret {i : Instr} {st : List Value} (h : amRet i (amRt 0) st = some (some (.int 1))) : i = .ireturn ∧ st = [.int 1] := by
  unfold amRet at h
  split at h
  · split at h
    · rename_i x ert
      cases (show some FieldType.boolean = some FieldType.int from ert)
    · rename_i x ert
      split at h
      · cases h
        exact ⟨rfl, rfl⟩
      · cases h
    · cases h
  · split at h
    · cases h
    · cases h
  · split at h
    · cases h
    · cases h
    · cases h
  · split at h
    · cases h
    · cases h
  · cases h
theorem hs_sv {L : Nat} {xs : Nat → Int32} : amSv L xs (amE L xs st0) := by
  refine ⟨rfl, fun i _ => rfl, fun a ha => ?_⟩
  · have ha : 0 < a := ha
    show (if a = 0 then (.inr (8, L) : amK) else (if a = 0 then .inl 99 else .inr (9, 0))) = .inr (9, 0)
    rw [if_neg (by omega), if_neg (by omega)]
