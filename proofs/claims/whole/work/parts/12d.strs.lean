/-! the strings' methods of the class library, walked: length, charAt, and what they call; they write nothing -/
theorem dJ0_length_8abf5_0 : decode cJ0_length_8abf5 0 = .ok (.aload_n 0, 1) := by decide +kernel
theorem dJ0_length_8abf5_1 : decode cJ0_length_8abf5 1 = .ok (.getfield 9, 3) := by decide +kernel
theorem dJ0_length_8abf5_4 : decode cJ0_length_8abf5 4 = .ok (.arraylength, 1) := by decide +kernel
theorem dJ0_length_8abf5_5 : decode cJ0_length_8abf5 5 = .ok (.aload_n 0, 1) := by decide +kernel
theorem dJ0_length_8abf5_6 : decode cJ0_length_8abf5 6 = .ok (.invokevirtual 335, 3) := by decide +kernel
theorem dJ0_length_8abf5_9 : decode cJ0_length_8abf5 9 = .ok (.ishr, 1) := by decide +kernel
theorem dJ0_length_8abf5_10 : decode cJ0_length_8abf5 10 = .ok (.ireturn, 1) := by decide +kernel
theorem dJ0_charAt_5068e_0 : decode cJ0_charAt_5068e 0 = .ok (.aload_n 0, 1) := by decide +kernel
theorem dJ0_charAt_5068e_1 : decode cJ0_charAt_5068e 1 = .ok (.invokevirtual 492, 3) := by decide +kernel
theorem dJ0_charAt_5068e_4 : decode cJ0_charAt_5068e 4 = .ok (.ifCond .eq 12, 3) := by decide +kernel
theorem dJ0_charAt_5068e_7 : decode cJ0_charAt_5068e 7 = .ok (.aload_n 0, 1) := by decide +kernel
theorem dJ0_charAt_5068e_8 : decode cJ0_charAt_5068e 8 = .ok (.getfield 9, 3) := by decide +kernel
theorem dJ0_charAt_5068e_11 : decode cJ0_charAt_5068e 11 = .ok (.iload_n 1, 1) := by decide +kernel
theorem dJ0_charAt_5068e_12 : decode cJ0_charAt_5068e 12 = .ok (.invokestatic 495, 3) := by decide +kernel
theorem dJ0_charAt_5068e_15 : decode cJ0_charAt_5068e 15 = .ok (.ireturn, 1) := by decide +kernel
theorem dJ0_coder_7d493_0 : decode cJ0_coder_7d493 0 = .ok (.getstatic 38, 3) := by decide +kernel
theorem dJ0_coder_7d493_3 : decode cJ0_coder_7d493 3 = .ok (.ifCond .eq 10, 3) := by decide +kernel
theorem dJ0_coder_7d493_6 : decode cJ0_coder_7d493 6 = .ok (.aload_n 0, 1) := by decide +kernel
theorem dJ0_coder_7d493_7 : decode cJ0_coder_7d493 7 = .ok (.getfield 15, 3) := by decide +kernel
theorem dJ0_coder_7d493_10 : decode cJ0_coder_7d493 10 = .ok (.goto 4, 3) := by decide +kernel
theorem dJ0_coder_7d493_14 : decode cJ0_coder_7d493 14 = .ok (.ireturn, 1) := by decide +kernel
theorem dJ0_isLatin1_aae02_0 : decode cJ0_isLatin1_aae02 0 = .ok (.getstatic 38, 3) := by decide +kernel
theorem dJ0_isLatin1_aae02_3 : decode cJ0_isLatin1_aae02 3 = .ok (.ifCond .eq 14, 3) := by decide +kernel
theorem dJ0_isLatin1_aae02_6 : decode cJ0_isLatin1_aae02 6 = .ok (.aload_n 0, 1) := by decide +kernel
theorem dJ0_isLatin1_aae02_7 : decode cJ0_isLatin1_aae02 7 = .ok (.getfield 15, 3) := by decide +kernel
theorem dJ0_isLatin1_aae02_10 : decode cJ0_isLatin1_aae02 10 = .ok (.ifCond .ne 7, 3) := by decide +kernel
theorem dJ0_isLatin1_aae02_13 : decode cJ0_isLatin1_aae02 13 = .ok (.iconst 1, 1) := by decide +kernel
theorem dJ0_isLatin1_aae02_14 : decode cJ0_isLatin1_aae02 14 = .ok (.goto 4, 3) := by decide +kernel
theorem dJ0_isLatin1_aae02_18 : decode cJ0_isLatin1_aae02 18 = .ok (.ireturn, 1) := by decide +kernel
theorem dJ0_checkIndex_df160_0 : decode cJ0_checkIndex_df160 0 = .ok (.iload_n 0, 1) := by decide +kernel
theorem dJ0_checkIndex_df160_1 : decode cJ0_checkIndex_df160 1 = .ok (.iload_n 1, 1) := by decide +kernel
theorem dJ0_checkIndex_df160_2 : decode cJ0_checkIndex_df160 2 = .ok (.getstatic 1053, 3) := by decide +kernel
theorem dJ0_checkIndex_df160_5 : decode cJ0_checkIndex_df160 5 = .ok (.invokestatic 1059, 3) := by decide +kernel
theorem dJ0_checkIndex_df160_8 : decode cJ0_checkIndex_df160 8 = .ok (.pop, 1) := by decide +kernel
theorem dJ0_checkIndex_df160_9 : decode cJ0_checkIndex_df160 9 = .ok (.return_, 1) := by decide +kernel
theorem dJ1_charAt_3b067_0 : decode cJ1_charAt_3b067 0 = .ok (.iload_n 1, 1) := by decide +kernel
theorem dJ1_charAt_3b067_1 : decode cJ1_charAt_3b067 1 = .ok (.aload_n 0, 1) := by decide +kernel
theorem dJ1_charAt_3b067_2 : decode cJ1_charAt_3b067 2 = .ok (.arraylength, 1) := by decide +kernel
theorem dJ1_charAt_3b067_3 : decode cJ1_charAt_3b067 3 = .ok (.invokestatic 9, 3) := by decide +kernel
theorem dJ1_charAt_3b067_6 : decode cJ1_charAt_3b067 6 = .ok (.aload_n 0, 1) := by decide +kernel
theorem dJ1_charAt_3b067_7 : decode cJ1_charAt_3b067 7 = .ok (.iload_n 1, 1) := by decide +kernel
theorem dJ1_charAt_3b067_8 : decode cJ1_charAt_3b067 8 = .ok (.baload, 1) := by decide +kernel
theorem dJ1_charAt_3b067_9 : decode cJ1_charAt_3b067 9 = .ok (.sipush 255, 3) := by decide +kernel
theorem dJ1_charAt_3b067_12 : decode cJ1_charAt_3b067 12 = .ok (.iand, 1) := by decide +kernel
theorem dJ1_charAt_3b067_13 : decode cJ1_charAt_3b067 13 = .ok (.i2c, 1) := by decide +kernel
theorem dJ1_charAt_3b067_14 : decode cJ1_charAt_3b067 14 = .ok (.ireturn, 1) := by decide +kernel
theorem dJ3_checkIndex_8e157_0 : decode cJ3_checkIndex_8e157 0 = .ok (.iload_n 0, 1) := by decide +kernel
theorem dJ3_checkIndex_8e157_1 : decode cJ3_checkIndex_8e157 1 = .ok (.ifCond .lt 8, 3) := by decide +kernel
theorem dJ3_checkIndex_8e157_4 : decode cJ3_checkIndex_8e157 4 = .ok (.iload_n 0, 1) := by decide +kernel
theorem dJ3_checkIndex_8e157_5 : decode cJ3_checkIndex_8e157 5 = .ok (.iload_n 1, 1) := by decide +kernel
theorem dJ3_checkIndex_8e157_6 : decode cJ3_checkIndex_8e157 6 = .ok (.if_icmp .lt 10, 3) := by decide +kernel
theorem dJ3_checkIndex_8e157_16 : decode cJ3_checkIndex_8e157 16 = .ok (.iload_n 0, 1) := by decide +kernel
theorem dJ3_checkIndex_8e157_17 : decode cJ3_checkIndex_8e157 17 = .ok (.ireturn, 1) := by decide +kernel
theorem jz_coderF : Cond.fieldLink RJ0 15 "java/lang/String" "coder" "B" ∈ amWd := amW_spec (p := 7071) (by decide +kernel)
theorem jz_valueF : Cond.fieldLink RJ0 9 "java/lang/String" "value" "[B" ∈ amWd := amW_spec (p := 7070) (by decide +kernel)
theorem jz_compF : Cond.fieldLink RJ0 38 "java/lang/String" "COMPACT_STRINGS" "Z" ∈ amWd := amW_spec (p := 4075) (by decide +kernel)
theorem jz_fmtF : Cond.fieldLink RJ0 1053 "jdk/internal/util/Preconditions" "SIOOBE_FORMATTER" "Ljava/util/function/BiFunction;" ∈ amWd := amW_spec (p := 4091) (by decide +kernel)
theorem jz_ini0 : Cond.initialized RJ0 ∈ amWd := amW_spec (p := 1016) (by decide +kernel)
theorem jz_ini1 : Cond.initialized RJ1 ∈ amWd := amW_spec (p := 1017) (by decide +kernel)
theorem jz_ini3 : Cond.initialized RJ3 ∈ amWd := amW_spec (p := 1018) (by decide +kernel)
theorem jz_lenI : Cond.instanceMethod yJ0_length_8abf5 ∈ amWd := amW_spec (p := 4068) (by decide +kernel)
theorem jz_lenS : Cond.selects RJ0 yJ0_length_8abf5 yJ0_length_8abf5 ∈ amWd := amW_spec (p := 4069) (by decide +kernel)
theorem jz_lenC : Cond.code yJ0_length_8abf5 cJ0_length_8abf5 1 (some .int) ∈ amWd := amW_spec (p := 4070) (by decide +kernel)
theorem jz_codL : Cond.methodLink RJ0 335 yJ0_coder_7d493 ∈ amWd := amW_spec (p := 4071) (by decide +kernel)
theorem jz_codI : Cond.instanceMethod yJ0_coder_7d493 ∈ amWd := amW_spec (p := 4072) (by decide +kernel)
theorem jz_codS : Cond.selects RJ0 yJ0_coder_7d493 yJ0_coder_7d493 ∈ amWd := amW_spec (p := 4073) (by decide +kernel)
theorem jz_codC : Cond.code yJ0_coder_7d493 cJ0_coder_7d493 1 (some .byte) ∈ amWd := amW_spec (p := 4074) (by decide +kernel)
theorem jz_chI : Cond.instanceMethod yJ0_charAt_5068e ∈ amWd := amW_spec (p := 4078) (by decide +kernel)
theorem jz_chS : Cond.selects RJ0 yJ0_charAt_5068e yJ0_charAt_5068e ∈ amWd := amW_spec (p := 4079) (by decide +kernel)
theorem jz_chC : Cond.code yJ0_charAt_5068e cJ0_charAt_5068e 2 (some .char) ∈ amWd := amW_spec (p := 4080) (by decide +kernel)
theorem jz_latL : Cond.methodLink RJ0 492 yJ0_isLatin1_aae02 ∈ amWd := amW_spec (p := 4081) (by decide +kernel)
theorem jz_latI : Cond.instanceMethod yJ0_isLatin1_aae02 ∈ amWd := amW_spec (p := 4082) (by decide +kernel)
theorem jz_latS : Cond.selects RJ0 yJ0_isLatin1_aae02 yJ0_isLatin1_aae02 ∈ amWd := amW_spec (p := 4083) (by decide +kernel)
theorem jz_latC : Cond.code yJ0_isLatin1_aae02 cJ0_isLatin1_aae02 1 (some .boolean) ∈ amWd := amW_spec (p := 4084) (by decide +kernel)
theorem jz_ch1L : Cond.methodLink RJ0 495 yJ1_charAt_3b067 ∈ amWd := amW_spec (p := 4085) (by decide +kernel)
theorem jz_ch1T : Cond.static yJ1_charAt_3b067 ∈ amWd := amW_spec (p := 4086) (by decide +kernel)
theorem jz_ch1C : Cond.code yJ1_charAt_3b067 cJ1_charAt_3b067 2 (some .char) ∈ amWd := amW_spec (p := 4087) (by decide +kernel)
theorem jz_ciL : Cond.methodLink RJ1 9 yJ0_checkIndex_df160 ∈ amWd := amW_spec (p := 4088) (by decide +kernel)
theorem jz_ciT : Cond.static yJ0_checkIndex_df160 ∈ amWd := amW_spec (p := 4089) (by decide +kernel)
theorem jz_ciC : Cond.code yJ0_checkIndex_df160 cJ0_checkIndex_df160 2 none ∈ amWd := amW_spec (p := 4090) (by decide +kernel)
theorem jz_ci3L : Cond.methodLink RJ0 1059 yJ3_checkIndex_8e157 ∈ amWd := amW_spec (p := 4093) (by decide +kernel)
theorem jz_ci3T : Cond.static yJ3_checkIndex_8e157 ∈ amWd := amW_spec (p := 4094) (by decide +kernel)
theorem jz_ci3C : Cond.code yJ3_checkIndex_8e157 cJ3_checkIndex_8e157 3 (some .int) ∈ amWd := amW_spec (p := 4095) (by decide +kernel)
theorem jz_size : ∀ i, i < 12 → amSl.getD i 0 = (amTx i).length ∧ (amTx i).length < 100 := by decide +kernel
theorem jz_shr : ∀ i, i < 12 → Int32.ofNat (amSl.getD i 0) >>> ((0 : Int32) &&& 31) = nI (amTx i).length := by decide +kernel
theorem jz_byte : ∀ i, i < 12 → ∀ j, j < (amTx i).length → ((((((List.range 12).map amTx).getD i []).getD j 0) &&& 255).toUInt32 % 65536).toInt32 = (amTx i).getD j 0 := by decide +kernel
def jzB (z : Nat) (adK adV : Nat → Nat) (U : State) : Prop := vk_S 12 amSl ((List.range 12).map amTx) adK adV (fun q => z ≤ q) U U.heap ∧ va_Z "java/lang/String" "COMPACT_STRINGS" "Z" (.int 1) (fun q => z ≤ q) U U.heap ∧ va_Zq "jdk/internal/util/Preconditions" "SIOOBE_FORMATTER" "Ljava/util/function/BiFunction;" (fun q => z ≤ q) U U.heap
theorem jzB.to {z : Nat} {adK adV : Nat → Nat} {s U : State} (h : jzB z adK adV s) (hal : s.vm.Alike U.vm) (hH : ∀ q, q < s.heap.size → ¬ z ≤ q → U.heap[q]? = s.heap[q]?) : jzB z adK adV U :=
  ⟨(vk_S.moved hal h.1).kept hH, (va_Z.moved hal h.2.1).kept hH, (va_Zq.moved hal h.2.2).kept hH⟩
theorem jzB.same {z : Nat} {adK adV : Nat → Nat} {s U : State} (h : jzB z adK adV s) (hv : U.vm = s.vm) (hh : U.heap = s.heap) : jzB z adK adV U :=
  h.to (by rw [hv]; exact Vm.Alike.refl _) (fun q _ _ => by rw [hh])
/-- a method that writes nothing, and its answer -/
def jzQ (r : Option Value) : Array Value → State → Outcome → State → Prop := fun _ st o t => o = .returned r ∧ t.heap = st.heap
def jzWs (y : MethodName) (bytes : ByteArray) (mx : Nat) (rt : Option FieldType) : List Cond := Cond.code y bytes mx rt :: amWd
def jzRm (k : Nat) : Room := { frames := k, cells := 0, slots := 0, locals := 64 * k }
theorem jzWs_good {y : MethodName} {bytes : ByteArray} {mx : Nat} {rt : Option FieldType} (h : Cond.code y bytes mx rt ∈ amWd) : GoodIn amWd (jzWs y bytes mx rt) := by
  intro w hw
  rcases List.mem_cons.mp hw with rfl | hw
  · exact ⟨h, good_of_word rfl⟩
  · exact ⟨hw, good_of_word (List.mem_filter.mp hw).2⟩
abbrev JzMet (l : Launch) (z : Nat) (adK adV : Nat → Nat) (y : MethodName) (bytes : ByteArray) (mx : Nat) (rt : Option FieldType) (k : Nat) (As : List Value) (r : Option Value) : Prop := Met l y (jzWs y bytes mx rt) (jzRm k) (va_Pc As (jzB z adK adV)) (jzQ r) 0 0 (fun _ => False)
section JZC
variable {p : Program} {l : Launch} {e : Env} {R : Room} {s : State} {m : MethodId} {args : Array Value} {below : List Frame} {meth : Method} {c : Code} {H : Heap} {locs : List Loc} {cells slots : Nat} {Q : State → Prop} {cc : ByteArray} {z : Nat} {adK adV : Nat → Nat}
theorem jz_after {pc : Nat} {lsR : Array Slot} {st0 rest : List Value} {r : Option Value} {aa : Array Value} (hr : va_Run p l e R s m args below meth c H locs cells slots 0 0 (F0 m pc lsR st0) rest (jzQ r aa) (fun _ => False)) (kk : W p l e R s m args below meth c H locs cells slots Q (F0 m (pc + 3) lsR (r.toList ++ rest))) : W p l e R s m args below meth c H locs cells slots Q (F0 m pc lsR st0) := by
  refine am_after hr fun v st₀ t L h0 hL hq => ?_
  obtain ⟨q1, q2⟩ := hq
  cases q1
  have hn : L = [] := List.eq_nil_iff_forall_not_mem.mpr (fun q hq => hL q hq)
  subst hn
  rw [q2, h0, List.append_nil]
  exact kk
theorem jz_virt {own : String} {idx i pc k nL mx : Nat} {lsR : Array Slot} {y : MethodName} {bytes : ByteArray} {rt : Option FieldType} {As rest : List Value} {r : Option Value} (hx : p.tables.exec = Jvm.exec) (hb : c.code = cc) (hml : c.maxLocals = nL) (hL : lsR.size = nL) (hown : s.vm.findClass own = some m.cls) (hts : ∀ w ∈ amWd, w.before args s = true)
    (hM : JzMet l z adK adV y bytes mx rt k (.ref (adK i) :: As) r) (hy : y.cls = RJ0) (hna : (parseMethodDescriptor y.desc).map (fun d => d.parameters.length) = some As.length) (hc : Cond.code y bytes mx rt ∈ amWd) (hlink : Cond.methodLink own idx y ∈ amWd) (hin : Cond.instanceMethod y ∈ amWd) (hse : Cond.selects RJ0 y y ∈ amWd) (hB : jzB z adK adV s) (hS : va_S (fun q => z ≤ q) s.heap H locs) (hi : i < 12)
    (hk : k + 1 ≤ R.frames) (hl : 8 + (mx + 11) + 64 * k ≤ R.locals) (hRc : cells ≤ R.cells) (hRs : slots ≤ R.slots) (hcat : (rest.map fun v => v.category).sum ≤ 8) (hd : decode cc pc = .ok (.invokevirtual idx, 3))
    (kk : W p l e R s m args below meth c H locs cells slots Q (F0 m (pc + 3) lsR (r.toList ++ rest))) : W p l e R s m args below meth c H locs cells slots Q (F0 m pc lsR (As.reverse ++ .ref (adK i) :: rest)) := by
  have hpre : ∀ U : State, U.heap = H → s.WarmedH U.vm → jzB z adK adV U := fun U hU hW => hB.to hW.alike (fun q g1 g2 => by rw [hU]; exact hS.2.1 q g1 g2)
  have hn : ∀ sig, parseMethodDescriptor y.desc = some sig → As.length = sig.parameters.length := fun sig hs => by
    rw [hs] at hna
    exact (Option.some.inj hna).symm
  have hini : (Cond.initialized y.cls).before args s = true := by rw [hy]; exact hts _ jz_ini0
  refine jz_after (va_runV (C := RJ0) (As := As) (free := fun _ => False) (mc := 0) (ms := 0) ⟨hx, hb, hml, hown, hts⟩ hM ⟨⟨rfl, rfl, hk, hl, pay_in hts (jzWs_good hc), List.mem_cons_self, hts _ hc, hini, ⟨by rw [hy]; decide, by rw [hy]; decide⟩, hn, hts _ hlink⟩, hts _ hin, hts _ hse⟩ ⟨fun a U g mk q => ⟨q.1, q.2.same rfl rfl⟩, vk_recv hB.1 hi hS, fun U hU hW => ⟨rfl, hpre U hU hW⟩⟩ rfl rfl hL rfl (by show 2 * 0 + _ ≤ 8; omega) hd ⟨hRc, hRs⟩) kk
theorem jz_stat {own : String} {idx pc k nL mx : Nat} {lsR : Array Slot} {y : MethodName} {bytes : ByteArray} {rt : Option FieldType} {As rest : List Value} {r : Option Value} (hx : p.tables.exec = Jvm.exec) (hb : c.code = cc) (hml : c.maxLocals = nL) (hL : lsR.size = nL) (hown : s.vm.findClass own = some m.cls) (hts : ∀ w ∈ amWd, w.before args s = true)
    (hM : JzMet l z adK adV y bytes mx rt k As r) (hy : y.cls ≠ "java/lang/invoke/MethodHandle" ∧ y.cls ≠ "java/lang/invoke/VarHandle") (hna : (parseMethodDescriptor y.desc).map (fun d => d.parameters.length) = some As.length) (hc : Cond.code y bytes mx rt ∈ amWd) (hlink : Cond.methodLink own idx y ∈ amWd) (hst : Cond.static y ∈ amWd) (hin : Cond.initialized y.cls ∈ amWd) (hB : jzB z adK adV s) (hS : va_S (fun q => z ≤ q) s.heap H locs)
    (hk : k + 1 ≤ R.frames) (hl : 8 + (mx + 11) + 64 * k ≤ R.locals) (hRc : cells ≤ R.cells) (hRs : slots ≤ R.slots) (hcat : (rest.map fun v => v.category).sum ≤ 8) (hd : decode cc pc = .ok (.invokestatic idx, 3))
    (kk : W p l e R s m args below meth c H locs cells slots Q (F0 m (pc + 3) lsR (r.toList ++ rest))) : W p l e R s m args below meth c H locs cells slots Q (F0 m pc lsR (As.reverse ++ rest)) := by
  have hpre : ∀ U : State, U.heap = H → s.WarmedH U.vm → jzB z adK adV U := fun U hU hW => hB.to hW.alike (fun q g1 g2 => by rw [hU]; exact hS.2.1 q g1 g2)
  have hn : ∀ sig, parseMethodDescriptor y.desc = some sig → As.length = sig.parameters.length := fun sig hs => by
    rw [hs] at hna
    exact (Option.some.inj hna).symm
  refine jz_after (va_runS (As := As) (free := fun _ => False) (mc := 0) (ms := 0) ⟨hx, hb, hml, hown, hts⟩ hM ⟨⟨rfl, rfl, hk, hl, pay_in hts (jzWs_good hc), List.mem_cons_self, hts _ hc, hts _ hin, hy, hn, hts _ hlink⟩, hts _ hst⟩ ⟨fun a U g mk q => ⟨q.1, q.2.same rfl rfl⟩, fun U hU hW => ⟨rfl, hpre U hU hW⟩⟩ rfl rfl hL rfl (by show 2 * 0 + _ ≤ 8; omega) hd ⟨hRc, hRs⟩) kk
end JZC
theorem jz_lt {k : Int32} {n : Nat} (h0 : 0 ≤ k) (hk : k.toNatClampNeg < n) (hn : n < 100) : ¬ k < 0 ∧ k < nI n := by
  have h1 : (0 : Int) ≤ k.toInt := by
    have := Int32.le_iff_toInt_le.mp h0
    rwa [Int32.toInt_zero] at this
  have h2 : k.toInt = (k.toNatClampNeg : Int) := by
    show k.toInt = ((k.toInt.toNat : Nat) : Int)
    omega
  refine ⟨Int32.not_lt.mpr h0, Int32.lt_iff_toInt_lt.mpr ?_⟩
  rw [nI_toInt (by omega), h2]
  omega
theorem jz_narrow : ∀ i, i < 12 → ∀ j, j < (amTx i).length → narrow .char (.int ((amTx i).getD j 0)) = .int ((amTx i).getD j 0) := by decide +kernel
section JZM
variable {l : Launch} {z : Nat} {adK adV : Nat → Nat}
set_option maxHeartbeats 1000000 in
theorem jz_coder {i : Nat} (hi : i < 12) : JzMet l z adK adV yJ0_coder_7d493 cJ0_coder_7d493 1 (some .byte) 1 [.ref (adK i)] (some (.int 0)) := by
  refine Met.ofW (cc := cJ0_coder_7d493) (maxL := 1) (ret := (some .byte)) (by decide) rfl ?_
  intro p e s m args below meth c s₁ B hml hv
  obtain ⟨rfl, hB⟩ := hv
  have hx := B.exec
  have hb := B.bytes
  have hr := B.returns
  have hts0 := atoms_spec (ws := jzWs yJ0_coder_7d493 cJ0_coder_7d493 1 (some .byte)) B.pre
  have hts : ∀ w ∈ amWd, w.before ([.ref (adK i)] : List Value).toArray s = true := fun w hw => hts0 w (List.mem_cons_of_mem _ hw)
  have hown : s.vm.findClass RJ0 = some m.cls := findClass_of_methodNamed B.named
  have hlocks := B.notSynchronized
  rw [lg_entry_eq]
  have hL := lv_entry ([.ref (adK i)] : List Value) (n := 1) (Nat.le_refl _)
  generalize ((lg_sl ([.ref (adK i)] : List Value) ++ List.replicate (1 - (lg_sl ([.ref (adK i)] : List Value)).length) Slot.unset).toArray) = lsR at hL ⊢
  refine va_gets hx hb hB.2.1 va_S.rf hown (hts _ jz_compF) (fun _ h => h) dJ0_coder_7d493_0 ?_
  refine lv_if_eq hx hb (tgt := 13) dJ0_coder_7d493_3 (by decide) (fun h => absurd h (by decide)) (fun _ => ?_)
  refine lv_aload_n hx hb dJ0_coder_7d493_6 rfl (lv_at hL 0 rfl) ?_
  refine vk_getf hx hb (hB.1.1 i hi).2.1 va_S.rf hown (hts _ jz_coderF) (fun _ h => h) dJ0_coder_7d493_7 ?_
  refine lv_goto hx hb (tgt := 14) dJ0_coder_7d493_10 (by decide) ?_
  exact W.zret hx hb hr rfl (fun t ht _ => ⟨rfl, ht⟩) t_nil dJ0_coder_7d493_14
set_option maxHeartbeats 1000000 in
theorem jz_latin {i : Nat} (hi : i < 12) : JzMet l z adK adV yJ0_isLatin1_aae02 cJ0_isLatin1_aae02 1 (some .boolean) 1 [.ref (adK i)] (some (.int 1)) := by
  refine Met.ofW (cc := cJ0_isLatin1_aae02) (maxL := 1) (ret := (some .boolean)) (by decide) rfl ?_
  intro p e s m args below meth c s₁ B hml hv
  obtain ⟨rfl, hB⟩ := hv
  have hx := B.exec
  have hb := B.bytes
  have hr := B.returns
  have hts0 := atoms_spec (ws := jzWs yJ0_isLatin1_aae02 cJ0_isLatin1_aae02 1 (some .boolean)) B.pre
  have hts : ∀ w ∈ amWd, w.before ([.ref (adK i)] : List Value).toArray s = true := fun w hw => hts0 w (List.mem_cons_of_mem _ hw)
  have hown : s.vm.findClass RJ0 = some m.cls := findClass_of_methodNamed B.named
  have hlocks := B.notSynchronized
  rw [lg_entry_eq]
  have hL := lv_entry ([.ref (adK i)] : List Value) (n := 1) (Nat.le_refl _)
  generalize ((lg_sl ([.ref (adK i)] : List Value) ++ List.replicate (1 - (lg_sl ([.ref (adK i)] : List Value)).length) Slot.unset).toArray) = lsR at hL ⊢
  refine va_gets hx hb hB.2.1 va_S.rf hown (hts _ jz_compF) (fun _ h => h) dJ0_isLatin1_aae02_0 ?_
  refine lv_if_eq hx hb (tgt := 17) dJ0_isLatin1_aae02_3 (by decide) (fun h => absurd h (by decide)) (fun _ => ?_)
  refine lv_aload_n hx hb dJ0_isLatin1_aae02_6 rfl (lv_at hL 0 rfl) ?_
  refine vk_getf hx hb (hB.1.1 i hi).2.1 va_S.rf hown (hts _ jz_coderF) (fun _ h => h) dJ0_isLatin1_aae02_7 ?_
  refine lv_if_ne hx hb (tgt := 17) dJ0_isLatin1_aae02_10 (by decide) (fun h => absurd rfl h) (fun _ => ?_)
  refine lv_iconst hx hb dJ0_isLatin1_aae02_13 (v := 1) (by decide) ?_
  refine lv_goto hx hb (tgt := 18) dJ0_isLatin1_aae02_14 (by decide) ?_
  exact W.zret hx hb hr rfl (fun t ht _ => ⟨rfl, ht⟩) t_nil dJ0_isLatin1_aae02_18
set_option maxHeartbeats 1000000 in
theorem jz_check3_0 {k n : Int32} (h0 : ¬ k < 0) (hn : k < n) : JzMet l z adK adV yJ3_checkIndex_8e157 cJ3_checkIndex_8e157 3 (some .int) 1 [.int k, .int n, .null] (some (.int k)) := by
  refine Met.ofW (cc := cJ3_checkIndex_8e157) (maxL := 3) (ret := (some .int)) (by decide) rfl ?_
  intro p e s m args below meth c s₁ B hml hv
  obtain ⟨rfl, hB⟩ := hv
  have hx := B.exec
  have hb := B.bytes
  have hr := B.returns
  have hts0 := atoms_spec (ws := jzWs yJ3_checkIndex_8e157 cJ3_checkIndex_8e157 3 (some .int)) B.pre
  have hts : ∀ w ∈ amWd, w.before ([.int k, .int n, .null] : List Value).toArray s = true := fun w hw => hts0 w (List.mem_cons_of_mem _ hw)
  have hown : s.vm.findClass RJ3 = some m.cls := findClass_of_methodNamed B.named
  have hlocks := B.notSynchronized
  rw [lg_entry_eq]
  have hL := lv_entry ([.int k, .int n, .null] : List Value) (n := 3) (Nat.le_refl _)
  generalize ((lg_sl ([.int k, .int n, .null] : List Value) ++ List.replicate (3 - (lg_sl ([.int k, .int n, .null] : List Value)).length) Slot.unset).toArray) = lsR at hL ⊢
  refine lv_iload_n hx hb dJ3_checkIndex_8e157_0 rfl (lv_at hL 0 rfl) ?_
  refine lv_if_lt hx hb (tgt := 9) dJ3_checkIndex_8e157_1 (by decide) (fun h => absurd h h0) (fun _ => ?_)
  refine lv_iload_n hx hb dJ3_checkIndex_8e157_4 rfl (lv_at hL 0 rfl) ?_
  refine lv_iload_n hx hb dJ3_checkIndex_8e157_5 rfl (lv_at hL 1 rfl) ?_
  refine lv_icmp_lt hx hb (tgt := 16) dJ3_checkIndex_8e157_6 (by decide) (fun _ => ?_) (fun h => absurd hn h)
  refine lv_iload_n hx hb dJ3_checkIndex_8e157_16 rfl (lv_at hL 0 rfl) ?_
  exact W.iret hx hb hr (fun t ht _ => ⟨rfl, ht⟩) t_nil dJ3_checkIndex_8e157_17
set_option maxHeartbeats 1000000 in
theorem jz_check3_1 {k n : Int32} {t : Nat} (h0 : ¬ k < 0) (hn : k < n) : JzMet l z adK adV yJ3_checkIndex_8e157 cJ3_checkIndex_8e157 3 (some .int) 1 [.int k, .int n, .ref t] (some (.int k)) := by
  refine Met.ofW (cc := cJ3_checkIndex_8e157) (maxL := 3) (ret := (some .int)) (by decide) rfl ?_
  intro p e s m args below meth c s₁ B hml hv
  obtain ⟨rfl, hB⟩ := hv
  have hx := B.exec
  have hb := B.bytes
  have hr := B.returns
  have hts0 := atoms_spec (ws := jzWs yJ3_checkIndex_8e157 cJ3_checkIndex_8e157 3 (some .int)) B.pre
  have hts : ∀ w ∈ amWd, w.before ([.int k, .int n, .ref t] : List Value).toArray s = true := fun w hw => hts0 w (List.mem_cons_of_mem _ hw)
  have hown : s.vm.findClass RJ3 = some m.cls := findClass_of_methodNamed B.named
  have hlocks := B.notSynchronized
  rw [lg_entry_eq]
  have hL := lv_entry ([.int k, .int n, .ref t] : List Value) (n := 3) (Nat.le_refl _)
  generalize ((lg_sl ([.int k, .int n, .ref t] : List Value) ++ List.replicate (3 - (lg_sl ([.int k, .int n, .ref t] : List Value)).length) Slot.unset).toArray) = lsR at hL ⊢
  refine lv_iload_n hx hb dJ3_checkIndex_8e157_0 rfl (lv_at hL 0 rfl) ?_
  refine lv_if_lt hx hb (tgt := 9) dJ3_checkIndex_8e157_1 (by decide) (fun h => absurd h h0) (fun _ => ?_)
  refine lv_iload_n hx hb dJ3_checkIndex_8e157_4 rfl (lv_at hL 0 rfl) ?_
  refine lv_iload_n hx hb dJ3_checkIndex_8e157_5 rfl (lv_at hL 1 rfl) ?_
  refine lv_icmp_lt hx hb (tgt := 16) dJ3_checkIndex_8e157_6 (by decide) (fun _ => ?_) (fun h => absurd hn h)
  refine lv_iload_n hx hb dJ3_checkIndex_8e157_16 rfl (lv_at hL 0 rfl) ?_
  exact W.iret hx hb hr (fun t ht _ => ⟨rfl, ht⟩) t_nil dJ3_checkIndex_8e157_17
set_option maxHeartbeats 1000000 in
theorem jz_check {k n : Int32} (h0 : ¬ k < 0) (hn : k < n) : JzMet l z adK adV yJ0_checkIndex_df160 cJ0_checkIndex_df160 2 (none) 2 [.int k, .int n] none := by
  refine Met.ofW (cc := cJ0_checkIndex_df160) (maxL := 2) (ret := none) (by decide) rfl ?_
  intro p e s m args below meth c s₁ B hml hv
  obtain ⟨rfl, hB⟩ := hv
  have hx := B.exec
  have hb := B.bytes
  have hr := B.returns
  have hts0 := atoms_spec (ws := jzWs yJ0_checkIndex_df160 cJ0_checkIndex_df160 2 none) B.pre
  have hts : ∀ w ∈ amWd, w.before ([.int k, .int n] : List Value).toArray s = true := fun w hw => hts0 w (List.mem_cons_of_mem _ hw)
  have hown : s.vm.findClass RJ0 = some m.cls := findClass_of_methodNamed B.named
  have hlocks := B.notSynchronized
  rw [lg_entry_eq]
  have hL := lv_entry ([.int k, .int n] : List Value) (n := 2) (Nat.le_refl _)
  generalize ((lg_sl ([.int k, .int n] : List Value) ++ List.replicate (2 - (lg_sl ([.int k, .int n] : List Value)).length) Slot.unset).toArray) = lsR at hL ⊢
  refine lv_iload_n hx hb dJ0_checkIndex_df160_0 rfl (lv_at hL 0 rfl) ?_
  refine lv_iload_n hx hb dJ0_checkIndex_df160_1 rfl (lv_at hL 1 rfl) ?_
  rcases hB.2.2 with hz | ⟨t, hz⟩
  · refine va_gets hx hb hz va_S.rf hown (hts _ jz_fmtF) (fun _ h => h) dJ0_checkIndex_df160_2 ?_
    refine jz_stat (As := [.int k, .int n, .null]) (rest := []) hx hb hml hL.1 hown hts (jz_check3_0 h0 hn) (by decide) (show (parseMethodDescriptor yJ3_checkIndex_8e157.desc).map (fun d => d.parameters.length) = some 3 from by decide +kernel) jz_ci3C jz_ci3L jz_ci3T jz_ini3 hB va_S.rf (by decide) (by decide) (by decide) (by decide) (by decide) dJ0_checkIndex_df160_5 ?_
    refine lv_pop hx hb dJ0_checkIndex_df160_8 rfl ?_
    exact W.vret hx hb hr (fun t ht _ => ⟨rfl, ht⟩) t_nil dJ0_checkIndex_df160_9
  · refine va_gets hx hb hz va_S.rf hown (hts _ jz_fmtF) (fun _ h => h) dJ0_checkIndex_df160_2 ?_
    refine jz_stat (As := [.int k, .int n, .ref t]) (rest := []) hx hb hml hL.1 hown hts (jz_check3_1 h0 hn) (by decide) (show (parseMethodDescriptor yJ3_checkIndex_8e157.desc).map (fun d => d.parameters.length) = some 3 from by decide +kernel) jz_ci3C jz_ci3L jz_ci3T jz_ini3 hB va_S.rf (by decide) (by decide) (by decide) (by decide) (by decide) dJ0_checkIndex_df160_5 ?_
    refine lv_pop hx hb dJ0_checkIndex_df160_8 rfl ?_
    exact W.vret hx hb hr (fun t ht _ => ⟨rfl, ht⟩) t_nil dJ0_checkIndex_df160_9
set_option maxHeartbeats 1000000 in
theorem jz_char1 {i : Nat} {k : Int32} (hi : i < 12) (h0 : 0 ≤ k) (hk : k.toNatClampNeg < (amTx i).length) : JzMet l z adK adV yJ1_charAt_3b067 cJ1_charAt_3b067 2 (some .char) 3 [.ref (adV i), .int k] (some (.int ((amTx i).getD k.toNatClampNeg 0))) := by
  refine Met.ofW (cc := cJ1_charAt_3b067) (maxL := 2) (ret := (some .char)) (by decide) rfl ?_
  intro p e s m args below meth c s₁ B hml hv
  obtain ⟨rfl, hB⟩ := hv
  have hx := B.exec
  have hb := B.bytes
  have hr := B.returns
  have hts0 := atoms_spec (ws := jzWs yJ1_charAt_3b067 cJ1_charAt_3b067 2 (some .char)) B.pre
  have hts : ∀ w ∈ amWd, w.before ([.ref (adV i), .int k] : List Value).toArray s = true := fun w hw => hts0 w (List.mem_cons_of_mem _ hw)
  have hown : s.vm.findClass RJ1 = some m.cls := findClass_of_methodNamed B.named
  have hlocks := B.notSynchronized
  rw [lg_entry_eq]
  have hL := lv_entry ([.ref (adV i), .int k] : List Value) (n := 2) (Nat.le_refl _)
  generalize ((lg_sl ([.ref (adV i), .int k] : List Value) ++ List.replicate (2 - (lg_sl ([.ref (adV i), .int k] : List Value)).length) Slot.unset).toArray) = lsR at hL ⊢
  obtain ⟨j1, j2⟩ := jz_size i hi
  obtain ⟨j3, j4⟩ := jz_lt h0 hk j2
  refine lv_iload_n hx hb dJ1_charAt_3b067_0 rfl (lv_at hL 1 rfl) ?_
  refine lv_aload_n hx hb dJ1_charAt_3b067_1 rfl (lv_at hL 0 rfl) ?_
  refine va_tlen hx hb (hB.1.1 i hi).2.2.2 va_S.rf (v := nI (amTx i).length) (by rw [j1]; rfl) dJ1_charAt_3b067_2 ?_
  refine jz_stat (As := [.int k, .int (nI (amTx i).length)]) (rest := []) hx hb hml hL.1 hown hts (jz_check j3 j4) (by decide) (show (parseMethodDescriptor yJ0_checkIndex_df160.desc).map (fun d => d.parameters.length) = some 2 from by decide +kernel) jz_ciC jz_ciL jz_ciT jz_ini0 hB va_S.rf (by decide) (by decide) (by decide) (by decide) (by decide) dJ1_charAt_3b067_3 ?_
  refine lv_aload_n hx hb dJ1_charAt_3b067_6 rfl (lv_at hL 0 rfl) ?_
  refine lv_iload_n hx hb dJ1_charAt_3b067_7 rfl (lv_at hL 1 rfl) ?_
  refine va_tb hx hb (hB.1.1 i hi).2.2.2 va_S.rf (v := .int ((((List.range 12).map amTx).getD i []).getD k.toNatClampNeg 0)) (by rw [j1]; rintro (q | q); exact j3 q; omega) rfl dJ1_charAt_3b067_8 ?_
  refine lv_sipush hx hb dJ1_charAt_3b067_9 (v := 255) (by decide) ?_
  refine lv_iand hx hb dJ1_charAt_3b067_12 ?_
  refine lv_i2c hx hb dJ1_charAt_3b067_13 (jz_byte i hi _ hk) ?_
  refine W.zret hx hb hr ?_ (fun t ht _ => ⟨rfl, ht⟩) t_nil dJ1_charAt_3b067_14
  exact jz_narrow i hi _ hk
set_option maxHeartbeats 1000000 in
theorem jz_length {i : Nat} (hi : i < 12) : JzMet l z adK adV yJ0_length_8abf5 cJ0_length_8abf5 1 (some .int) 2 [.ref (adK i)] (some (.int (nI (amTx i).length))) := by
  refine Met.ofW (cc := cJ0_length_8abf5) (maxL := 1) (ret := (some .int)) (by decide) rfl ?_
  intro p e s m args below meth c s₁ B hml hv
  obtain ⟨rfl, hB⟩ := hv
  have hx := B.exec
  have hb := B.bytes
  have hr := B.returns
  have hts0 := atoms_spec (ws := jzWs yJ0_length_8abf5 cJ0_length_8abf5 1 (some .int)) B.pre
  have hts : ∀ w ∈ amWd, w.before ([.ref (adK i)] : List Value).toArray s = true := fun w hw => hts0 w (List.mem_cons_of_mem _ hw)
  have hown : s.vm.findClass RJ0 = some m.cls := findClass_of_methodNamed B.named
  have hlocks := B.notSynchronized
  rw [lg_entry_eq]
  have hL := lv_entry ([.ref (adK i)] : List Value) (n := 1) (Nat.le_refl _)
  generalize ((lg_sl ([.ref (adK i)] : List Value) ++ List.replicate (1 - (lg_sl ([.ref (adK i)] : List Value)).length) Slot.unset).toArray) = lsR at hL ⊢
  refine lv_aload_n hx hb dJ0_length_8abf5_0 rfl (lv_at hL 0 rfl) ?_
  refine vk_getf hx hb (hB.1.1 i hi).2.2.1 va_S.rf hown (hts _ jz_valueF) (fun _ h => h) dJ0_length_8abf5_1 ?_
  refine va_tlen hx hb (hB.1.1 i hi).2.2.2 va_S.rf (v := Int32.ofNat (amSl.getD i 0)) rfl dJ0_length_8abf5_4 ?_
  refine lv_aload_n hx hb dJ0_length_8abf5_5 rfl (lv_at hL 0 rfl) ?_
  refine jz_virt (i := i) (As := []) (rest := [.int (Int32.ofNat (amSl.getD i 0))]) hx hb hml hL.1 hown hts (jz_coder hi) rfl (show (parseMethodDescriptor yJ0_coder_7d493.desc).map (fun d => d.parameters.length) = some 0 from by decide +kernel) jz_codC jz_codL jz_codI jz_codS hB va_S.rf hi (by decide) (by decide) (by decide) (by decide) (show 1 ≤ 8 by decide) dJ0_length_8abf5_6 ?_
  refine lv_ishr hx hb dJ0_length_8abf5_9 ?_
  rw [jz_shr i hi]
  exact W.iret hx hb hr (fun t ht _ => ⟨rfl, ht⟩) t_nil dJ0_length_8abf5_10
set_option maxHeartbeats 1000000 in
theorem jz_charAt {i : Nat} {k : Int32} (hi : i < 12) (h0 : 0 ≤ k) (hk : k.toNatClampNeg < (amTx i).length) : JzMet l z adK adV yJ0_charAt_5068e cJ0_charAt_5068e 2 (some .char) 4 [.ref (adK i), .int k] (some (.int ((amTx i).getD k.toNatClampNeg 0))) := by
  refine Met.ofW (cc := cJ0_charAt_5068e) (maxL := 2) (ret := (some .char)) (by decide) rfl ?_
  intro p e s m args below meth c s₁ B hml hv
  obtain ⟨rfl, hB⟩ := hv
  have hx := B.exec
  have hb := B.bytes
  have hr := B.returns
  have hts0 := atoms_spec (ws := jzWs yJ0_charAt_5068e cJ0_charAt_5068e 2 (some .char)) B.pre
  have hts : ∀ w ∈ amWd, w.before ([.ref (adK i), .int k] : List Value).toArray s = true := fun w hw => hts0 w (List.mem_cons_of_mem _ hw)
  have hown : s.vm.findClass RJ0 = some m.cls := findClass_of_methodNamed B.named
  have hlocks := B.notSynchronized
  rw [lg_entry_eq]
  have hL := lv_entry ([.ref (adK i), .int k] : List Value) (n := 2) (Nat.le_refl _)
  generalize ((lg_sl ([.ref (adK i), .int k] : List Value) ++ List.replicate (2 - (lg_sl ([.ref (adK i), .int k] : List Value)).length) Slot.unset).toArray) = lsR at hL ⊢
  refine lv_aload_n hx hb dJ0_charAt_5068e_0 rfl (lv_at hL 0 rfl) ?_
  refine jz_virt (i := i) (As := []) (rest := []) hx hb hml hL.1 hown hts (jz_latin hi) rfl (show (parseMethodDescriptor yJ0_isLatin1_aae02.desc).map (fun d => d.parameters.length) = some 0 from by decide +kernel) jz_latC jz_latL jz_latI jz_latS hB va_S.rf hi (by decide) (by decide) (by decide) (by decide) (by decide) dJ0_charAt_5068e_1 ?_
  refine lv_if_eq hx hb (tgt := 16) dJ0_charAt_5068e_4 (by decide) (fun h => absurd h (by decide)) (fun _ => ?_)
  refine lv_aload_n hx hb dJ0_charAt_5068e_7 rfl (lv_at hL 0 rfl) ?_
  refine vk_getf hx hb (hB.1.1 i hi).2.2.1 va_S.rf hown (hts _ jz_valueF) (fun _ h => h) dJ0_charAt_5068e_8 ?_
  refine lv_iload_n hx hb dJ0_charAt_5068e_11 rfl (lv_at hL 1 rfl) ?_
  refine jz_stat (As := [.ref (adV i), .int k]) (rest := []) hx hb hml hL.1 hown hts (jz_char1 hi h0 hk) (by decide) (show (parseMethodDescriptor yJ1_charAt_3b067.desc).map (fun d => d.parameters.length) = some 2 from by decide +kernel) jz_ch1C jz_ch1L jz_ch1T jz_ini1 hB va_S.rf (by decide) (by decide) (by decide) (by decide) (by decide) dJ0_charAt_5068e_12 ?_
  refine W.zret hx hb hr ?_ (fun t ht _ => ⟨rfl, ht⟩) t_nil dJ0_charAt_5068e_15
  exact jz_narrow i hi _ hk
end JZM
