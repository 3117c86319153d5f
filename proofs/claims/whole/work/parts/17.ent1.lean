theorem q63 : amCs.getD 63 [] = amC_63 := rfl
theorem r63 {pc pc' len op : Nat} {i : Instr} (h : amC_63.lookup pc = some (i, len, op)) (h2 : pc + len = pc') : amT 63 pc pc' i op := ⟨len, by unfold amEnt; rw [q63]; exact h, h2⟩
theorem e63_0 : amT 63 0 1 (.aload_n 0) 0 := r63 (len := 1) (by decide +kernel) rfl
theorem e63_1 : amT 63 1 4 (.getfield 13) 129 := r63 (len := 3) (by decide +kernel) rfl
theorem e63_4 : amT 63 4 5 (.aload_n 0) 0 := r63 (len := 1) (by decide +kernel) rfl
theorem e63_5 : amT 63 5 8 (.getfield 7) 128 := r63 (len := 3) (by decide +kernel) rfl
theorem e63_8 : amT 63 8 9 (.lsub) 0 := r63 (len := 1) (by decide +kernel) rfl
theorem e63_9 : amT 63 9 12 (.ldc2_w 46) 3 := r63 (len := 3) (by decide +kernel) rfl
theorem e63_12 : amT 63 12 13 (.lrem) 0 := r63 (len := 1) (by decide +kernel) rfl
theorem e63_13 : amT 63 13 14 (.lconst 0) 0 := r63 (len := 1) (by decide +kernel) rfl
theorem e63_14 : amT 63 14 15 (.lcmp) 0 := r63 (len := 1) (by decide +kernel) rfl
theorem e63_15 : amT 63 15 18 (.ifCond .eq 39) 0 := r63 (len := 3) (by decide +kernel) rfl
theorem t63_15 : amTg 15 39 = some 54 := by decide
theorem e63_18 : amT 63 18 19 (.aload_n 0) 0 := r63 (len := 1) (by decide +kernel) rfl
theorem e63_19 : amT 63 19 20 (.dup) 0 := r63 (len := 1) (by decide +kernel) rfl
theorem e63_20 : amT 63 20 23 (.getfield 7) 128 := r63 (len := 3) (by decide +kernel) rfl
theorem e63_23 : amT 63 23 26 (.ldc2_w 46) 3 := r63 (len := 3) (by decide +kernel) rfl
theorem e63_26 : amT 63 26 27 (.lmul) 0 := r63 (len := 1) (by decide +kernel) rfl
theorem e63_27 : amT 63 27 30 (.putfield 7) 128 := r63 (len := 3) (by decide +kernel) rfl
theorem e63_30 : amT 63 30 31 (.aload_n 0) 0 := r63 (len := 1) (by decide +kernel) rfl
theorem e63_31 : amT 63 31 32 (.dup) 0 := r63 (len := 1) (by decide +kernel) rfl
theorem e63_32 : amT 63 32 35 (.getfield 13) 129 := r63 (len := 3) (by decide +kernel) rfl
theorem e63_35 : amT 63 35 38 (.ldc2_w 46) 3 := r63 (len := 3) (by decide +kernel) rfl
theorem e63_38 : amT 63 38 39 (.lmul) 0 := r63 (len := 1) (by decide +kernel) rfl
theorem e63_39 : amT 63 39 42 (.putfield 13) 129 := r63 (len := 3) (by decide +kernel) rfl
theorem e63_42 : amT 63 42 43 (.aload_n 0) 0 := r63 (len := 1) (by decide +kernel) rfl
theorem e63_43 : amT 63 43 44 (.dup) 0 := r63 (len := 1) (by decide +kernel) rfl
theorem e63_44 : amT 63 44 47 (.getfield 16) 130 := r63 (len := 3) (by decide +kernel) rfl
theorem e63_47 : amT 63 47 50 (.ldc2_w 46) 3 := r63 (len := 3) (by decide +kernel) rfl
theorem e63_50 : amT 63 50 51 (.lmul) 0 := r63 (len := 1) (by decide +kernel) rfl
theorem e63_51 : amT 63 51 54 (.putfield 16) 130 := r63 (len := 3) (by decide +kernel) rfl
theorem e63_54 : amT 63 54 55 (.aload_n 0) 0 := r63 (len := 1) (by decide +kernel) rfl
theorem e63_55 : amT 63 55 58 (.getfield 7) 128 := r63 (len := 3) (by decide +kernel) rfl
theorem e63_58 : amT 63 58 59 (.aload_n 0) 0 := r63 (len := 1) (by decide +kernel) rfl
theorem e63_59 : amT 63 59 62 (.getfield 13) 129 := r63 (len := 3) (by decide +kernel) rfl
theorem e63_62 : amT 63 62 63 (.ladd) 0 := r63 (len := 1) (by decide +kernel) rfl
theorem e63_63 : amT 63 63 66 (.ldc2_w 46) 3 := r63 (len := 3) (by decide +kernel) rfl
theorem e63_66 : amT 63 66 67 (.ldiv) 0 := r63 (len := 1) (by decide +kernel) rfl
theorem e63_67 : amT 63 67 68 (.lstore_n 3) 0 := r63 (len := 1) (by decide +kernel) rfl
theorem e63_68 : amT 63 68 69 (.aload_n 0) 0 := r63 (len := 1) (by decide +kernel) rfl
theorem e63_69 : amT 63 69 70 (.lload_n 3) 0 := r63 (len := 1) (by decide +kernel) rfl
theorem e63_70 : amT 63 70 73 (.invokevirtual 48) 70 := r63 (len := 3) (by decide +kernel) rfl
theorem e63_73 : amT 63 73 75 (.istore 5) 0 := r63 (len := 2) (by decide +kernel) rfl
theorem e63_75 : amT 63 75 76 (.aload_n 0) 0 := r63 (len := 1) (by decide +kernel) rfl
theorem e63_76 : amT 63 76 77 (.lload_n 3) 0 := r63 (len := 1) (by decide +kernel) rfl
theorem e63_77 : amT 63 77 80 (.invokevirtual 52) 71 := r63 (len := 3) (by decide +kernel) rfl
theorem e63_80 : amT 63 80 82 (.istore 6) 0 := r63 (len := 2) (by decide +kernel) rfl
theorem e63_82 : amT 63 82 84 (.iload 5) 0 := r63 (len := 2) (by decide +kernel) rfl
theorem e63_84 : amT 63 84 86 (.iload 6) 0 := r63 (len := 2) (by decide +kernel) rfl
theorem e63_86 : amT 63 86 89 (.invokestatic 55) 146 := r63 (len := 3) (by decide +kernel) rfl
theorem e63_89 : amT 63 89 92 (.ifCond .eq 5) 0 := r63 (len := 3) (by decide +kernel) rfl
theorem t63_89 : amTg 89 5 = some 94 := by decide
theorem e63_92 : amT 63 92 93 (.iconst 0) 0 := r63 (len := 1) (by decide +kernel) rfl
theorem e63_93 : amT 63 93 94 (.ireturn) 0 := r63 (len := 1) (by decide +kernel) rfl
theorem e63_94 : amT 63 94 95 (.aload_n 1) 0 := r63 (len := 1) (by decide +kernel) rfl
theorem e63_95 : amT 63 95 97 (.iload 5) 0 := r63 (len := 2) (by decide +kernel) rfl
theorem e63_97 : amT 63 97 99 (.iload 6) 0 := r63 (len := 2) (by decide +kernel) rfl
theorem e63_99 : amT 63 99 102 (.invokevirtual 61) 34 := r63 (len := 3) (by decide +kernel) rfl
theorem e63_102 : amT 63 102 104 (.istore 7) 0 := r63 (len := 2) (by decide +kernel) rfl
theorem e63_104 : amT 63 104 105 (.iload_n 2) 0 := r63 (len := 1) (by decide +kernel) rfl
theorem e63_105 : amT 63 105 106 (.aload_n 1) 0 := r63 (len := 1) (by decide +kernel) rfl
theorem e63_106 : amT 63 106 109 (.invokevirtual 32) 37 := r63 (len := 3) (by decide +kernel) rfl
theorem e63_109 : amT 63 109 111 (.iload 7) 0 := r63 (len := 2) (by decide +kernel) rfl
theorem e63_111 : amT 63 111 112 (.isub) 0 := r63 (len := 1) (by decide +kernel) rfl
theorem e63_112 : amT 63 112 115 (.if_icmp .ge 17) 0 := r63 (len := 3) (by decide +kernel) rfl
theorem t63_112 : amTg 112 17 = some 129 := by decide
theorem e63_115 : amT 63 115 116 (.aload_n 0) 0 := r63 (len := 1) (by decide +kernel) rfl
theorem e63_116 : amT 63 116 117 (.lload_n 3) 0 := r63 (len := 1) (by decide +kernel) rfl
theorem e63_117 : amT 63 117 120 (.putfield 13) 129 := r63 (len := 3) (by decide +kernel) rfl
theorem e63_120 : amT 63 120 121 (.aload_n 0) 0 := r63 (len := 1) (by decide +kernel) rfl
theorem e63_121 : amT 63 121 123 (.iload 7) 0 := r63 (len := 2) (by decide +kernel) rfl
theorem e63_123 : amT 63 123 126 (.putfield 23) 132 := r63 (len := 3) (by decide +kernel) rfl
theorem e63_126 : amT 63 126 129 (.goto 14) 0 := r63 (len := 3) (by decide +kernel) rfl
theorem t63_126 : amTg 126 14 = some 140 := by decide
theorem e63_129 : amT 63 129 130 (.aload_n 0) 0 := r63 (len := 1) (by decide +kernel) rfl
theorem e63_130 : amT 63 130 131 (.lload_n 3) 0 := r63 (len := 1) (by decide +kernel) rfl
theorem e63_131 : amT 63 131 134 (.putfield 7) 128 := r63 (len := 3) (by decide +kernel) rfl
theorem e63_134 : amT 63 134 135 (.aload_n 0) 0 := r63 (len := 1) (by decide +kernel) rfl
theorem e63_135 : amT 63 135 137 (.iload 7) 0 := r63 (len := 2) (by decide +kernel) rfl
theorem e63_137 : amT 63 137 140 (.putfield 19) 131 := r63 (len := 3) (by decide +kernel) rfl
theorem e63_140 : amT 63 140 141 (.iconst 1) 0 := r63 (len := 1) (by decide +kernel) rfl
theorem e63_141 : amT 63 141 142 (.ireturn) 0 := r63 (len := 1) (by decide +kernel) rfl
theorem q64 : amCs.getD 64 [] = amC_64 := rfl
theorem r64 {pc pc' len op : Nat} {i : Instr} (h : amC_64.lookup pc = some (i, len, op)) (h2 : pc + len = pc') : amT 64 pc pc' i op := ⟨len, by unfold amEnt; rw [q64]; exact h, h2⟩
theorem e64_0 : amT 64 0 1 (.aload_n 0) 0 := r64 (len := 1) (by decide +kernel) rfl
theorem e64_1 : amT 64 1 2 (.aload_n 0) 0 := r64 (len := 1) (by decide +kernel) rfl
theorem e64_2 : amT 64 2 5 (.getfield 7) 128 := r64 (len := 3) (by decide +kernel) rfl
theorem e64_5 : amT 64 5 8 (.invokevirtual 48) 70 := r64 (len := 3) (by decide +kernel) rfl
theorem e64_8 : amT 64 8 9 (.ireturn) 0 := r64 (len := 1) (by decide +kernel) rfl
theorem q65 : amCs.getD 65 [] = amC_65 := rfl
theorem r65 {pc pc' len op : Nat} {i : Instr} (h : amC_65.lookup pc = some (i, len, op)) (h2 : pc + len = pc') : amT 65 pc pc' i op := ⟨len, by unfold amEnt; rw [q65]; exact h, h2⟩
theorem e65_0 : amT 65 0 1 (.aload_n 0) 0 := r65 (len := 1) (by decide +kernel) rfl
theorem e65_1 : amT 65 1 2 (.aload_n 0) 0 := r65 (len := 1) (by decide +kernel) rfl
theorem e65_2 : amT 65 2 5 (.getfield 7) 128 := r65 (len := 3) (by decide +kernel) rfl
theorem e65_5 : amT 65 5 8 (.invokevirtual 52) 71 := r65 (len := 3) (by decide +kernel) rfl
theorem e65_8 : amT 65 8 9 (.ireturn) 0 := r65 (len := 1) (by decide +kernel) rfl
theorem q66 : amCs.getD 66 [] = amC_66 := rfl
theorem r66 {pc pc' len op : Nat} {i : Instr} (h : amC_66.lookup pc = some (i, len, op)) (h2 : pc + len = pc') : amT 66 pc pc' i op := ⟨len, by unfold amEnt; rw [q66]; exact h, h2⟩
theorem e66_0 : amT 66 0 1 (.aload_n 0) 0 := r66 (len := 1) (by decide +kernel) rfl
theorem e66_1 : amT 66 1 2 (.aload_n 0) 0 := r66 (len := 1) (by decide +kernel) rfl
theorem e66_2 : amT 66 2 5 (.getfield 13) 129 := r66 (len := 3) (by decide +kernel) rfl
theorem e66_5 : amT 66 5 8 (.invokevirtual 48) 70 := r66 (len := 3) (by decide +kernel) rfl
theorem e66_8 : amT 66 8 9 (.ireturn) 0 := r66 (len := 1) (by decide +kernel) rfl
theorem q67 : amCs.getD 67 [] = amC_67 := rfl
theorem r67 {pc pc' len op : Nat} {i : Instr} (h : amC_67.lookup pc = some (i, len, op)) (h2 : pc + len = pc') : amT 67 pc pc' i op := ⟨len, by unfold amEnt; rw [q67]; exact h, h2⟩
theorem e67_0 : amT 67 0 1 (.aload_n 0) 0 := r67 (len := 1) (by decide +kernel) rfl
theorem e67_1 : amT 67 1 2 (.aload_n 0) 0 := r67 (len := 1) (by decide +kernel) rfl
theorem e67_2 : amT 67 2 5 (.getfield 13) 129 := r67 (len := 3) (by decide +kernel) rfl
theorem e67_5 : amT 67 5 8 (.invokevirtual 52) 71 := r67 (len := 3) (by decide +kernel) rfl
theorem e67_8 : amT 67 8 9 (.ireturn) 0 := r67 (len := 1) (by decide +kernel) rfl
theorem q68 : amCs.getD 68 [] = amC_68 := rfl
theorem r68 {pc pc' len op : Nat} {i : Instr} (h : amC_68.lookup pc = some (i, len, op)) (h2 : pc + len = pc') : amT 68 pc pc' i op := ⟨len, by unfold amEnt; rw [q68]; exact h, h2⟩
theorem e68_0 : amT 68 0 1 (.aload_n 1) 0 := r68 (len := 1) (by decide +kernel) rfl
theorem e68_1 : amT 68 1 2 (.aload_n 0) 0 := r68 (len := 1) (by decide +kernel) rfl
theorem e68_2 : amT 68 2 5 (.invokevirtual 65) 64 := r68 (len := 3) (by decide +kernel) rfl
theorem e68_5 : amT 68 5 6 (.aload_n 0) 0 := r68 (len := 1) (by decide +kernel) rfl
theorem e68_6 : amT 68 6 9 (.invokevirtual 68) 65 := r68 (len := 3) (by decide +kernel) rfl
theorem e68_9 : amT 68 9 12 (.invokevirtual 61) 34 := r68 (len := 3) (by decide +kernel) rfl
theorem e68_12 : amT 68 12 13 (.aload_n 1) 0 := r68 (len := 1) (by decide +kernel) rfl
theorem e68_13 : amT 68 13 14 (.aload_n 0) 0 := r68 (len := 1) (by decide +kernel) rfl
theorem e68_14 : amT 68 14 17 (.invokevirtual 71) 66 := r68 (len := 3) (by decide +kernel) rfl
theorem e68_17 : amT 68 17 18 (.aload_n 0) 0 := r68 (len := 1) (by decide +kernel) rfl
theorem e68_18 : amT 68 18 21 (.invokevirtual 74) 67 := r68 (len := 3) (by decide +kernel) rfl
theorem e68_21 : amT 68 21 24 (.invokevirtual 61) 34 := r68 (len := 3) (by decide +kernel) rfl
theorem e68_24 : amT 68 24 25 (.isub) 0 := r68 (len := 1) (by decide +kernel) rfl
theorem e68_25 : amT 68 25 26 (.ireturn) 0 := r68 (len := 1) (by decide +kernel) rfl
theorem q69 : amCs.getD 69 [] = amC_69 := rfl
theorem r69 {pc pc' len op : Nat} {i : Instr} (h : amC_69.lookup pc = some (i, len, op)) (h2 : pc + len = pc') : amT 69 pc pc' i op := ⟨len, by unfold amEnt; rw [q69]; exact h, h2⟩
theorem e69_0 : amT 69 0 1 (.aload_n 0) 0 := r69 (len := 1) (by decide +kernel) rfl
theorem e69_1 : amT 69 1 4 (.getfield 13) 129 := r69 (len := 3) (by decide +kernel) rfl
theorem e69_4 : amT 69 4 5 (.aload_n 1) 0 := r69 (len := 1) (by decide +kernel) rfl
theorem e69_5 : amT 69 5 8 (.getfield 16) 130 := r69 (len := 3) (by decide +kernel) rfl
theorem e69_8 : amT 69 8 9 (.lmul) 0 := r69 (len := 1) (by decide +kernel) rfl
theorem e69_9 : amT 69 9 10 (.aload_n 1) 0 := r69 (len := 1) (by decide +kernel) rfl
theorem e69_10 : amT 69 10 13 (.getfield 7) 128 := r69 (len := 3) (by decide +kernel) rfl
theorem e69_13 : amT 69 13 14 (.aload_n 0) 0 := r69 (len := 1) (by decide +kernel) rfl
theorem e69_14 : amT 69 14 17 (.getfield 16) 130 := r69 (len := 3) (by decide +kernel) rfl
theorem e69_17 : amT 69 17 18 (.lmul) 0 := r69 (len := 1) (by decide +kernel) rfl
theorem e69_18 : amT 69 18 19 (.lcmp) 0 := r69 (len := 1) (by decide +kernel) rfl
theorem e69_19 : amT 69 19 22 (.ifCond .gt 7) 0 := r69 (len := 3) (by decide +kernel) rfl
theorem t69_19 : amTg 19 7 = some 26 := by decide
theorem e69_22 : amT 69 22 23 (.iconst 1) 0 := r69 (len := 1) (by decide +kernel) rfl
theorem e69_23 : amT 69 23 26 (.goto 4) 0 := r69 (len := 3) (by decide +kernel) rfl
theorem t69_23 : amTg 23 4 = some 27 := by decide
theorem e69_26 : amT 69 26 27 (.iconst 0) 0 := r69 (len := 1) (by decide +kernel) rfl
theorem e69_27 : amT 69 27 28 (.ireturn) 0 := r69 (len := 1) (by decide +kernel) rfl
theorem q70 : amCs.getD 70 [] = amC_70 := rfl
theorem r70 {pc pc' len op : Nat} {i : Instr} (h : amC_70.lookup pc = some (i, len, op)) (h2 : pc + len = pc') : amT 70 pc pc' i op := ⟨len, by unfold amEnt; rw [q70]; exact h, h2⟩
theorem e70_0 : amT 70 0 1 (.lload_n 1) 0 := r70 (len := 1) (by decide +kernel) rfl
theorem e70_1 : amT 70 1 2 (.aload_n 0) 0 := r70 (len := 1) (by decide +kernel) rfl
theorem e70_2 : amT 70 2 5 (.getfield 16) 130 := r70 (len := 3) (by decide +kernel) rfl
theorem e70_5 : amT 70 5 8 (.invokestatic 77) 151 := r70 (len := 3) (by decide +kernel) rfl
theorem e70_8 : amT 70 8 9 (.lstore_n 3) 0 := r70 (len := 1) (by decide +kernel) rfl
theorem e70_9 : amT 70 9 10 (.lload_n 3) 0 := r70 (len := 1) (by decide +kernel) rfl
theorem e70_10 : amT 70 10 11 (.lconst 0) 0 := r70 (len := 1) (by decide +kernel) rfl
theorem e70_11 : amT 70 11 12 (.lcmp) 0 := r70 (len := 1) (by decide +kernel) rfl
theorem e70_12 : amT 70 12 15 (.ifCond .le 10) 0 := r70 (len := 3) (by decide +kernel) rfl
theorem t70_12 : amTg 12 10 = some 22 := by decide
theorem e70_15 : amT 70 15 16 (.lload_n 1) 0 := r70 (len := 1) (by decide +kernel) rfl
theorem e70_16 : amT 70 16 17 (.lload_n 3) 0 := r70 (len := 1) (by decide +kernel) rfl
theorem e70_17 : amT 70 17 18 (.ldiv) 0 := r70 (len := 1) (by decide +kernel) rfl
theorem e70_18 : amT 70 18 19 (.l2i) 0 := r70 (len := 1) (by decide +kernel) rfl
theorem e70_19 : amT 70 19 22 (.goto 4) 0 := r70 (len := 3) (by decide +kernel) rfl
theorem t70_19 : amTg 19 4 = some 23 := by decide
theorem e70_22 : amT 70 22 23 (.iconst 0) 0 := r70 (len := 1) (by decide +kernel) rfl
theorem e70_23 : amT 70 23 24 (.ireturn) 0 := r70 (len := 1) (by decide +kernel) rfl
theorem q71 : amCs.getD 71 [] = amC_71 := rfl
theorem r71 {pc pc' len op : Nat} {i : Instr} (h : amC_71.lookup pc = some (i, len, op)) (h2 : pc + len = pc') : amT 71 pc pc' i op := ⟨len, by unfold amEnt; rw [q71]; exact h, h2⟩
theorem e71_0 : amT 71 0 1 (.lload_n 1) 0 := r71 (len := 1) (by decide +kernel) rfl
theorem e71_1 : amT 71 1 2 (.aload_n 0) 0 := r71 (len := 1) (by decide +kernel) rfl
theorem e71_2 : amT 71 2 5 (.getfield 16) 130 := r71 (len := 3) (by decide +kernel) rfl
theorem e71_5 : amT 71 5 8 (.invokestatic 77) 151 := r71 (len := 3) (by decide +kernel) rfl
theorem e71_8 : amT 71 8 9 (.lstore_n 3) 0 := r71 (len := 1) (by decide +kernel) rfl
theorem e71_9 : amT 71 9 10 (.lload_n 3) 0 := r71 (len := 1) (by decide +kernel) rfl
theorem e71_10 : amT 71 10 11 (.lconst 0) 0 := r71 (len := 1) (by decide +kernel) rfl
theorem e71_11 : amT 71 11 12 (.lcmp) 0 := r71 (len := 1) (by decide +kernel) rfl
theorem e71_12 : amT 71 12 15 (.ifCond .le 13) 0 := r71 (len := 3) (by decide +kernel) rfl
theorem t71_12 : amTg 12 13 = some 25 := by decide
theorem e71_15 : amT 71 15 16 (.aload_n 0) 0 := r71 (len := 1) (by decide +kernel) rfl
theorem e71_16 : amT 71 16 19 (.getfield 16) 130 := r71 (len := 3) (by decide +kernel) rfl
theorem e71_19 : amT 71 19 20 (.lload_n 3) 0 := r71 (len := 1) (by decide +kernel) rfl
theorem e71_20 : amT 71 20 21 (.ldiv) 0 := r71 (len := 1) (by decide +kernel) rfl
theorem e71_21 : amT 71 21 22 (.l2i) 0 := r71 (len := 1) (by decide +kernel) rfl
theorem e71_22 : amT 71 22 25 (.goto 4) 0 := r71 (len := 3) (by decide +kernel) rfl
theorem t71_22 : amTg 22 4 = some 26 := by decide
theorem e71_25 : amT 71 25 26 (.iconst 1) 0 := r71 (len := 1) (by decide +kernel) rfl
theorem e71_26 : amT 71 26 27 (.ireturn) 0 := r71 (len := 1) (by decide +kernel) rfl
theorem q73 : amCs.getD 73 [] = amC_73 := rfl
theorem r73 {pc pc' len op : Nat} {i : Instr} (h : amC_73.lookup pc = some (i, len, op)) (h2 : pc + len = pc') : amT 73 pc pc' i op := ⟨len, by unfold amEnt; rw [q73]; exact h, h2⟩
theorem e73_0 : amT 73 0 1 (.aload_n 0) 0 := r73 (len := 1) (by decide +kernel) rfl
theorem e73_1 : amT 73 1 4 (.getfield 24) 196 := r73 (len := 3) (by decide +kernel) rfl
theorem e73_4 : amT 73 4 5 (.ireturn) 0 := r73 (len := 1) (by decide +kernel) rfl
theorem q74 : amCs.getD 74 [] = amC_74 := rfl
theorem r74 {pc pc' len op : Nat} {i : Instr} (h : amC_74.lookup pc = some (i, len, op)) (h2 : pc + len = pc') : amT 74 pc pc' i op := ⟨len, by unfold amEnt; rw [q74]; exact h, h2⟩
theorem e74_0 : amT 74 0 1 (.iload_n 1) 0 := r74 (len := 1) (by decide +kernel) rfl
theorem e74_1 : amT 74 1 4 (.ifCond .lt 17) 0 := r74 (len := 3) (by decide +kernel) rfl
theorem t74_1 : amTg 1 17 = some 18 := by decide
theorem e74_4 : amT 74 4 5 (.iload_n 1) 0 := r74 (len := 1) (by decide +kernel) rfl
theorem e74_5 : amT 74 5 6 (.iconst 4) 0 := r74 (len := 1) (by decide +kernel) rfl
theorem e74_6 : amT 74 6 9 (.if_icmp .ge 12) 0 := r74 (len := 3) (by decide +kernel) rfl
theorem t74_6 : amTg 6 12 = some 18 := by decide
theorem e74_9 : amT 74 9 10 (.aload_n 0) 0 := r74 (len := 1) (by decide +kernel) rfl
theorem e74_10 : amT 74 10 13 (.getfield 11) 192 := r74 (len := 3) (by decide +kernel) rfl
theorem e74_13 : amT 74 13 14 (.iload_n 1) 0 := r74 (len := 1) (by decide +kernel) rfl
theorem e74_14 : amT 74 14 15 (.iaload) 0 := r74 (len := 1) (by decide +kernel) rfl
theorem e74_15 : amT 74 15 18 (.goto 4) 0 := r74 (len := 3) (by decide +kernel) rfl
theorem t74_15 : amTg 15 4 = some 19 := by decide
theorem e74_18 : amT 74 18 19 (.iconst 0) 0 := r74 (len := 1) (by decide +kernel) rfl
theorem e74_19 : amT 74 19 20 (.ireturn) 0 := r74 (len := 1) (by decide +kernel) rfl
theorem q75 : amCs.getD 75 [] = amC_75 := rfl
theorem r75 {pc pc' len op : Nat} {i : Instr} (h : amC_75.lookup pc = some (i, len, op)) (h2 : pc + len = pc') : amT 75 pc pc' i op := ⟨len, by unfold amEnt; rw [q75]; exact h, h2⟩
theorem e75_0 : amT 75 0 1 (.iload_n 1) 0 := r75 (len := 1) (by decide +kernel) rfl
theorem e75_1 : amT 75 1 4 (.ifCond .lt 17) 0 := r75 (len := 3) (by decide +kernel) rfl
theorem t75_1 : amTg 1 17 = some 18 := by decide
theorem e75_4 : amT 75 4 5 (.iload_n 1) 0 := r75 (len := 1) (by decide +kernel) rfl
theorem e75_5 : amT 75 5 6 (.iconst 4) 0 := r75 (len := 1) (by decide +kernel) rfl
theorem e75_6 : amT 75 6 9 (.if_icmp .ge 12) 0 := r75 (len := 3) (by decide +kernel) rfl
theorem t75_6 : amTg 6 12 = some 18 := by decide
theorem e75_9 : amT 75 9 10 (.aload_n 0) 0 := r75 (len := 1) (by decide +kernel) rfl
theorem e75_10 : amT 75 10 13 (.getfield 15) 193 := r75 (len := 3) (by decide +kernel) rfl
theorem e75_13 : amT 75 13 14 (.iload_n 1) 0 := r75 (len := 1) (by decide +kernel) rfl
theorem e75_14 : amT 75 14 15 (.iaload) 0 := r75 (len := 1) (by decide +kernel) rfl
theorem e75_15 : amT 75 15 18 (.goto 4) 0 := r75 (len := 3) (by decide +kernel) rfl
theorem t75_15 : amTg 15 4 = some 19 := by decide
theorem e75_18 : amT 75 18 19 (.iconst 1) 0 := r75 (len := 1) (by decide +kernel) rfl
theorem e75_19 : amT 75 19 20 (.ireturn) 0 := r75 (len := 1) (by decide +kernel) rfl
theorem q76 : amCs.getD 76 [] = amC_76 := rfl
theorem r76 {pc pc' len op : Nat} {i : Instr} (h : amC_76.lookup pc = some (i, len, op)) (h2 : pc + len = pc') : amT 76 pc pc' i op := ⟨len, by unfold amEnt; rw [q76]; exact h, h2⟩
theorem e76_0 : amT 76 0 1 (.aload_n 0) 0 := r76 (len := 1) (by decide +kernel) rfl
theorem e76_1 : amT 76 1 2 (.iconst 0) 0 := r76 (len := 1) (by decide +kernel) rfl
theorem e76_2 : amT 76 2 5 (.putfield 24) 196 := r76 (len := 3) (by decide +kernel) rfl
theorem e76_5 : amT 76 5 6 (.iconst 0) 0 := r76 (len := 1) (by decide +kernel) rfl
theorem e76_6 : amT 76 6 7 (.istore_n 2) 0 := r76 (len := 1) (by decide +kernel) rfl
theorem e76_7 : amT 76 7 8 (.iload_n 2) 0 := r76 (len := 1) (by decide +kernel) rfl
theorem e76_8 : amT 76 8 9 (.iconst 4) 0 := r76 (len := 1) (by decide +kernel) rfl
theorem e76_9 : amT 76 9 12 (.if_icmp .ge 19) 0 := r76 (len := 3) (by decide +kernel) rfl
theorem t76_9 : amTg 9 19 = some 28 := by decide
theorem e76_12 : amT 76 12 13 (.aload_n 1) 0 := r76 (len := 1) (by decide +kernel) rfl
theorem e76_13 : amT 76 13 14 (.iload_n 2) 0 := r76 (len := 1) (by decide +kernel) rfl
theorem e76_14 : amT 76 14 17 (.invokevirtual 28) 3 := r76 (len := 3) (by decide +kernel) rfl
theorem e76_17 : amT 76 17 18 (.lconst 0) 0 := r76 (len := 1) (by decide +kernel) rfl
theorem e76_18 : amT 76 18 19 (.lcmp) 0 := r76 (len := 1) (by decide +kernel) rfl
theorem e76_19 : amT 76 19 22 (.ifCond .ne 9) 0 := r76 (len := 3) (by decide +kernel) rfl
theorem t76_19 : amTg 19 9 = some 28 := by decide
theorem e76_22 : amT 76 22 25 (.iinc 2 1) 0 := r76 (len := 3) (by decide +kernel) rfl
theorem e76_25 : amT 76 25 28 (.goto (-18)) 0 := r76 (len := 3) (by decide +kernel) rfl
theorem t76_25 : amTg 25 (-18) = some 7 := by decide
theorem e76_28 : amT 76 28 29 (.iload_n 2) 0 := r76 (len := 1) (by decide +kernel) rfl
theorem e76_29 : amT 76 29 32 (.ifCond .le 9) 0 := r76 (len := 3) (by decide +kernel) rfl
theorem t76_29 : amTg 29 9 = some 38 := by decide
theorem e76_32 : amT 76 32 33 (.aload_n 0) 0 := r76 (len := 1) (by decide +kernel) rfl
theorem e76_33 : amT 76 33 34 (.iconst 0) 0 := r76 (len := 1) (by decide +kernel) rfl
theorem e76_34 : amT 76 34 35 (.iconst 1) 0 := r76 (len := 1) (by decide +kernel) rfl
theorem e76_35 : amT 76 35 38 (.invokevirtual 34) 78 := r76 (len := 3) (by decide +kernel) rfl
theorem e76_38 : amT 76 38 39 (.aload_n 1) 0 := r76 (len := 1) (by decide +kernel) rfl
theorem e76_39 : amT 76 39 40 (.iload_n 2) 0 := r76 (len := 1) (by decide +kernel) rfl
theorem e76_40 : amT 76 40 43 (.invokevirtual 28) 3 := r76 (len := 3) (by decide +kernel) rfl
theorem e76_43 : amT 76 43 44 (.aload_n 0) 0 := r76 (len := 1) (by decide +kernel) rfl
theorem e76_44 : amT 76 44 47 (.getfield 18) 194 := r76 (len := 3) (by decide +kernel) rfl
theorem e76_47 : amT 76 47 50 (.invokestatic 38) 250 := r76 (len := 3) (by decide +kernel) rfl
theorem e76_50 : amT 76 50 51 (.istore_n 3) 0 := r76 (len := 1) (by decide +kernel) rfl
theorem e76_51 : amT 76 51 52 (.aload_n 1) 0 := r76 (len := 1) (by decide +kernel) rfl
theorem e76_52 : amT 76 52 55 (.invokevirtual 42) 6 := r76 (len := 3) (by decide +kernel) rfl
theorem e76_55 : amT 76 55 56 (.aload_n 0) 0 := r76 (len := 1) (by decide +kernel) rfl
theorem e76_56 : amT 76 56 59 (.getfield 21) 195 := r76 (len := 3) (by decide +kernel) rfl
theorem e76_59 : amT 76 59 62 (.invokestatic 38) 250 := r76 (len := 3) (by decide +kernel) rfl
theorem e76_62 : amT 76 62 64 (.istore 4) 0 := r76 (len := 2) (by decide +kernel) rfl
theorem e76_64 : amT 76 64 65 (.iconst 0) 0 := r76 (len := 1) (by decide +kernel) rfl
theorem e76_65 : amT 76 65 67 (.istore 5) 0 := r76 (len := 2) (by decide +kernel) rfl
theorem e76_67 : amT 76 67 69 (.iload 5) 0 := r76 (len := 2) (by decide +kernel) rfl
theorem e76_69 : amT 76 69 70 (.iload_n 3) 0 := r76 (len := 1) (by decide +kernel) rfl
theorem e76_70 : amT 76 70 73 (.if_icmp .ge 58) 0 := r76 (len := 3) (by decide +kernel) rfl
theorem t76_70 : amTg 70 58 = some 128 := by decide
theorem e76_73 : amT 76 73 75 (.iload 5) 0 := r76 (len := 2) (by decide +kernel) rfl
theorem e76_75 : amT 76 75 77 (.bipush 32) 0 := r76 (len := 2) (by decide +kernel) rfl
theorem e76_77 : amT 76 77 80 (.if_icmp .ge 51) 0 := r76 (len := 3) (by decide +kernel) rfl
theorem t76_77 : amTg 77 51 = some 128 := by decide
theorem e76_80 : amT 76 80 81 (.iconst 0) 0 := r76 (len := 1) (by decide +kernel) rfl
theorem e76_81 : amT 76 81 83 (.istore 6) 0 := r76 (len := 2) (by decide +kernel) rfl
theorem e76_83 : amT 76 83 85 (.iload 6) 0 := r76 (len := 2) (by decide +kernel) rfl
theorem e76_85 : amT 76 85 87 (.iload 4) 0 := r76 (len := 2) (by decide +kernel) rfl
theorem e76_87 : amT 76 87 90 (.if_icmp .ge 35) 0 := r76 (len := 3) (by decide +kernel) rfl
theorem t76_87 : amTg 87 35 = some 122 := by decide
theorem e76_90 : amT 76 90 92 (.iload 6) 0 := r76 (len := 2) (by decide +kernel) rfl
theorem e76_92 : amT 76 92 94 (.bipush 32) 0 := r76 (len := 2) (by decide +kernel) rfl
theorem e76_94 : amT 76 94 97 (.if_icmp .ge 28) 0 := r76 (len := 3) (by decide +kernel) rfl
theorem t76_94 : amTg 94 28 = some 122 := by decide
theorem e76_97 : amT 76 97 98 (.aload_n 0) 0 := r76 (len := 1) (by decide +kernel) rfl
theorem e76_98 : amT 76 98 99 (.aload_n 1) 0 := r76 (len := 1) (by decide +kernel) rfl
theorem e76_99 : amT 76 99 100 (.aload_n 0) 0 := r76 (len := 1) (by decide +kernel) rfl
theorem e76_100 : amT 76 100 103 (.getfield 18) 194 := r76 (len := 3) (by decide +kernel) rfl
theorem e76_103 : amT 76 103 105 (.iload 5) 0 := r76 (len := 2) (by decide +kernel) rfl
theorem e76_105 : amT 76 105 106 (.iaload) 0 := r76 (len := 1) (by decide +kernel) rfl
theorem e76_106 : amT 76 106 107 (.aload_n 0) 0 := r76 (len := 1) (by decide +kernel) rfl
theorem e76_107 : amT 76 107 110 (.getfield 21) 195 := r76 (len := 3) (by decide +kernel) rfl
theorem e76_110 : amT 76 110 112 (.iload 6) 0 := r76 (len := 2) (by decide +kernel) rfl
theorem e76_112 : amT 76 112 113 (.iaload) 0 := r76 (len := 1) (by decide +kernel) rfl
theorem e76_113 : amT 76 113 116 (.invokevirtual 46) 77 := r76 (len := 3) (by decide +kernel) rfl
theorem e76_116 : amT 76 116 119 (.iinc 6 1) 0 := r76 (len := 3) (by decide +kernel) rfl
theorem e76_119 : amT 76 119 122 (.goto (-36)) 0 := r76 (len := 3) (by decide +kernel) rfl
theorem t76_119 : amTg 119 (-36) = some 83 := by decide
theorem e76_122 : amT 76 122 125 (.iinc 5 1) 0 := r76 (len := 3) (by decide +kernel) rfl
theorem e76_125 : amT 76 125 128 (.goto (-58)) 0 := r76 (len := 3) (by decide +kernel) rfl
theorem t76_125 : amTg 125 (-58) = some 67 := by decide
theorem e76_128 : amT 76 128 129 (.return_) 0 := r76 (len := 1) (by decide +kernel) rfl
theorem q77 : amCs.getD 77 [] = amC_77 := rfl
theorem r77 {pc pc' len op : Nat} {i : Instr} (h : amC_77.lookup pc = some (i, len, op)) (h2 : pc + len = pc') : amT 77 pc pc' i op := ⟨len, by unfold amEnt; rw [q77]; exact h, h2⟩
theorem e77_0 : amT 77 0 1 (.iload_n 2) 0 := r77 (len := 1) (by decide +kernel) rfl
theorem e77_1 : amT 77 1 2 (.i2l) 0 := r77 (len := 1) (by decide +kernel) rfl
theorem e77_2 : amT 77 2 3 (.iload_n 3) 0 := r77 (len := 1) (by decide +kernel) rfl
theorem e77_3 : amT 77 3 4 (.i2l) 0 := r77 (len := 1) (by decide +kernel) rfl
theorem e77_4 : amT 77 4 7 (.invokestatic 50) 151 := r77 (len := 3) (by decide +kernel) rfl
theorem e77_7 : amT 77 7 8 (.lconst 1) 0 := r77 (len := 1) (by decide +kernel) rfl
theorem e77_8 : amT 77 8 9 (.lcmp) 0 := r77 (len := 1) (by decide +kernel) rfl
theorem e77_9 : amT 77 9 12 (.ifCond .eq 4) 0 := r77 (len := 3) (by decide +kernel) rfl
theorem t77_9 : amTg 9 4 = some 13 := by decide
theorem e77_12 : amT 77 12 13 (.return_) 0 := r77 (len := 1) (by decide +kernel) rfl
theorem e77_13 : amT 77 13 14 (.aload_n 1) 0 := r77 (len := 1) (by decide +kernel) rfl
theorem e77_14 : amT 77 14 15 (.iload_n 2) 0 := r77 (len := 1) (by decide +kernel) rfl
theorem e77_15 : amT 77 15 16 (.i2l) 0 := r77 (len := 1) (by decide +kernel) rfl
theorem e77_16 : amT 77 16 17 (.iload_n 3) 0 := r77 (len := 1) (by decide +kernel) rfl
theorem e77_17 : amT 77 17 18 (.i2l) 0 := r77 (len := 1) (by decide +kernel) rfl
theorem e77_18 : amT 77 18 21 (.invokevirtual 54) 20 := r77 (len := 3) (by decide +kernel) rfl
theorem e77_21 : amT 77 21 22 (.lconst 0) 0 := r77 (len := 1) (by decide +kernel) rfl
theorem e77_22 : amT 77 22 23 (.lcmp) 0 := r77 (len := 1) (by decide +kernel) rfl
theorem e77_23 : amT 77 23 26 (.ifCond .ne 9) 0 := r77 (len := 3) (by decide +kernel) rfl
theorem t77_23 : amTg 23 9 = some 32 := by decide
theorem e77_26 : amT 77 26 27 (.aload_n 0) 0 := r77 (len := 1) (by decide +kernel) rfl
theorem e77_27 : amT 77 27 28 (.iload_n 2) 0 := r77 (len := 1) (by decide +kernel) rfl
theorem e77_28 : amT 77 28 29 (.iload_n 3) 0 := r77 (len := 1) (by decide +kernel) rfl
theorem e77_29 : amT 77 29 32 (.invokevirtual 34) 78 := r77 (len := 3) (by decide +kernel) rfl
theorem e77_32 : amT 77 32 33 (.aload_n 1) 0 := r77 (len := 1) (by decide +kernel) rfl
theorem e77_33 : amT 77 33 34 (.iload_n 2) 0 := r77 (len := 1) (by decide +kernel) rfl
theorem e77_34 : amT 77 34 35 (.ineg) 0 := r77 (len := 1) (by decide +kernel) rfl
theorem e77_35 : amT 77 35 36 (.i2l) 0 := r77 (len := 1) (by decide +kernel) rfl
theorem e77_36 : amT 77 36 37 (.iload_n 3) 0 := r77 (len := 1) (by decide +kernel) rfl
theorem e77_37 : amT 77 37 38 (.i2l) 0 := r77 (len := 1) (by decide +kernel) rfl
theorem e77_38 : amT 77 38 41 (.invokevirtual 54) 20 := r77 (len := 3) (by decide +kernel) rfl
theorem e77_41 : amT 77 41 42 (.lconst 0) 0 := r77 (len := 1) (by decide +kernel) rfl
theorem e77_42 : amT 77 42 43 (.lcmp) 0 := r77 (len := 1) (by decide +kernel) rfl
theorem e77_43 : amT 77 43 46 (.ifCond .ne 10) 0 := r77 (len := 3) (by decide +kernel) rfl
theorem t77_43 : amTg 43 10 = some 53 := by decide
theorem e77_46 : amT 77 46 47 (.aload_n 0) 0 := r77 (len := 1) (by decide +kernel) rfl
theorem e77_47 : amT 77 47 48 (.iload_n 2) 0 := r77 (len := 1) (by decide +kernel) rfl
theorem e77_48 : amT 77 48 49 (.ineg) 0 := r77 (len := 1) (by decide +kernel) rfl
theorem e77_49 : amT 77 49 50 (.iload_n 3) 0 := r77 (len := 1) (by decide +kernel) rfl
theorem e77_50 : amT 77 50 53 (.invokevirtual 34) 78 := r77 (len := 3) (by decide +kernel) rfl
theorem e77_53 : amT 77 53 54 (.return_) 0 := r77 (len := 1) (by decide +kernel) rfl
theorem q78 : amCs.getD 78 [] = amC_78 := rfl
theorem r78 {pc pc' len op : Nat} {i : Instr} (h : amC_78.lookup pc = some (i, len, op)) (h2 : pc + len = pc') : amT 78 pc pc' i op := ⟨len, by unfold amEnt; rw [q78]; exact h, h2⟩
theorem e78_0 : amT 78 0 1 (.aload_n 0) 0 := r78 (len := 1) (by decide +kernel) rfl
theorem e78_1 : amT 78 1 4 (.getfield 24) 196 := r78 (len := 3) (by decide +kernel) rfl
theorem e78_4 : amT 78 4 5 (.iconst 4) 0 := r78 (len := 1) (by decide +kernel) rfl
theorem e78_5 : amT 78 5 8 (.if_icmp .lt 4) 0 := r78 (len := 3) (by decide +kernel) rfl
theorem t78_5 : amTg 5 4 = some 9 := by decide
theorem e78_8 : amT 78 8 9 (.return_) 0 := r78 (len := 1) (by decide +kernel) rfl
theorem e78_9 : amT 78 9 10 (.aload_n 0) 0 := r78 (len := 1) (by decide +kernel) rfl
theorem e78_10 : amT 78 10 13 (.getfield 24) 196 := r78 (len := 3) (by decide +kernel) rfl
theorem e78_13 : amT 78 13 14 (.istore_n 3) 0 := r78 (len := 1) (by decide +kernel) rfl
theorem e78_14 : amT 78 14 15 (.iload_n 3) 0 := r78 (len := 1) (by decide +kernel) rfl
theorem e78_15 : amT 78 15 18 (.ifCond .le 60) 0 := r78 (len := 3) (by decide +kernel) rfl
theorem t78_15 : amTg 15 60 = some 75 := by decide
theorem e78_18 : amT 78 18 19 (.iload_n 1) 0 := r78 (len := 1) (by decide +kernel) rfl
theorem e78_19 : amT 78 19 20 (.aload_n 0) 0 := r78 (len := 1) (by decide +kernel) rfl
theorem e78_20 : amT 78 20 23 (.getfield 15) 193 := r78 (len := 3) (by decide +kernel) rfl
theorem e78_23 : amT 78 23 24 (.iload_n 3) 0 := r78 (len := 1) (by decide +kernel) rfl
theorem e78_24 : amT 78 24 25 (.iconst 1) 0 := r78 (len := 1) (by decide +kernel) rfl
theorem e78_25 : amT 78 25 26 (.isub) 0 := r78 (len := 1) (by decide +kernel) rfl
theorem e78_26 : amT 78 26 27 (.iaload) 0 := r78 (len := 1) (by decide +kernel) rfl
theorem e78_27 : amT 78 27 28 (.imul) 0 := r78 (len := 1) (by decide +kernel) rfl
theorem e78_28 : amT 78 28 29 (.aload_n 0) 0 := r78 (len := 1) (by decide +kernel) rfl
theorem e78_29 : amT 78 29 32 (.getfield 11) 192 := r78 (len := 3) (by decide +kernel) rfl
theorem e78_32 : amT 78 32 33 (.iload_n 3) 0 := r78 (len := 1) (by decide +kernel) rfl
theorem e78_33 : amT 78 33 34 (.iconst 1) 0 := r78 (len := 1) (by decide +kernel) rfl
theorem e78_34 : amT 78 34 35 (.isub) 0 := r78 (len := 1) (by decide +kernel) rfl
theorem e78_35 : amT 78 35 36 (.iaload) 0 := r78 (len := 1) (by decide +kernel) rfl
theorem e78_36 : amT 78 36 37 (.iload_n 2) 0 := r78 (len := 1) (by decide +kernel) rfl
theorem e78_37 : amT 78 37 38 (.imul) 0 := r78 (len := 1) (by decide +kernel) rfl
theorem e78_38 : amT 78 38 41 (.if_icmp .ge 37) 0 := r78 (len := 3) (by decide +kernel) rfl
theorem t78_38 : amTg 38 37 = some 75 := by decide
theorem e78_41 : amT 78 41 42 (.aload_n 0) 0 := r78 (len := 1) (by decide +kernel) rfl
theorem e78_42 : amT 78 42 45 (.getfield 11) 192 := r78 (len := 3) (by decide +kernel) rfl
theorem e78_45 : amT 78 45 46 (.iload_n 3) 0 := r78 (len := 1) (by decide +kernel) rfl
theorem e78_46 : amT 78 46 47 (.aload_n 0) 0 := r78 (len := 1) (by decide +kernel) rfl
theorem e78_47 : amT 78 47 50 (.getfield 11) 192 := r78 (len := 3) (by decide +kernel) rfl
theorem e78_50 : amT 78 50 51 (.iload_n 3) 0 := r78 (len := 1) (by decide +kernel) rfl
theorem e78_51 : amT 78 51 52 (.iconst 1) 0 := r78 (len := 1) (by decide +kernel) rfl
theorem e78_52 : amT 78 52 53 (.isub) 0 := r78 (len := 1) (by decide +kernel) rfl
theorem e78_53 : amT 78 53 54 (.iaload) 0 := r78 (len := 1) (by decide +kernel) rfl
theorem e78_54 : amT 78 54 55 (.iastore) 0 := r78 (len := 1) (by decide +kernel) rfl
theorem e78_55 : amT 78 55 56 (.aload_n 0) 0 := r78 (len := 1) (by decide +kernel) rfl
theorem e78_56 : amT 78 56 59 (.getfield 15) 193 := r78 (len := 3) (by decide +kernel) rfl
theorem e78_59 : amT 78 59 60 (.iload_n 3) 0 := r78 (len := 1) (by decide +kernel) rfl
theorem e78_60 : amT 78 60 61 (.aload_n 0) 0 := r78 (len := 1) (by decide +kernel) rfl
theorem e78_61 : amT 78 61 64 (.getfield 15) 193 := r78 (len := 3) (by decide +kernel) rfl
theorem e78_64 : amT 78 64 65 (.iload_n 3) 0 := r78 (len := 1) (by decide +kernel) rfl
theorem e78_65 : amT 78 65 66 (.iconst 1) 0 := r78 (len := 1) (by decide +kernel) rfl
theorem e78_66 : amT 78 66 67 (.isub) 0 := r78 (len := 1) (by decide +kernel) rfl
theorem e78_67 : amT 78 67 68 (.iaload) 0 := r78 (len := 1) (by decide +kernel) rfl
theorem e78_68 : amT 78 68 69 (.iastore) 0 := r78 (len := 1) (by decide +kernel) rfl
theorem e78_69 : amT 78 69 72 (.iinc 3 (-1)) 0 := r78 (len := 3) (by decide +kernel) rfl
theorem e78_72 : amT 78 72 75 (.goto (-58)) 0 := r78 (len := 3) (by decide +kernel) rfl
theorem t78_72 : amTg 72 (-58) = some 14 := by decide
theorem e78_75 : amT 78 75 76 (.aload_n 0) 0 := r78 (len := 1) (by decide +kernel) rfl
theorem e78_76 : amT 78 76 79 (.getfield 11) 192 := r78 (len := 3) (by decide +kernel) rfl
theorem e78_79 : amT 78 79 80 (.iload_n 3) 0 := r78 (len := 1) (by decide +kernel) rfl
theorem e78_80 : amT 78 80 81 (.iload_n 1) 0 := r78 (len := 1) (by decide +kernel) rfl
theorem e78_81 : amT 78 81 82 (.iastore) 0 := r78 (len := 1) (by decide +kernel) rfl
theorem e78_82 : amT 78 82 83 (.aload_n 0) 0 := r78 (len := 1) (by decide +kernel) rfl
theorem e78_83 : amT 78 83 86 (.getfield 15) 193 := r78 (len := 3) (by decide +kernel) rfl
theorem e78_86 : amT 78 86 87 (.iload_n 3) 0 := r78 (len := 1) (by decide +kernel) rfl
theorem e78_87 : amT 78 87 88 (.iload_n 2) 0 := r78 (len := 1) (by decide +kernel) rfl
theorem e78_88 : amT 78 88 89 (.iastore) 0 := r78 (len := 1) (by decide +kernel) rfl
theorem e78_89 : amT 78 89 90 (.aload_n 0) 0 := r78 (len := 1) (by decide +kernel) rfl
theorem e78_90 : amT 78 90 91 (.dup) 0 := r78 (len := 1) (by decide +kernel) rfl
theorem e78_91 : amT 78 91 94 (.getfield 24) 196 := r78 (len := 3) (by decide +kernel) rfl
theorem e78_94 : amT 78 94 95 (.iconst 1) 0 := r78 (len := 1) (by decide +kernel) rfl
theorem e78_95 : amT 78 95 96 (.iadd) 0 := r78 (len := 1) (by decide +kernel) rfl
theorem e78_96 : amT 78 96 99 (.putfield 24) 196 := r78 (len := 3) (by decide +kernel) rfl
theorem e78_99 : amT 78 99 100 (.return_) 0 := r78 (len := 1) (by decide +kernel) rfl
theorem q80 : amCs.getD 80 [] = amC_80 := rfl
theorem r80 {pc pc' len op : Nat} {i : Instr} (h : amC_80.lookup pc = some (i, len, op)) (h2 : pc + len = pc') : amT 80 pc pc' i op := ⟨len, by unfold amEnt; rw [q80]; exact h, h2⟩
theorem e80_0 : amT 80 0 1 (.aload_n 0) 0 := r80 (len := 1) (by decide +kernel) rfl
theorem e80_1 : amT 80 1 4 (.getfield 15) 641 := r80 (len := 3) (by decide +kernel) rfl
theorem e80_4 : amT 80 4 5 (.ireturn) 0 := r80 (len := 1) (by decide +kernel) rfl
theorem q81 : amCs.getD 81 [] = amC_81 := rfl
theorem r81 {pc pc' len op : Nat} {i : Instr} (h : amC_81.lookup pc = some (i, len, op)) (h2 : pc + len = pc') : amT 81 pc pc' i op := ⟨len, by unfold amEnt; rw [q81]; exact h, h2⟩
theorem e81_0 : amT 81 0 1 (.aload_n 0) 0 := r81 (len := 1) (by decide +kernel) rfl
theorem e81_1 : amT 81 1 4 (.getfield 15) 641 := r81 (len := 3) (by decide +kernel) rfl
theorem e81_4 : amT 81 4 6 (.bipush 120) 0 := r81 (len := 2) (by decide +kernel) rfl
theorem e81_6 : amT 81 6 9 (.if_icmp .lt 5) 0 := r81 (len := 3) (by decide +kernel) rfl
theorem t81_6 : amTg 6 5 = some 11 := by decide
theorem e81_9 : amT 81 9 10 (.iconst 0) 0 := r81 (len := 1) (by decide +kernel) rfl
theorem e81_10 : amT 81 10 11 (.ireturn) 0 := r81 (len := 1) (by decide +kernel) rfl
theorem e81_11 : amT 81 11 12 (.aload_n 0) 0 := r81 (len := 1) (by decide +kernel) rfl
theorem e81_12 : amT 81 12 15 (.getfield 11) 640 := r81 (len := 3) (by decide +kernel) rfl
theorem e81_15 : amT 81 15 16 (.aload_n 0) 0 := r81 (len := 1) (by decide +kernel) rfl
theorem e81_16 : amT 81 16 19 (.getfield 15) 641 := r81 (len := 3) (by decide +kernel) rfl
theorem e81_19 : amT 81 19 20 (.iload_n 1) 0 := r81 (len := 1) (by decide +kernel) rfl
theorem e81_20 : amT 81 20 21 (.i2b) 0 := r81 (len := 1) (by decide +kernel) rfl
theorem e81_21 : amT 81 21 22 (.bastore) 0 := r81 (len := 1) (by decide +kernel) rfl
theorem e81_22 : amT 81 22 23 (.aload_n 0) 0 := r81 (len := 1) (by decide +kernel) rfl
theorem e81_23 : amT 81 23 24 (.dup) 0 := r81 (len := 1) (by decide +kernel) rfl
theorem e81_24 : amT 81 24 27 (.getfield 15) 641 := r81 (len := 3) (by decide +kernel) rfl
theorem e81_27 : amT 81 27 28 (.iconst 1) 0 := r81 (len := 1) (by decide +kernel) rfl
theorem e81_28 : amT 81 28 29 (.iadd) 0 := r81 (len := 1) (by decide +kernel) rfl
theorem e81_29 : amT 81 29 32 (.putfield 15) 641 := r81 (len := 3) (by decide +kernel) rfl
theorem e81_32 : amT 81 32 33 (.iconst 1) 0 := r81 (len := 1) (by decide +kernel) rfl
theorem e81_33 : amT 81 33 34 (.ireturn) 0 := r81 (len := 1) (by decide +kernel) rfl
theorem q82 : amCs.getD 82 [] = amC_82 := rfl
theorem r82 {pc pc' len op : Nat} {i : Instr} (h : amC_82.lookup pc = some (i, len, op)) (h2 : pc + len = pc') : amT 82 pc pc' i op := ⟨len, by unfold amEnt; rw [q82]; exact h, h2⟩
theorem e82_0 : amT 82 0 1 (.aload_n 0) 0 := r82 (len := 1) (by decide +kernel) rfl
theorem e82_1 : amT 82 1 2 (.iconst 0) 0 := r82 (len := 1) (by decide +kernel) rfl
theorem e82_2 : amT 82 2 5 (.putfield 15) 641 := r82 (len := 3) (by decide +kernel) rfl
theorem e82_5 : amT 82 5 6 (.return_) 0 := r82 (len := 1) (by decide +kernel) rfl
theorem q83 : amCs.getD 83 [] = amC_83 := rfl
theorem r83 {pc pc' len op : Nat} {i : Instr} (h : amC_83.lookup pc = some (i, len, op)) (h2 : pc + len = pc') : amT 83 pc pc' i op := ⟨len, by unfold amEnt; rw [q83]; exact h, h2⟩
theorem e83_0 : amT 83 0 1 (.aload_n 0) 0 := r83 (len := 1) (by decide +kernel) rfl
theorem e83_1 : amT 83 1 4 (.getfield 26) 643 := r83 (len := 3) (by decide +kernel) rfl
theorem e83_4 : amT 83 4 5 (.ireturn) 0 := r83 (len := 1) (by decide +kernel) rfl
theorem q84 : amCs.getD 84 [] = amC_84 := rfl
theorem r84 {pc pc' len op : Nat} {i : Instr} (h : amC_84.lookup pc = some (i, len, op)) (h2 : pc + len = pc') : amT 84 pc pc' i op := ⟨len, by unfold amEnt; rw [q84]; exact h, h2⟩
theorem e84_0 : amT 84 0 1 (.aload_n 0) 0 := r84 (len := 1) (by decide +kernel) rfl
theorem e84_1 : amT 84 1 4 (.getfield 29) 644 := r84 (len := 3) (by decide +kernel) rfl
theorem e84_4 : amT 84 4 5 (.ireturn) 0 := r84 (len := 1) (by decide +kernel) rfl
theorem q85 : amCs.getD 85 [] = amC_85 := rfl
theorem r85 {pc pc' len op : Nat} {i : Instr} (h : amC_85.lookup pc = some (i, len, op)) (h2 : pc + len = pc') : amT 85 pc pc' i op := ⟨len, by unfold amEnt; rw [q85]; exact h, h2⟩
theorem e85_0 : amT 85 0 1 (.aload_n 0) 0 := r85 (len := 1) (by decide +kernel) rfl
theorem e85_1 : amT 85 1 4 (.getfield 32) 645 := r85 (len := 3) (by decide +kernel) rfl
theorem e85_4 : amT 85 4 5 (.ireturn) 0 := r85 (len := 1) (by decide +kernel) rfl
theorem q86 : amCs.getD 86 [] = amC_86 := rfl
theorem r86 {pc pc' len op : Nat} {i : Instr} (h : amC_86.lookup pc = some (i, len, op)) (h2 : pc + len = pc') : amT 86 pc pc' i op := ⟨len, by unfold amEnt; rw [q86]; exact h, h2⟩
theorem e86_0 : amT 86 0 1 (.aload_n 0) 0 := r86 (len := 1) (by decide +kernel) rfl
theorem e86_1 : amT 86 1 4 (.getfield 22) 642 := r86 (len := 3) (by decide +kernel) rfl
theorem e86_4 : amT 86 4 5 (.areturn) 0 := r86 (len := 1) (by decide +kernel) rfl
theorem q87 : amCs.getD 87 [] = amC_87 := rfl
theorem r87 {pc pc' len op : Nat} {i : Instr} (h : amC_87.lookup pc = some (i, len, op)) (h2 : pc + len = pc') : amT 87 pc pc' i op := ⟨len, by unfold amEnt; rw [q87]; exact h, h2⟩
theorem e87_0 : amT 87 0 1 (.iconst 0) 0 := r87 (len := 1) (by decide +kernel) rfl
theorem e87_1 : amT 87 1 2 (.istore_n 1) 0 := r87 (len := 1) (by decide +kernel) rfl
theorem e87_2 : amT 87 2 3 (.iconst 1) 0 := r87 (len := 1) (by decide +kernel) rfl
theorem e87_3 : amT 87 3 4 (.istore_n 2) 0 := r87 (len := 1) (by decide +kernel) rfl
theorem e87_4 : amT 87 4 5 (.iload_n 2) 0 := r87 (len := 1) (by decide +kernel) rfl
theorem e87_5 : amT 87 5 7 (.bipush 120) 0 := r87 (len := 2) (by decide +kernel) rfl
theorem e87_7 : amT 87 7 10 (.if_icmp .gt 55) 0 := r87 (len := 3) (by decide +kernel) rfl
theorem t87_7 : amTg 7 55 = some 62 := by decide
theorem e87_10 : amT 87 10 11 (.aload_n 0) 0 := r87 (len := 1) (by decide +kernel) rfl
theorem e87_11 : amT 87 11 12 (.iload_n 1) 0 := r87 (len := 1) (by decide +kernel) rfl
theorem e87_12 : amT 87 12 15 (.invokevirtual 41) 88 := r87 (len := 3) (by decide +kernel) rfl
theorem e87_15 : amT 87 15 16 (.istore_n 1) 0 := r87 (len := 1) (by decide +kernel) rfl
theorem e87_16 : amT 87 16 17 (.iload_n 1) 0 := r87 (len := 1) (by decide +kernel) rfl
theorem e87_17 : amT 87 17 20 (.ifCond .lt 11) 0 := r87 (len := 3) (by decide +kernel) rfl
theorem t87_17 : amTg 17 11 = some 28 := by decide
theorem e87_20 : amT 87 20 21 (.iload_n 1) 0 := r87 (len := 1) (by decide +kernel) rfl
theorem e87_21 : amT 87 21 22 (.aload_n 0) 0 := r87 (len := 1) (by decide +kernel) rfl
theorem e87_22 : amT 87 22 25 (.getfield 15) 641 := r87 (len := 3) (by decide +kernel) rfl
theorem e87_25 : amT 87 25 28 (.if_icmp .ne 13) 0 := r87 (len := 3) (by decide +kernel) rfl
theorem t87_25 : amTg 25 13 = some 38 := by decide
theorem e87_28 : amT 87 28 29 (.iload_n 1) 0 := r87 (len := 1) (by decide +kernel) rfl
theorem e87_29 : amT 87 29 32 (.ifCond .ge 7) 0 := r87 (len := 3) (by decide +kernel) rfl
theorem t87_29 : amTg 29 7 = some 36 := by decide
theorem e87_32 : amT 87 32 33 (.iload_n 1) 0 := r87 (len := 1) (by decide +kernel) rfl
theorem e87_33 : amT 87 33 36 (.goto 4) 0 := r87 (len := 3) (by decide +kernel) rfl
theorem t87_33 : amTg 33 4 = some 37 := by decide
theorem e87_36 : amT 87 36 37 (.iload_n 2) 0 := r87 (len := 1) (by decide +kernel) rfl
theorem e87_37 : amT 87 37 38 (.ireturn) 0 := r87 (len := 1) (by decide +kernel) rfl
theorem e87_38 : amT 87 38 39 (.aload_n 0) 0 := r87 (len := 1) (by decide +kernel) rfl
theorem e87_39 : amT 87 39 40 (.iload_n 1) 0 := r87 (len := 1) (by decide +kernel) rfl
theorem e87_40 : amT 87 40 43 (.invokevirtual 45) 94 := r87 (len := 3) (by decide +kernel) rfl
theorem e87_43 : amT 87 43 45 (.bipush 59) 0 := r87 (len := 2) (by decide +kernel) rfl
theorem e87_45 : amT 87 45 48 (.if_icmp .eq 8) 0 := r87 (len := 3) (by decide +kernel) rfl
theorem t87_45 : amTg 45 8 = some 53 := by decide
theorem e87_48 : amT 87 48 49 (.iload_n 1) 0 := r87 (len := 1) (by decide +kernel) rfl
theorem e87_49 : amT 87 49 52 (.invokestatic 48) 96 := r87 (len := 3) (by decide +kernel) rfl
theorem e87_52 : amT 87 52 53 (.ireturn) 0 := r87 (len := 1) (by decide +kernel) rfl
theorem e87_53 : amT 87 53 56 (.iinc 1 1) 0 := r87 (len := 3) (by decide +kernel) rfl
theorem e87_56 : amT 87 56 59 (.iinc 2 1) 0 := r87 (len := 3) (by decide +kernel) rfl
theorem e87_59 : amT 87 59 62 (.goto (-55)) 0 := r87 (len := 3) (by decide +kernel) rfl
theorem t87_59 : amTg 59 (-55) = some 4 := by decide
theorem e87_62 : amT 87 62 63 (.aload_n 0) 0 := r87 (len := 1) (by decide +kernel) rfl
theorem e87_63 : amT 87 63 66 (.getfield 15) 641 := r87 (len := 3) (by decide +kernel) rfl
theorem e87_66 : amT 87 66 69 (.invokestatic 48) 96 := r87 (len := 3) (by decide +kernel) rfl
theorem e87_69 : amT 87 69 70 (.ireturn) 0 := r87 (len := 1) (by decide +kernel) rfl
theorem q88 : amCs.getD 88 [] = amC_88 := rfl
theorem r88 {pc pc' len op : Nat} {i : Instr} (h : amC_88.lookup pc = some (i, len, op)) (h2 : pc + len = pc') : amT 88 pc pc' i op := ⟨len, by unfold amEnt; rw [q88]; exact h, h2⟩
theorem e88_0 : amT 88 0 1 (.aload_n 0) 0 := r88 (len := 1) (by decide +kernel) rfl
theorem e88_1 : amT 88 1 2 (.iload_n 1) 0 := r88 (len := 1) (by decide +kernel) rfl
theorem e88_2 : amT 88 2 5 (.invokevirtual 45) 94 := r88 (len := 3) (by decide +kernel) rfl
theorem e88_5 : amT 88 5 7 (.bipush 61) 0 := r88 (len := 2) (by decide +kernel) rfl
theorem e88_7 : amT 88 7 10 (.if_icmp .ne 17) 0 := r88 (len := 3) (by decide +kernel) rfl
theorem t88_7 : amTg 7 17 = some 24 := by decide
theorem e88_10 : amT 88 10 11 (.aload_n 0) 0 := r88 (len := 1) (by decide +kernel) rfl
theorem e88_11 : amT 88 11 13 (.bipush 12) 0 := r88 (len := 2) (by decide +kernel) rfl
theorem e88_13 : amT 88 13 16 (.putfield 26) 643 := r88 (len := 3) (by decide +kernel) rfl
theorem e88_16 : amT 88 16 17 (.aload_n 0) 0 := r88 (len := 1) (by decide +kernel) rfl
theorem e88_17 : amT 88 17 18 (.iload_n 1) 0 := r88 (len := 1) (by decide +kernel) rfl
theorem e88_18 : amT 88 18 19 (.iconst 1) 0 := r88 (len := 1) (by decide +kernel) rfl
theorem e88_19 : amT 88 19 20 (.iadd) 0 := r88 (len := 1) (by decide +kernel) rfl
theorem e88_20 : amT 88 20 23 (.invokevirtual 51) 92 := r88 (len := 3) (by decide +kernel) rfl
theorem e88_23 : amT 88 23 24 (.ireturn) 0 := r88 (len := 1) (by decide +kernel) rfl
theorem e88_24 : amT 88 24 25 (.iload_n 1) 0 := r88 (len := 1) (by decide +kernel) rfl
theorem e88_25 : amT 88 25 26 (.istore_n 2) 0 := r88 (len := 1) (by decide +kernel) rfl
theorem e88_26 : amT 88 26 27 (.iload_n 2) 0 := r88 (len := 1) (by decide +kernel) rfl
theorem e88_27 : amT 88 27 28 (.aload_n 0) 0 := r88 (len := 1) (by decide +kernel) rfl
theorem e88_28 : amT 88 28 31 (.getfield 15) 641 := r88 (len := 3) (by decide +kernel) rfl
theorem e88_31 : amT 88 31 34 (.if_icmp .ge 29) 0 := r88 (len := 3) (by decide +kernel) rfl
theorem t88_31 : amTg 31 29 = some 60 := by decide
theorem e88_34 : amT 88 34 35 (.aload_n 0) 0 := r88 (len := 1) (by decide +kernel) rfl
theorem e88_35 : amT 88 35 36 (.iload_n 2) 0 := r88 (len := 1) (by decide +kernel) rfl
theorem e88_36 : amT 88 36 39 (.invokevirtual 45) 94 := r88 (len := 3) (by decide +kernel) rfl
theorem e88_39 : amT 88 39 41 (.bipush 97) 0 := r88 (len := 2) (by decide +kernel) rfl
theorem e88_41 : amT 88 41 44 (.if_icmp .lt 19) 0 := r88 (len := 3) (by decide +kernel) rfl
theorem t88_41 : amTg 41 19 = some 60 := by decide
theorem e88_44 : amT 88 44 45 (.aload_n 0) 0 := r88 (len := 1) (by decide +kernel) rfl
theorem e88_45 : amT 88 45 46 (.iload_n 2) 0 := r88 (len := 1) (by decide +kernel) rfl
theorem e88_46 : amT 88 46 49 (.invokevirtual 45) 94 := r88 (len := 3) (by decide +kernel) rfl
theorem e88_49 : amT 88 49 51 (.bipush 122) 0 := r88 (len := 2) (by decide +kernel) rfl
theorem e88_51 : amT 88 51 54 (.if_icmp .gt 9) 0 := r88 (len := 3) (by decide +kernel) rfl
theorem t88_51 : amTg 51 9 = some 60 := by decide
theorem e88_54 : amT 88 54 57 (.iinc 2 1) 0 := r88 (len := 3) (by decide +kernel) rfl
theorem e88_57 : amT 88 57 60 (.goto (-31)) 0 := r88 (len := 3) (by decide +kernel) rfl
theorem t88_57 : amTg 57 (-31) = some 26 := by decide
theorem e88_60 : amT 88 60 61 (.aload_n 0) 0 := r88 (len := 1) (by decide +kernel) rfl
theorem e88_61 : amT 88 61 62 (.aload_n 0) 0 := r88 (len := 1) (by decide +kernel) rfl
theorem e88_62 : amT 88 62 63 (.iload_n 1) 0 := r88 (len := 1) (by decide +kernel) rfl
theorem e88_63 : amT 88 63 64 (.iload_n 2) 0 := r88 (len := 1) (by decide +kernel) rfl
theorem e88_64 : amT 88 64 67 (.invokevirtual 54) 89 := r88 (len := 3) (by decide +kernel) rfl
theorem e88_67 : amT 88 67 70 (.putfield 26) 643 := r88 (len := 3) (by decide +kernel) rfl
theorem e88_70 : amT 88 70 71 (.aload_n 0) 0 := r88 (len := 1) (by decide +kernel) rfl
theorem e88_71 : amT 88 71 74 (.getfield 26) 643 := r88 (len := 3) (by decide +kernel) rfl
theorem e88_74 : amT 88 74 77 (.ifCond .ge 10) 0 := r88 (len := 3) (by decide +kernel) rfl
theorem t88_74 : amTg 74 10 = some 84 := by decide
theorem e88_77 : amT 88 77 78 (.iload_n 1) 0 := r88 (len := 1) (by decide +kernel) rfl
theorem e88_78 : amT 88 78 81 (.invokestatic 48) 96 := r88 (len := 3) (by decide +kernel) rfl
theorem e88_81 : amT 88 81 84 (.goto 8) 0 := r88 (len := 3) (by decide +kernel) rfl
theorem t88_81 : amTg 81 8 = some 89 := by decide
theorem e88_84 : amT 88 84 85 (.aload_n 0) 0 := r88 (len := 1) (by decide +kernel) rfl
theorem e88_85 : amT 88 85 86 (.iload_n 2) 0 := r88 (len := 1) (by decide +kernel) rfl
theorem e88_86 : amT 88 86 89 (.invokevirtual 58) 91 := r88 (len := 3) (by decide +kernel) rfl
theorem e88_89 : amT 88 89 90 (.ireturn) 0 := r88 (len := 1) (by decide +kernel) rfl
theorem q89 : amCs.getD 89 [] = amC_89 := rfl
theorem r89 {pc pc' len op : Nat} {i : Instr} (h : amC_89.lookup pc = some (i, len, op)) (h2 : pc + len = pc') : amT 89 pc pc' i op := ⟨len, by unfold amEnt; rw [q89]; exact h, h2⟩
theorem e89_0 : amT 89 0 1 (.iconst 0) 0 := r89 (len := 1) (by decide +kernel) rfl
theorem e89_1 : amT 89 1 2 (.istore_n 3) 0 := r89 (len := 1) (by decide +kernel) rfl
theorem e89_2 : amT 89 2 3 (.iload_n 3) 0 := r89 (len := 1) (by decide +kernel) rfl
theorem e89_3 : amT 89 3 5 (.bipush 12) 0 := r89 (len := 2) (by decide +kernel) rfl
theorem e89_5 : amT 89 5 8 (.if_icmp .ge 89) 0 := r89 (len := 3) (by decide +kernel) rfl
theorem t89_5 : amTg 5 89 = some 94 := by decide
theorem e89_8 : amT 89 8 9 (.iload_n 3) 0 := r89 (len := 1) (by decide +kernel) rfl
theorem e89_9 : amT 89 9 12 (.invokestatic 61) 90 := r89 (len := 3) (by decide +kernel) rfl
theorem e89_12 : amT 89 12 14 (.astore 4) 0 := r89 (len := 2) (by decide +kernel) rfl
theorem e89_14 : amT 89 14 16 (.aload 4) 0 := r89 (len := 2) (by decide +kernel) rfl
theorem e89_16 : amT 89 16 19 (.invokevirtual 65) 900 := r89 (len := 3) (by decide +kernel) rfl
theorem e89_19 : amT 89 19 20 (.iload_n 2) 0 := r89 (len := 1) (by decide +kernel) rfl
theorem e89_20 : amT 89 20 21 (.iload_n 1) 0 := r89 (len := 1) (by decide +kernel) rfl
theorem e89_21 : amT 89 21 22 (.isub) 0 := r89 (len := 1) (by decide +kernel) rfl
theorem e89_22 : amT 89 22 25 (.if_icmp .ne 7) 0 := r89 (len := 3) (by decide +kernel) rfl
theorem t89_22 : amTg 22 7 = some 29 := by decide
theorem e89_25 : amT 89 25 26 (.iconst 1) 0 := r89 (len := 1) (by decide +kernel) rfl
theorem e89_26 : amT 89 26 29 (.goto 4) 0 := r89 (len := 3) (by decide +kernel) rfl
theorem t89_26 : amTg 26 4 = some 30 := by decide
theorem e89_29 : amT 89 29 30 (.iconst 0) 0 := r89 (len := 1) (by decide +kernel) rfl
theorem e89_30 : amT 89 30 32 (.istore 5) 0 := r89 (len := 2) (by decide +kernel) rfl
theorem e89_32 : amT 89 32 33 (.iconst 0) 0 := r89 (len := 1) (by decide +kernel) rfl
theorem e89_33 : amT 89 33 35 (.istore 6) 0 := r89 (len := 2) (by decide +kernel) rfl
theorem e89_35 : amT 89 35 37 (.iload 6) 0 := r89 (len := 2) (by decide +kernel) rfl
theorem e89_37 : amT 89 37 39 (.aload 4) 0 := r89 (len := 2) (by decide +kernel) rfl
theorem e89_39 : amT 89 39 42 (.invokevirtual 65) 900 := r89 (len := 3) (by decide +kernel) rfl
theorem e89_42 : amT 89 42 45 (.if_icmp .ge 39) 0 := r89 (len := 3) (by decide +kernel) rfl
theorem t89_42 : amTg 42 39 = some 81 := by decide
theorem e89_45 : amT 89 45 47 (.iload 5) 0 := r89 (len := 2) (by decide +kernel) rfl
theorem e89_47 : amT 89 47 50 (.ifCond .eq 34) 0 := r89 (len := 3) (by decide +kernel) rfl
theorem t89_47 : amTg 47 34 = some 81 := by decide
theorem e89_50 : amT 89 50 52 (.aload 4) 0 := r89 (len := 2) (by decide +kernel) rfl
theorem e89_52 : amT 89 52 54 (.iload 6) 0 := r89 (len := 2) (by decide +kernel) rfl
theorem e89_54 : amT 89 54 57 (.invokevirtual 70) 901 := r89 (len := 3) (by decide +kernel) rfl
theorem e89_57 : amT 89 57 58 (.aload_n 0) 0 := r89 (len := 1) (by decide +kernel) rfl
theorem e89_58 : amT 89 58 59 (.iload_n 1) 0 := r89 (len := 1) (by decide +kernel) rfl
theorem e89_59 : amT 89 59 61 (.iload 6) 0 := r89 (len := 2) (by decide +kernel) rfl
theorem e89_61 : amT 89 61 62 (.iadd) 0 := r89 (len := 1) (by decide +kernel) rfl
theorem e89_62 : amT 89 62 65 (.invokevirtual 45) 94 := r89 (len := 3) (by decide +kernel) rfl
theorem e89_65 : amT 89 65 68 (.if_icmp .ne 7) 0 := r89 (len := 3) (by decide +kernel) rfl
theorem t89_65 : amTg 65 7 = some 72 := by decide
theorem e89_68 : amT 89 68 69 (.iconst 1) 0 := r89 (len := 1) (by decide +kernel) rfl
theorem e89_69 : amT 89 69 72 (.goto 4) 0 := r89 (len := 3) (by decide +kernel) rfl
theorem t89_69 : amTg 69 4 = some 73 := by decide
theorem e89_72 : amT 89 72 73 (.iconst 0) 0 := r89 (len := 1) (by decide +kernel) rfl
theorem e89_73 : amT 89 73 75 (.istore 5) 0 := r89 (len := 2) (by decide +kernel) rfl
theorem e89_75 : amT 89 75 78 (.iinc 6 1) 0 := r89 (len := 3) (by decide +kernel) rfl
theorem e89_78 : amT 89 78 81 (.goto (-43)) 0 := r89 (len := 3) (by decide +kernel) rfl
theorem t89_78 : amTg 78 (-43) = some 35 := by decide
theorem e89_81 : amT 89 81 83 (.iload 5) 0 := r89 (len := 2) (by decide +kernel) rfl
theorem e89_83 : amT 89 83 86 (.ifCond .eq 5) 0 := r89 (len := 3) (by decide +kernel) rfl
theorem t89_83 : amTg 83 5 = some 88 := by decide
theorem e89_86 : amT 89 86 87 (.iload_n 3) 0 := r89 (len := 1) (by decide +kernel) rfl
theorem e89_87 : amT 89 87 88 (.ireturn) 0 := r89 (len := 1) (by decide +kernel) rfl
theorem e89_88 : amT 89 88 91 (.iinc 3 1) 0 := r89 (len := 3) (by decide +kernel) rfl
theorem e89_91 : amT 89 91 94 (.goto (-89)) 0 := r89 (len := 3) (by decide +kernel) rfl
theorem t89_91 : amTg 91 (-89) = some 2 := by decide
theorem e89_94 : amT 89 94 95 (.iconst (-1)) 0 := r89 (len := 1) (by decide +kernel) rfl
theorem e89_95 : amT 89 95 96 (.ireturn) 0 := r89 (len := 1) (by decide +kernel) rfl
theorem q90 : amCs.getD 90 [] = amC_90 := rfl
theorem r90 {pc pc' len op : Nat} {i : Instr} (h : amC_90.lookup pc = some (i, len, op)) (h2 : pc + len = pc') : amT 90 pc pc' i op := ⟨len, by unfold amEnt; rw [q90]; exact h, h2⟩
theorem e90_0 : amT 90 0 1 (.iload_n 0) 0 := r90 (len := 1) (by decide +kernel) rfl
theorem e90_1 : amT 90 1 60 (.tableswitch 92 0 10 #[59, 62, 65, 68, 71, 74, 77, 80, 83, 86, 89]) 0 := r90 (len := 59) (by decide +kernel) rfl
theorem t90_1_74 : amTg 1 74 = some 75 := by decide
theorem t90_1_83 : amTg 1 83 = some 84 := by decide
theorem t90_1_80 : amTg 1 80 = some 81 := by decide
theorem t90_1_71 : amTg 1 71 = some 72 := by decide
theorem t90_1_59 : amTg 1 59 = some 60 := by decide
theorem t90_1_86 : amTg 1 86 = some 87 := by decide
theorem t90_1_89 : amTg 1 89 = some 90 := by decide
theorem t90_1_62 : amTg 1 62 = some 63 := by decide
theorem t90_1_92 : amTg 1 92 = some 93 := by decide
theorem t90_1_77 : amTg 1 77 = some 78 := by decide
theorem t90_1_65 : amTg 1 65 = some 66 := by decide
theorem t90_1_68 : amTg 1 68 = some 69 := by decide
theorem e90_60 : amT 90 60 62 (.ldc 74) 0 := r90 (len := 2) (by decide +kernel) rfl
theorem e90_62 : amT 90 62 63 (.areturn) 0 := r90 (len := 1) (by decide +kernel) rfl
theorem e90_63 : amT 90 63 65 (.ldc 76) 1 := r90 (len := 2) (by decide +kernel) rfl
theorem e90_65 : amT 90 65 66 (.areturn) 0 := r90 (len := 1) (by decide +kernel) rfl
theorem e90_66 : amT 90 66 68 (.ldc 78) 2 := r90 (len := 2) (by decide +kernel) rfl
theorem e90_68 : amT 90 68 69 (.areturn) 0 := r90 (len := 1) (by decide +kernel) rfl
theorem e90_69 : amT 90 69 71 (.ldc 80) 3 := r90 (len := 2) (by decide +kernel) rfl
theorem e90_71 : amT 90 71 72 (.areturn) 0 := r90 (len := 1) (by decide +kernel) rfl
theorem e90_72 : amT 90 72 74 (.ldc 82) 4 := r90 (len := 2) (by decide +kernel) rfl
theorem e90_74 : amT 90 74 75 (.areturn) 0 := r90 (len := 1) (by decide +kernel) rfl
theorem e90_75 : amT 90 75 77 (.ldc 84) 5 := r90 (len := 2) (by decide +kernel) rfl
theorem e90_77 : amT 90 77 78 (.areturn) 0 := r90 (len := 1) (by decide +kernel) rfl
theorem e90_78 : amT 90 78 80 (.ldc 86) 6 := r90 (len := 2) (by decide +kernel) rfl
theorem e90_80 : amT 90 80 81 (.areturn) 0 := r90 (len := 1) (by decide +kernel) rfl
theorem e90_81 : amT 90 81 83 (.ldc 88) 7 := r90 (len := 2) (by decide +kernel) rfl
theorem e90_83 : amT 90 83 84 (.areturn) 0 := r90 (len := 1) (by decide +kernel) rfl
theorem e90_84 : amT 90 84 86 (.ldc 90) 8 := r90 (len := 2) (by decide +kernel) rfl
theorem e90_86 : amT 90 86 87 (.areturn) 0 := r90 (len := 1) (by decide +kernel) rfl
theorem e90_87 : amT 90 87 89 (.ldc 92) 9 := r90 (len := 2) (by decide +kernel) rfl
theorem e90_89 : amT 90 89 90 (.areturn) 0 := r90 (len := 1) (by decide +kernel) rfl
theorem e90_90 : amT 90 90 92 (.ldc 94) 10 := r90 (len := 2) (by decide +kernel) rfl
theorem e90_92 : amT 90 92 93 (.areturn) 0 := r90 (len := 1) (by decide +kernel) rfl
theorem e90_93 : amT 90 93 95 (.ldc 96) 11 := r90 (len := 2) (by decide +kernel) rfl
theorem e90_95 : amT 90 95 96 (.areturn) 0 := r90 (len := 1) (by decide +kernel) rfl
theorem q91 : amCs.getD 91 [] = amC_91 := rfl
theorem r91 {pc pc' len op : Nat} {i : Instr} (h : amC_91.lookup pc = some (i, len, op)) (h2 : pc + len = pc') : amT 91 pc pc' i op := ⟨len, by unfold amEnt; rw [q91]; exact h, h2⟩
theorem e91_0 : amT 91 0 1 (.iload_n 1) 0 := r91 (len := 1) (by decide +kernel) rfl
theorem e91_1 : amT 91 1 2 (.istore_n 2) 0 := r91 (len := 1) (by decide +kernel) rfl
theorem e91_2 : amT 91 2 3 (.aload_n 0) 0 := r91 (len := 1) (by decide +kernel) rfl
theorem e91_3 : amT 91 3 4 (.iload_n 2) 0 := r91 (len := 1) (by decide +kernel) rfl
theorem e91_4 : amT 91 4 7 (.invokevirtual 45) 94 := r91 (len := 3) (by decide +kernel) rfl
theorem e91_7 : amT 91 7 9 (.bipush 32) 0 := r91 (len := 2) (by decide +kernel) rfl
theorem e91_9 : amT 91 9 12 (.if_icmp .eq 8) 0 := r91 (len := 3) (by decide +kernel) rfl
theorem t91_9 : amTg 9 8 = some 17 := by decide
theorem e91_12 : amT 91 12 13 (.iload_n 2) 0 := r91 (len := 1) (by decide +kernel) rfl
theorem e91_13 : amT 91 13 16 (.invokestatic 48) 96 := r91 (len := 3) (by decide +kernel) rfl
theorem e91_16 : amT 91 16 17 (.ireturn) 0 := r91 (len := 1) (by decide +kernel) rfl
theorem e91_17 : amT 91 17 20 (.iinc 2 1) 0 := r91 (len := 3) (by decide +kernel) rfl
theorem e91_20 : amT 91 20 21 (.aload_n 0) 0 := r91 (len := 1) (by decide +kernel) rfl
theorem e91_21 : amT 91 21 22 (.iload_n 2) 0 := r91 (len := 1) (by decide +kernel) rfl
theorem e91_22 : amT 91 22 25 (.invokevirtual 98) 95 := r91 (len := 3) (by decide +kernel) rfl
theorem e91_25 : amT 91 25 28 (.ifCond .ne 8) 0 := r91 (len := 3) (by decide +kernel) rfl
theorem t91_25 : amTg 25 8 = some 33 := by decide
theorem e91_28 : amT 91 28 29 (.iload_n 2) 0 := r91 (len := 1) (by decide +kernel) rfl
theorem e91_29 : amT 91 29 32 (.invokestatic 48) 96 := r91 (len := 3) (by decide +kernel) rfl
theorem e91_32 : amT 91 32 33 (.ireturn) 0 := r91 (len := 1) (by decide +kernel) rfl
theorem e91_33 : amT 91 33 34 (.aload_n 0) 0 := r91 (len := 1) (by decide +kernel) rfl
theorem e91_34 : amT 91 34 35 (.aload_n 0) 0 := r91 (len := 1) (by decide +kernel) rfl
theorem e91_35 : amT 91 35 36 (.iload_n 2) 0 := r91 (len := 1) (by decide +kernel) rfl
theorem e91_36 : amT 91 36 39 (.invokevirtual 45) 94 := r91 (len := 3) (by decide +kernel) rfl
theorem e91_39 : amT 91 39 41 (.bipush 48) 0 := r91 (len := 2) (by decide +kernel) rfl
theorem e91_41 : amT 91 41 42 (.isub) 0 := r91 (len := 1) (by decide +kernel) rfl
theorem e91_42 : amT 91 42 45 (.putfield 29) 644 := r91 (len := 3) (by decide +kernel) rfl
theorem e91_45 : amT 91 45 48 (.iinc 2 1) 0 := r91 (len := 3) (by decide +kernel) rfl
theorem e91_48 : amT 91 48 49 (.aload_n 0) 0 := r91 (len := 1) (by decide +kernel) rfl
theorem e91_49 : amT 91 49 52 (.getfield 26) 643 := r91 (len := 3) (by decide +kernel) rfl
theorem e91_52 : amT 91 52 54 (.bipush 6) 0 := r91 (len := 2) (by decide +kernel) rfl
theorem e91_54 : amT 91 54 57 (.if_icmp .eq 21) 0 := r91 (len := 3) (by decide +kernel) rfl
theorem t91_54 : amTg 54 21 = some 75 := by decide
theorem e91_57 : amT 91 57 58 (.aload_n 0) 0 := r91 (len := 1) (by decide +kernel) rfl
theorem e91_58 : amT 91 58 61 (.getfield 26) 643 := r91 (len := 3) (by decide +kernel) rfl
theorem e91_61 : amT 91 61 63 (.bipush 7) 0 := r91 (len := 2) (by decide +kernel) rfl
theorem e91_63 : amT 91 63 66 (.if_icmp .eq 12) 0 := r91 (len := 3) (by decide +kernel) rfl
theorem t91_63 : amTg 63 12 = some 75 := by decide
theorem e91_66 : amT 91 66 67 (.aload_n 0) 0 := r91 (len := 1) (by decide +kernel) rfl
theorem e91_67 : amT 91 67 70 (.getfield 26) 643 := r91 (len := 3) (by decide +kernel) rfl
theorem e91_70 : amT 91 70 72 (.bipush 11) 0 := r91 (len := 2) (by decide +kernel) rfl
theorem e91_72 : amT 91 72 75 (.if_icmp .ne 7) 0 := r91 (len := 3) (by decide +kernel) rfl
theorem t91_72 : amTg 72 7 = some 79 := by decide
theorem e91_75 : amT 91 75 76 (.iconst 1) 0 := r91 (len := 1) (by decide +kernel) rfl
theorem e91_76 : amT 91 76 79 (.goto 4) 0 := r91 (len := 3) (by decide +kernel) rfl
theorem t91_76 : amTg 76 4 = some 80 := by decide
theorem e91_79 : amT 91 79 80 (.iconst 0) 0 := r91 (len := 1) (by decide +kernel) rfl
theorem e91_80 : amT 91 80 81 (.istore_n 3) 0 := r91 (len := 1) (by decide +kernel) rfl
theorem e91_81 : amT 91 81 82 (.iload_n 3) 0 := r91 (len := 1) (by decide +kernel) rfl
theorem e91_82 : amT 91 82 85 (.ifCond .ne 15) 0 := r91 (len := 3) (by decide +kernel) rfl
theorem t91_82 : amTg 82 15 = some 97 := by decide
theorem e91_85 : amT 91 85 86 (.aload_n 0) 0 := r91 (len := 1) (by decide +kernel) rfl
theorem e91_86 : amT 91 86 89 (.getfield 26) 643 := r91 (len := 3) (by decide +kernel) rfl
theorem e91_89 : amT 91 89 92 (.invokestatic 102) 144 := r91 (len := 3) (by decide +kernel) rfl
theorem e91_92 : amT 91 92 95 (.ifCond .ne 5) 0 := r91 (len := 3) (by decide +kernel) rfl
theorem t91_92 : amTg 92 5 = some 97 := by decide
theorem e91_95 : amT 91 95 96 (.iload_n 2) 0 := r91 (len := 1) (by decide +kernel) rfl
theorem e91_96 : amT 91 96 97 (.ireturn) 0 := r91 (len := 1) (by decide +kernel) rfl
theorem e91_97 : amT 91 97 98 (.aload_n 0) 0 := r91 (len := 1) (by decide +kernel) rfl
theorem e91_98 : amT 91 98 99 (.iload_n 2) 0 := r91 (len := 1) (by decide +kernel) rfl
theorem e91_99 : amT 91 99 102 (.invokevirtual 45) 94 := r91 (len := 3) (by decide +kernel) rfl
theorem e91_102 : amT 91 102 104 (.bipush 32) 0 := r91 (len := 2) (by decide +kernel) rfl
theorem e91_104 : amT 91 104 107 (.if_icmp .eq 8) 0 := r91 (len := 3) (by decide +kernel) rfl
theorem t91_104 : amTg 104 8 = some 112 := by decide
theorem e91_107 : amT 91 107 108 (.iload_n 2) 0 := r91 (len := 1) (by decide +kernel) rfl
theorem e91_108 : amT 91 108 111 (.invokestatic 48) 96 := r91 (len := 3) (by decide +kernel) rfl
theorem e91_111 : amT 91 111 112 (.ireturn) 0 := r91 (len := 1) (by decide +kernel) rfl
theorem e91_112 : amT 91 112 115 (.iinc 2 1) 0 := r91 (len := 3) (by decide +kernel) rfl
theorem e91_115 : amT 91 115 116 (.iload_n 3) 0 := r91 (len := 1) (by decide +kernel) rfl
theorem e91_116 : amT 91 116 119 (.ifCond .eq 17) 0 := r91 (len := 3) (by decide +kernel) rfl
theorem t91_116 : amTg 116 17 = some 133 := by decide
theorem e91_119 : amT 91 119 120 (.aload_n 0) 0 := r91 (len := 1) (by decide +kernel) rfl
theorem e91_120 : amT 91 120 121 (.iload_n 2) 0 := r91 (len := 1) (by decide +kernel) rfl
theorem e91_121 : amT 91 121 124 (.invokevirtual 45) 94 := r91 (len := 3) (by decide +kernel) rfl
theorem e91_124 : amT 91 124 126 (.bipush 45) 0 := r91 (len := 2) (by decide +kernel) rfl
theorem e91_126 : amT 91 126 129 (.if_icmp .ne 7) 0 := r91 (len := 3) (by decide +kernel) rfl
theorem t91_126 : amTg 126 7 = some 133 := by decide
theorem e91_129 : amT 91 129 130 (.iconst 1) 0 := r91 (len := 1) (by decide +kernel) rfl
theorem e91_130 : amT 91 130 133 (.goto 4) 0 := r91 (len := 3) (by decide +kernel) rfl
theorem t91_130 : amTg 130 4 = some 134 := by decide
theorem e91_133 : amT 91 133 134 (.iconst 0) 0 := r91 (len := 1) (by decide +kernel) rfl
theorem e91_134 : amT 91 134 136 (.istore 4) 0 := r91 (len := 2) (by decide +kernel) rfl
theorem e91_136 : amT 91 136 138 (.iload 4) 0 := r91 (len := 2) (by decide +kernel) rfl
theorem e91_138 : amT 91 138 141 (.ifCond .eq 6) 0 := r91 (len := 3) (by decide +kernel) rfl
theorem t91_138 : amTg 138 6 = some 144 := by decide
theorem e91_141 : amT 91 141 144 (.iinc 2 1) 0 := r91 (len := 3) (by decide +kernel) rfl
theorem e91_144 : amT 91 144 145 (.aload_n 0) 0 := r91 (len := 1) (by decide +kernel) rfl
theorem e91_145 : amT 91 145 146 (.iload_n 2) 0 := r91 (len := 1) (by decide +kernel) rfl
theorem e91_146 : amT 91 146 149 (.invokevirtual 98) 95 := r91 (len := 3) (by decide +kernel) rfl
theorem e91_149 : amT 91 149 152 (.ifCond .ne 8) 0 := r91 (len := 3) (by decide +kernel) rfl
theorem t91_149 : amTg 149 8 = some 157 := by decide
theorem e91_152 : amT 91 152 153 (.iload_n 2) 0 := r91 (len := 1) (by decide +kernel) rfl
theorem e91_153 : amT 91 153 156 (.invokestatic 48) 96 := r91 (len := 3) (by decide +kernel) rfl
theorem e91_156 : amT 91 156 157 (.ireturn) 0 := r91 (len := 1) (by decide +kernel) rfl
theorem e91_157 : amT 91 157 158 (.aload_n 0) 0 := r91 (len := 1) (by decide +kernel) rfl
theorem e91_158 : amT 91 158 160 (.iload 4) 0 := r91 (len := 2) (by decide +kernel) rfl
theorem e91_160 : amT 91 160 163 (.ifCond .eq 14) 0 := r91 (len := 3) (by decide +kernel) rfl
theorem t91_160 : amTg 160 14 = some 174 := by decide
theorem e91_163 : amT 91 163 165 (.bipush 48) 0 := r91 (len := 2) (by decide +kernel) rfl
theorem e91_165 : amT 91 165 166 (.aload_n 0) 0 := r91 (len := 1) (by decide +kernel) rfl
theorem e91_166 : amT 91 166 167 (.iload_n 2) 0 := r91 (len := 1) (by decide +kernel) rfl
theorem e91_167 : amT 91 167 170 (.invokevirtual 45) 94 := r91 (len := 3) (by decide +kernel) rfl
theorem e91_170 : amT 91 170 171 (.isub) 0 := r91 (len := 1) (by decide +kernel) rfl
theorem e91_171 : amT 91 171 174 (.goto 11) 0 := r91 (len := 3) (by decide +kernel) rfl
theorem t91_171 : amTg 171 11 = some 182 := by decide
theorem e91_174 : amT 91 174 175 (.aload_n 0) 0 := r91 (len := 1) (by decide +kernel) rfl
theorem e91_175 : amT 91 175 176 (.iload_n 2) 0 := r91 (len := 1) (by decide +kernel) rfl
theorem e91_176 : amT 91 176 179 (.invokevirtual 45) 94 := r91 (len := 3) (by decide +kernel) rfl
theorem e91_179 : amT 91 179 181 (.bipush 48) 0 := r91 (len := 2) (by decide +kernel) rfl
theorem e91_181 : amT 91 181 182 (.isub) 0 := r91 (len := 1) (by decide +kernel) rfl
theorem e91_182 : amT 91 182 185 (.putfield 32) 645 := r91 (len := 3) (by decide +kernel) rfl
theorem e91_185 : amT 91 185 186 (.iload_n 2) 0 := r91 (len := 1) (by decide +kernel) rfl
theorem e91_186 : amT 91 186 187 (.iconst 1) 0 := r91 (len := 1) (by decide +kernel) rfl
theorem e91_187 : amT 91 187 188 (.iadd) 0 := r91 (len := 1) (by decide +kernel) rfl
theorem e91_188 : amT 91 188 189 (.ireturn) 0 := r91 (len := 1) (by decide +kernel) rfl
theorem q92 : amCs.getD 92 [] = amC_92 := rfl
theorem r92 {pc pc' len op : Nat} {i : Instr} (h : amC_92.lookup pc = some (i, len, op)) (h2 : pc + len = pc') : amT 92 pc pc' i op := ⟨len, by unfold amEnt; rw [q92]; exact h, h2⟩
theorem e92_0 : amT 92 0 1 (.aload_n 0) 0 := r92 (len := 1) (by decide +kernel) rfl
theorem e92_1 : amT 92 1 4 (.getfield 22) 642 := r92 (len := 3) (by decide +kernel) rfl
theorem e92_4 : amT 92 4 7 (.invokevirtual 105) 7 := r92 (len := 3) (by decide +kernel) rfl
theorem e92_7 : amT 92 7 8 (.iload_n 1) 0 := r92 (len := 1) (by decide +kernel) rfl
theorem e92_8 : amT 92 8 9 (.istore_n 2) 0 := r92 (len := 1) (by decide +kernel) rfl
theorem e92_9 : amT 92 9 10 (.aload_n 0) 0 := r92 (len := 1) (by decide +kernel) rfl
theorem e92_10 : amT 92 10 11 (.iload_n 2) 0 := r92 (len := 1) (by decide +kernel) rfl
theorem e92_11 : amT 92 11 14 (.invokevirtual 45) 94 := r92 (len := 3) (by decide +kernel) rfl
theorem e92_14 : amT 92 14 16 (.bipush 45) 0 := r92 (len := 2) (by decide +kernel) rfl
theorem e92_16 : amT 92 16 19 (.if_icmp .ne 7) 0 := r92 (len := 3) (by decide +kernel) rfl
theorem t92_16 : amTg 16 7 = some 23 := by decide
theorem e92_19 : amT 92 19 20 (.iconst 1) 0 := r92 (len := 1) (by decide +kernel) rfl
theorem e92_20 : amT 92 20 23 (.goto 4) 0 := r92 (len := 3) (by decide +kernel) rfl
theorem t92_20 : amTg 20 4 = some 24 := by decide
theorem e92_23 : amT 92 23 24 (.iconst 0) 0 := r92 (len := 1) (by decide +kernel) rfl
theorem e92_24 : amT 92 24 25 (.istore_n 3) 0 := r92 (len := 1) (by decide +kernel) rfl
theorem e92_25 : amT 92 25 26 (.iload_n 3) 0 := r92 (len := 1) (by decide +kernel) rfl
theorem e92_26 : amT 92 26 29 (.ifCond .eq 6) 0 := r92 (len := 3) (by decide +kernel) rfl
theorem t92_26 : amTg 26 6 = some 32 := by decide
theorem e92_29 : amT 92 29 32 (.iinc 2 1) 0 := r92 (len := 3) (by decide +kernel) rfl
theorem e92_32 : amT 92 32 33 (.iconst 5) 0 := r92 (len := 1) (by decide +kernel) rfl
theorem e92_33 : amT 92 33 35 (.istore 4) 0 := r92 (len := 2) (by decide +kernel) rfl
theorem e92_35 : amT 92 35 36 (.iconst 0) 0 := r92 (len := 1) (by decide +kernel) rfl
theorem e92_36 : amT 92 36 38 (.istore 5) 0 := r92 (len := 2) (by decide +kernel) rfl
theorem e92_38 : amT 92 38 40 (.iload 5) 0 := r92 (len := 2) (by decide +kernel) rfl
theorem e92_40 : amT 92 40 42 (.bipush 120) 0 := r92 (len := 2) (by decide +kernel) rfl
theorem e92_42 : amT 92 42 45 (.if_icmp .ge 120) 0 := r92 (len := 3) (by decide +kernel) rfl
theorem t92_42 : amTg 42 120 = some 162 := by decide
theorem e92_45 : amT 92 45 46 (.aload_n 0) 0 := r92 (len := 1) (by decide +kernel) rfl
theorem e92_46 : amT 92 46 47 (.iload_n 2) 0 := r92 (len := 1) (by decide +kernel) rfl
theorem e92_47 : amT 92 47 50 (.invokevirtual 108) 93 := r92 (len := 3) (by decide +kernel) rfl
theorem e92_50 : amT 92 50 52 (.istore 6) 0 := r92 (len := 2) (by decide +kernel) rfl
theorem e92_52 : amT 92 52 54 (.iload 6) 0 := r92 (len := 2) (by decide +kernel) rfl
theorem e92_54 : amT 92 54 57 (.ifCond .ge 6) 0 := r92 (len := 3) (by decide +kernel) rfl
theorem t92_54 : amTg 54 6 = some 60 := by decide
theorem e92_57 : amT 92 57 59 (.iload 6) 0 := r92 (len := 2) (by decide +kernel) rfl
theorem e92_59 : amT 92 59 60 (.ireturn) 0 := r92 (len := 1) (by decide +kernel) rfl
theorem e92_60 : amT 92 60 61 (.aload_n 0) 0 := r92 (len := 1) (by decide +kernel) rfl
theorem e92_61 : amT 92 61 64 (.getfield 35) 646 := r92 (len := 3) (by decide +kernel) rfl
theorem e92_64 : amT 92 64 66 (.iload 4) 0 := r92 (len := 2) (by decide +kernel) rfl
theorem e92_66 : amT 92 66 69 (.if_icmp .lt 8) 0 := r92 (len := 3) (by decide +kernel) rfl
theorem t92_66 : amTg 66 8 = some 74 := by decide
theorem e92_69 : amT 92 69 70 (.iload_n 2) 0 := r92 (len := 1) (by decide +kernel) rfl
theorem e92_70 : amT 92 70 73 (.invokestatic 48) 96 := r92 (len := 3) (by decide +kernel) rfl
theorem e92_73 : amT 92 73 74 (.ireturn) 0 := r92 (len := 1) (by decide +kernel) rfl
theorem e92_74 : amT 92 74 75 (.aload_n 0) 0 := r92 (len := 1) (by decide +kernel) rfl
theorem e92_75 : amT 92 75 78 (.getfield 35) 646 := r92 (len := 3) (by decide +kernel) rfl
theorem e92_78 : amT 92 78 80 (.istore 4) 0 := r92 (len := 2) (by decide +kernel) rfl
theorem e92_80 : amT 92 80 81 (.aload_n 0) 0 := r92 (len := 1) (by decide +kernel) rfl
theorem e92_81 : amT 92 81 84 (.getfield 22) 642 := r92 (len := 3) (by decide +kernel) rfl
theorem e92_84 : amT 92 84 85 (.aload_n 0) 0 := r92 (len := 1) (by decide +kernel) rfl
theorem e92_85 : amT 92 85 88 (.getfield 35) 646 := r92 (len := 3) (by decide +kernel) rfl
theorem e92_88 : amT 92 88 89 (.iload_n 3) 0 := r92 (len := 1) (by decide +kernel) rfl
theorem e92_89 : amT 92 89 92 (.ifCond .eq 12) 0 := r92 (len := 3) (by decide +kernel) rfl
theorem t92_89 : amTg 89 12 = some 101 := by decide
theorem e92_92 : amT 92 92 93 (.aload_n 0) 0 := r92 (len := 1) (by decide +kernel) rfl
theorem e92_93 : amT 92 93 96 (.getfield 38) 647 := r92 (len := 3) (by decide +kernel) rfl
theorem e92_96 : amT 92 96 97 (.ineg) 0 := r92 (len := 1) (by decide +kernel) rfl
theorem e92_97 : amT 92 97 98 (.i2l) 0 := r92 (len := 1) (by decide +kernel) rfl
theorem e92_98 : amT 92 98 101 (.goto 8) 0 := r92 (len := 3) (by decide +kernel) rfl
theorem t92_98 : amTg 98 8 = some 106 := by decide
theorem e92_101 : amT 92 101 102 (.aload_n 0) 0 := r92 (len := 1) (by decide +kernel) rfl
theorem e92_102 : amT 92 102 105 (.getfield 38) 647 := r92 (len := 3) (by decide +kernel) rfl
theorem e92_105 : amT 92 105 106 (.i2l) 0 := r92 (len := 1) (by decide +kernel) rfl
theorem e92_106 : amT 92 106 109 (.invokevirtual 111) 4 := r92 (len := 3) (by decide +kernel) rfl
theorem e92_109 : amT 92 109 110 (.aload_n 0) 0 := r92 (len := 1) (by decide +kernel) rfl
theorem e92_110 : amT 92 110 112 (.iload 6) 0 := r92 (len := 2) (by decide +kernel) rfl
theorem e92_112 : amT 92 112 115 (.invokevirtual 45) 94 := r92 (len := 3) (by decide +kernel) rfl
theorem e92_115 : amT 92 115 117 (.bipush 43) 0 := r92 (len := 2) (by decide +kernel) rfl
theorem e92_117 : amT 92 117 120 (.if_icmp .eq 17) 0 := r92 (len := 3) (by decide +kernel) rfl
theorem t92_117 : amTg 117 17 = some 134 := by decide
theorem e92_120 : amT 92 120 121 (.aload_n 0) 0 := r92 (len := 1) (by decide +kernel) rfl
theorem e92_121 : amT 92 121 123 (.iload 6) 0 := r92 (len := 2) (by decide +kernel) rfl
theorem e92_123 : amT 92 123 126 (.invokevirtual 45) 94 := r92 (len := 3) (by decide +kernel) rfl
theorem e92_126 : amT 92 126 128 (.bipush 45) 0 := r92 (len := 2) (by decide +kernel) rfl
theorem e92_128 : amT 92 128 131 (.if_icmp .eq 6) 0 := r92 (len := 3) (by decide +kernel) rfl
theorem t92_128 : amTg 128 6 = some 134 := by decide
theorem e92_131 : amT 92 131 133 (.iload 6) 0 := r92 (len := 2) (by decide +kernel) rfl
theorem e92_133 : amT 92 133 134 (.ireturn) 0 := r92 (len := 1) (by decide +kernel) rfl
theorem e92_134 : amT 92 134 135 (.aload_n 0) 0 := r92 (len := 1) (by decide +kernel) rfl
theorem e92_135 : amT 92 135 137 (.iload 6) 0 := r92 (len := 2) (by decide +kernel) rfl
theorem e92_137 : amT 92 137 140 (.invokevirtual 45) 94 := r92 (len := 3) (by decide +kernel) rfl
theorem e92_140 : amT 92 140 142 (.bipush 45) 0 := r92 (len := 2) (by decide +kernel) rfl
theorem e92_142 : amT 92 142 145 (.if_icmp .ne 7) 0 := r92 (len := 3) (by decide +kernel) rfl
theorem t92_142 : amTg 142 7 = some 149 := by decide
theorem e92_145 : amT 92 145 146 (.iconst 1) 0 := r92 (len := 1) (by decide +kernel) rfl
theorem e92_146 : amT 92 146 149 (.goto 4) 0 := r92 (len := 3) (by decide +kernel) rfl
theorem t92_146 : amTg 146 4 = some 150 := by decide
theorem e92_149 : amT 92 149 150 (.iconst 0) 0 := r92 (len := 1) (by decide +kernel) rfl
theorem e92_150 : amT 92 150 151 (.istore_n 3) 0 := r92 (len := 1) (by decide +kernel) rfl
theorem e92_151 : amT 92 151 153 (.iload 6) 0 := r92 (len := 2) (by decide +kernel) rfl
theorem e92_153 : amT 92 153 154 (.iconst 1) 0 := r92 (len := 1) (by decide +kernel) rfl
theorem e92_154 : amT 92 154 155 (.iadd) 0 := r92 (len := 1) (by decide +kernel) rfl
theorem e92_155 : amT 92 155 156 (.istore_n 2) 0 := r92 (len := 1) (by decide +kernel) rfl
theorem e92_156 : amT 92 156 159 (.iinc 5 1) 0 := r92 (len := 3) (by decide +kernel) rfl
theorem e92_159 : amT 92 159 162 (.goto (-121)) 0 := r92 (len := 3) (by decide +kernel) rfl
theorem t92_159 : amTg 159 (-121) = some 38 := by decide
theorem e92_162 : amT 92 162 163 (.aload_n 0) 0 := r92 (len := 1) (by decide +kernel) rfl
theorem e92_163 : amT 92 163 166 (.getfield 15) 641 := r92 (len := 3) (by decide +kernel) rfl
theorem e92_166 : amT 92 166 169 (.invokestatic 48) 96 := r92 (len := 3) (by decide +kernel) rfl
theorem e92_169 : amT 92 169 170 (.ireturn) 0 := r92 (len := 1) (by decide +kernel) rfl
theorem q93 : amCs.getD 93 [] = amC_93 := rfl
theorem r93 {pc pc' len op : Nat} {i : Instr} (h : amC_93.lookup pc = some (i, len, op)) (h2 : pc + len = pc') : amT 93 pc pc' i op := ⟨len, by unfold amEnt; rw [q93]; exact h, h2⟩
theorem e93_0 : amT 93 0 1 (.iload_n 1) 0 := r93 (len := 1) (by decide +kernel) rfl
theorem e93_1 : amT 93 1 2 (.istore_n 2) 0 := r93 (len := 1) (by decide +kernel) rfl
theorem e93_2 : amT 93 2 3 (.aload_n 0) 0 := r93 (len := 1) (by decide +kernel) rfl
theorem e93_3 : amT 93 3 4 (.iconst 0) 0 := r93 (len := 1) (by decide +kernel) rfl
theorem e93_4 : amT 93 4 7 (.putfield 38) 647 := r93 (len := 3) (by decide +kernel) rfl
theorem e93_7 : amT 93 7 8 (.aload_n 0) 0 := r93 (len := 1) (by decide +kernel) rfl
theorem e93_8 : amT 93 8 9 (.iconst 0) 0 := r93 (len := 1) (by decide +kernel) rfl
theorem e93_9 : amT 93 9 12 (.putfield 35) 646 := r93 (len := 3) (by decide +kernel) rfl
theorem e93_12 : amT 93 12 13 (.aload_n 0) 0 := r93 (len := 1) (by decide +kernel) rfl
theorem e93_13 : amT 93 13 14 (.iload_n 2) 0 := r93 (len := 1) (by decide +kernel) rfl
theorem e93_14 : amT 93 14 17 (.invokevirtual 45) 94 := r93 (len := 3) (by decide +kernel) rfl
theorem e93_17 : amT 93 17 19 (.bipush 48) 0 := r93 (len := 2) (by decide +kernel) rfl
theorem e93_19 : amT 93 19 22 (.if_icmp .ne 8) 0 := r93 (len := 3) (by decide +kernel) rfl
theorem t93_19 : amTg 19 8 = some 27 := by decide
theorem e93_22 : amT 93 22 23 (.iload_n 2) 0 := r93 (len := 1) (by decide +kernel) rfl
theorem e93_23 : amT 93 23 26 (.invokestatic 48) 96 := r93 (len := 3) (by decide +kernel) rfl
theorem e93_26 : amT 93 26 27 (.ireturn) 0 := r93 (len := 1) (by decide +kernel) rfl
theorem e93_27 : amT 93 27 28 (.iload_n 2) 0 := r93 (len := 1) (by decide +kernel) rfl
theorem e93_28 : amT 93 28 29 (.iload_n 1) 0 := r93 (len := 1) (by decide +kernel) rfl
theorem e93_29 : amT 93 29 30 (.isub) 0 := r93 (len := 1) (by decide +kernel) rfl
theorem e93_30 : amT 93 30 31 (.iconst 3) 0 := r93 (len := 1) (by decide +kernel) rfl
theorem e93_31 : amT 93 31 34 (.if_icmp .ge 37) 0 := r93 (len := 3) (by decide +kernel) rfl
theorem t93_31 : amTg 31 37 = some 68 := by decide
theorem e93_34 : amT 93 34 35 (.aload_n 0) 0 := r93 (len := 1) (by decide +kernel) rfl
theorem e93_35 : amT 93 35 36 (.iload_n 2) 0 := r93 (len := 1) (by decide +kernel) rfl
theorem e93_36 : amT 93 36 39 (.invokevirtual 98) 95 := r93 (len := 3) (by decide +kernel) rfl
theorem e93_39 : amT 93 39 42 (.ifCond .eq 29) 0 := r93 (len := 3) (by decide +kernel) rfl
theorem t93_39 : amTg 39 29 = some 68 := by decide
theorem e93_42 : amT 93 42 43 (.aload_n 0) 0 := r93 (len := 1) (by decide +kernel) rfl
theorem e93_43 : amT 93 43 44 (.aload_n 0) 0 := r93 (len := 1) (by decide +kernel) rfl
theorem e93_44 : amT 93 44 47 (.getfield 38) 647 := r93 (len := 3) (by decide +kernel) rfl
theorem e93_47 : amT 93 47 49 (.bipush 10) 0 := r93 (len := 2) (by decide +kernel) rfl
theorem e93_49 : amT 93 49 50 (.imul) 0 := r93 (len := 1) (by decide +kernel) rfl
theorem e93_50 : amT 93 50 51 (.aload_n 0) 0 := r93 (len := 1) (by decide +kernel) rfl
theorem e93_51 : amT 93 51 52 (.iload_n 2) 0 := r93 (len := 1) (by decide +kernel) rfl
theorem e93_52 : amT 93 52 55 (.invokevirtual 45) 94 := r93 (len := 3) (by decide +kernel) rfl
theorem e93_55 : amT 93 55 56 (.iadd) 0 := r93 (len := 1) (by decide +kernel) rfl
theorem e93_56 : amT 93 56 58 (.bipush 48) 0 := r93 (len := 2) (by decide +kernel) rfl
theorem e93_58 : amT 93 58 59 (.isub) 0 := r93 (len := 1) (by decide +kernel) rfl
theorem e93_59 : amT 93 59 62 (.putfield 38) 647 := r93 (len := 3) (by decide +kernel) rfl
theorem e93_62 : amT 93 62 65 (.iinc 2 1) 0 := r93 (len := 3) (by decide +kernel) rfl
theorem e93_65 : amT 93 65 68 (.goto (-38)) 0 := r93 (len := 3) (by decide +kernel) rfl
theorem t93_65 : amTg 65 (-38) = some 27 := by decide
theorem e93_68 : amT 93 68 69 (.aload_n 0) 0 := r93 (len := 1) (by decide +kernel) rfl
theorem e93_69 : amT 93 69 70 (.iload_n 2) 0 := r93 (len := 1) (by decide +kernel) rfl
theorem e93_70 : amT 93 70 73 (.invokevirtual 45) 94 := r93 (len := 3) (by decide +kernel) rfl
theorem e93_73 : amT 93 73 75 (.bipush 120) 0 := r93 (len := 2) (by decide +kernel) rfl
theorem e93_75 : amT 93 75 78 (.if_icmp .eq 17) 0 := r93 (len := 3) (by decide +kernel) rfl
theorem t93_75 : amTg 75 17 = some 92 := by decide
theorem e93_78 : amT 93 78 79 (.iload_n 2) 0 := r93 (len := 1) (by decide +kernel) rfl
theorem e93_79 : amT 93 79 80 (.iload_n 1) 0 := r93 (len := 1) (by decide +kernel) rfl
theorem e93_80 : amT 93 80 83 (.if_icmp .ne 10) 0 := r93 (len := 3) (by decide +kernel) rfl
theorem t93_80 : amTg 80 10 = some 90 := by decide
theorem e93_83 : amT 93 83 84 (.iload_n 2) 0 := r93 (len := 1) (by decide +kernel) rfl
theorem e93_84 : amT 93 84 87 (.invokestatic 48) 96 := r93 (len := 3) (by decide +kernel) rfl
theorem e93_87 : amT 93 87 90 (.goto 4) 0 := r93 (len := 3) (by decide +kernel) rfl
theorem t93_87 : amTg 87 4 = some 91 := by decide
theorem e93_90 : amT 93 90 91 (.iload_n 2) 0 := r93 (len := 1) (by decide +kernel) rfl
theorem e93_91 : amT 93 91 92 (.ireturn) 0 := r93 (len := 1) (by decide +kernel) rfl
theorem e93_92 : amT 93 92 93 (.iload_n 2) 0 := r93 (len := 1) (by decide +kernel) rfl
theorem e93_93 : amT 93 93 94 (.iload_n 1) 0 := r93 (len := 1) (by decide +kernel) rfl
theorem e93_94 : amT 93 94 97 (.if_icmp .ne 8) 0 := r93 (len := 3) (by decide +kernel) rfl
theorem t93_94 : amTg 94 8 = some 102 := by decide
theorem e93_97 : amT 93 97 98 (.aload_n 0) 0 := r93 (len := 1) (by decide +kernel) rfl
theorem e93_98 : amT 93 98 99 (.iconst 1) 0 := r93 (len := 1) (by decide +kernel) rfl
theorem e93_99 : amT 93 99 102 (.putfield 38) 647 := r93 (len := 3) (by decide +kernel) rfl
theorem e93_102 : amT 93 102 103 (.aload_n 0) 0 := r93 (len := 1) (by decide +kernel) rfl
theorem e93_103 : amT 93 103 104 (.iconst 1) 0 := r93 (len := 1) (by decide +kernel) rfl
theorem e93_104 : amT 93 104 107 (.putfield 35) 646 := r93 (len := 3) (by decide +kernel) rfl
theorem e93_107 : amT 93 107 110 (.iinc 2 1) 0 := r93 (len := 3) (by decide +kernel) rfl
theorem e93_110 : amT 93 110 111 (.aload_n 0) 0 := r93 (len := 1) (by decide +kernel) rfl
theorem e93_111 : amT 93 111 112 (.iload_n 2) 0 := r93 (len := 1) (by decide +kernel) rfl
theorem e93_112 : amT 93 112 115 (.invokevirtual 45) 94 := r93 (len := 3) (by decide +kernel) rfl
theorem e93_115 : amT 93 115 117 (.bipush 94) 0 := r93 (len := 2) (by decide +kernel) rfl
theorem e93_117 : amT 93 117 120 (.if_icmp .eq 5) 0 := r93 (len := 3) (by decide +kernel) rfl
theorem t93_117 : amTg 117 5 = some 122 := by decide
theorem e93_120 : amT 93 120 121 (.iload_n 2) 0 := r93 (len := 1) (by decide +kernel) rfl
theorem e93_121 : amT 93 121 122 (.ireturn) 0 := r93 (len := 1) (by decide +kernel) rfl
theorem e93_122 : amT 93 122 125 (.iinc 2 1) 0 := r93 (len := 3) (by decide +kernel) rfl
theorem e93_125 : amT 93 125 126 (.aload_n 0) 0 := r93 (len := 1) (by decide +kernel) rfl
theorem e93_126 : amT 93 126 127 (.iload_n 2) 0 := r93 (len := 1) (by decide +kernel) rfl
theorem e93_127 : amT 93 127 130 (.invokevirtual 45) 94 := r93 (len := 3) (by decide +kernel) rfl
theorem e93_130 : amT 93 130 132 (.bipush 50) 0 := r93 (len := 2) (by decide +kernel) rfl
theorem e93_132 : amT 93 132 135 (.if_icmp .lt 13) 0 := r93 (len := 3) (by decide +kernel) rfl
theorem t93_132 : amTg 132 13 = some 145 := by decide
theorem e93_135 : amT 93 135 136 (.aload_n 0) 0 := r93 (len := 1) (by decide +kernel) rfl
theorem e93_136 : amT 93 136 137 (.iload_n 2) 0 := r93 (len := 1) (by decide +kernel) rfl
theorem e93_137 : amT 93 137 140 (.invokevirtual 45) 94 := r93 (len := 3) (by decide +kernel) rfl
theorem e93_140 : amT 93 140 142 (.bipush 52) 0 := r93 (len := 2) (by decide +kernel) rfl
theorem e93_142 : amT 93 142 145 (.if_icmp .le 8) 0 := r93 (len := 3) (by decide +kernel) rfl
theorem t93_142 : amTg 142 8 = some 150 := by decide
theorem e93_145 : amT 93 145 146 (.iload_n 2) 0 := r93 (len := 1) (by decide +kernel) rfl
theorem e93_146 : amT 93 146 149 (.invokestatic 48) 96 := r93 (len := 3) (by decide +kernel) rfl
theorem e93_149 : amT 93 149 150 (.ireturn) 0 := r93 (len := 1) (by decide +kernel) rfl
theorem e93_150 : amT 93 150 151 (.aload_n 0) 0 := r93 (len := 1) (by decide +kernel) rfl
theorem e93_151 : amT 93 151 152 (.aload_n 0) 0 := r93 (len := 1) (by decide +kernel) rfl
theorem e93_152 : amT 93 152 153 (.iload_n 2) 0 := r93 (len := 1) (by decide +kernel) rfl
theorem e93_153 : amT 93 153 156 (.invokevirtual 45) 94 := r93 (len := 3) (by decide +kernel) rfl
theorem e93_156 : amT 93 156 158 (.bipush 48) 0 := r93 (len := 2) (by decide +kernel) rfl
theorem e93_158 : amT 93 158 159 (.isub) 0 := r93 (len := 1) (by decide +kernel) rfl
theorem e93_159 : amT 93 159 162 (.putfield 35) 646 := r93 (len := 3) (by decide +kernel) rfl
theorem e93_162 : amT 93 162 163 (.iload_n 2) 0 := r93 (len := 1) (by decide +kernel) rfl
theorem e93_163 : amT 93 163 164 (.iconst 1) 0 := r93 (len := 1) (by decide +kernel) rfl
theorem e93_164 : amT 93 164 165 (.iadd) 0 := r93 (len := 1) (by decide +kernel) rfl
theorem e93_165 : amT 93 165 166 (.ireturn) 0 := r93 (len := 1) (by decide +kernel) rfl
theorem q94 : amCs.getD 94 [] = amC_94 := rfl
theorem r94 {pc pc' len op : Nat} {i : Instr} (h : amC_94.lookup pc = some (i, len, op)) (h2 : pc + len = pc') : amT 94 pc pc' i op := ⟨len, by unfold amEnt; rw [q94]; exact h, h2⟩
theorem e94_0 : amT 94 0 1 (.iload_n 1) 0 := r94 (len := 1) (by decide +kernel) rfl
theorem e94_1 : amT 94 1 4 (.ifCond .lt 26) 0 := r94 (len := 3) (by decide +kernel) rfl
theorem t94_1 : amTg 1 26 = some 27 := by decide
theorem e94_4 : amT 94 4 5 (.iload_n 1) 0 := r94 (len := 1) (by decide +kernel) rfl
theorem e94_5 : amT 94 5 6 (.aload_n 0) 0 := r94 (len := 1) (by decide +kernel) rfl
theorem e94_6 : amT 94 6 9 (.getfield 15) 641 := r94 (len := 3) (by decide +kernel) rfl
theorem e94_9 : amT 94 9 12 (.if_icmp .ge 18) 0 := r94 (len := 3) (by decide +kernel) rfl
theorem t94_9 : amTg 9 18 = some 27 := by decide
theorem e94_12 : amT 94 12 13 (.iload_n 1) 0 := r94 (len := 1) (by decide +kernel) rfl
theorem e94_13 : amT 94 13 15 (.bipush 120) 0 := r94 (len := 2) (by decide +kernel) rfl
theorem e94_15 : amT 94 15 18 (.if_icmp .ge 12) 0 := r94 (len := 3) (by decide +kernel) rfl
theorem t94_15 : amTg 15 12 = some 27 := by decide
theorem e94_18 : amT 94 18 19 (.aload_n 0) 0 := r94 (len := 1) (by decide +kernel) rfl
theorem e94_19 : amT 94 19 22 (.getfield 11) 640 := r94 (len := 3) (by decide +kernel) rfl
theorem e94_22 : amT 94 22 23 (.iload_n 1) 0 := r94 (len := 1) (by decide +kernel) rfl
theorem e94_23 : amT 94 23 24 (.baload) 0 := r94 (len := 1) (by decide +kernel) rfl
theorem e94_24 : amT 94 24 27 (.goto 4) 0 := r94 (len := 3) (by decide +kernel) rfl
theorem t94_24 : amTg 24 4 = some 28 := by decide
theorem e94_27 : amT 94 27 28 (.iconst 0) 0 := r94 (len := 1) (by decide +kernel) rfl
theorem e94_28 : amT 94 28 29 (.ireturn) 0 := r94 (len := 1) (by decide +kernel) rfl
theorem q95 : amCs.getD 95 [] = amC_95 := rfl
theorem r95 {pc pc' len op : Nat} {i : Instr} (h : amC_95.lookup pc = some (i, len, op)) (h2 : pc + len = pc') : amT 95 pc pc' i op := ⟨len, by unfold amEnt; rw [q95]; exact h, h2⟩
theorem e95_0 : amT 95 0 1 (.aload_n 0) 0 := r95 (len := 1) (by decide +kernel) rfl
theorem e95_1 : amT 95 1 2 (.iload_n 1) 0 := r95 (len := 1) (by decide +kernel) rfl
theorem e95_2 : amT 95 2 5 (.invokevirtual 45) 94 := r95 (len := 3) (by decide +kernel) rfl
theorem e95_5 : amT 95 5 7 (.bipush 48) 0 := r95 (len := 2) (by decide +kernel) rfl
theorem e95_7 : amT 95 7 10 (.if_icmp .lt 17) 0 := r95 (len := 3) (by decide +kernel) rfl
theorem t95_7 : amTg 7 17 = some 24 := by decide
theorem e95_10 : amT 95 10 11 (.aload_n 0) 0 := r95 (len := 1) (by decide +kernel) rfl
theorem e95_11 : amT 95 11 12 (.iload_n 1) 0 := r95 (len := 1) (by decide +kernel) rfl
theorem e95_12 : amT 95 12 15 (.invokevirtual 45) 94 := r95 (len := 3) (by decide +kernel) rfl
theorem e95_15 : amT 95 15 17 (.bipush 57) 0 := r95 (len := 2) (by decide +kernel) rfl
theorem e95_17 : amT 95 17 20 (.if_icmp .gt 7) 0 := r95 (len := 3) (by decide +kernel) rfl
theorem t95_17 : amTg 17 7 = some 24 := by decide
theorem e95_20 : amT 95 20 21 (.iconst 1) 0 := r95 (len := 1) (by decide +kernel) rfl
theorem e95_21 : amT 95 21 24 (.goto 4) 0 := r95 (len := 3) (by decide +kernel) rfl
theorem t95_21 : amTg 21 4 = some 25 := by decide
theorem e95_24 : amT 95 24 25 (.iconst 0) 0 := r95 (len := 1) (by decide +kernel) rfl
theorem e95_25 : amT 95 25 26 (.ireturn) 0 := r95 (len := 1) (by decide +kernel) rfl
theorem q96 : amCs.getD 96 [] = amC_96 := rfl
theorem r96 {pc pc' len op : Nat} {i : Instr} (h : amC_96.lookup pc = some (i, len, op)) (h2 : pc + len = pc') : amT 96 pc pc' i op := ⟨len, by unfold amEnt; rw [q96]; exact h, h2⟩
theorem e96_0 : amT 96 0 3 (.sipush (-1000)) 0 := r96 (len := 3) (by decide +kernel) rfl
theorem e96_3 : amT 96 3 4 (.iload_n 0) 0 := r96 (len := 1) (by decide +kernel) rfl
theorem e96_4 : amT 96 4 5 (.isub) 0 := r96 (len := 1) (by decide +kernel) rfl
theorem e96_5 : amT 96 5 6 (.ireturn) 0 := r96 (len := 1) (by decide +kernel) rfl
theorem q98 : amCs.getD 98 [] = amC_98 := rfl
theorem r98 {pc pc' len op : Nat} {i : Instr} (h : amC_98.lookup pc = some (i, len, op)) (h2 : pc + len = pc') : amT 98 pc pc' i op := ⟨len, by unfold amEnt; rw [q98]; exact h, h2⟩
theorem e98_0 : amT 98 0 1 (.aload_n 0) 0 := r98 (len := 1) (by decide +kernel) rfl
theorem e98_1 : amT 98 1 4 (.getfield 15) 321 := r98 (len := 3) (by decide +kernel) rfl
theorem e98_4 : amT 98 4 5 (.ireturn) 0 := r98 (len := 1) (by decide +kernel) rfl
theorem q99 : amCs.getD 99 [] = amC_99 := rfl
theorem r99 {pc pc' len op : Nat} {i : Instr} (h : amC_99.lookup pc = some (i, len, op)) (h2 : pc + len = pc') : amT 99 pc pc' i op := ⟨len, by unfold amEnt; rw [q99]; exact h, h2⟩
theorem e99_0 : amT 99 0 1 (.iload_n 1) 0 := r99 (len := 1) (by decide +kernel) rfl
theorem e99_1 : amT 99 1 4 (.ifCond .lt 26) 0 := r99 (len := 3) (by decide +kernel) rfl
theorem t99_1 : amTg 1 26 = some 27 := by decide
theorem e99_4 : amT 99 4 5 (.iload_n 1) 0 := r99 (len := 1) (by decide +kernel) rfl
theorem e99_5 : amT 99 5 6 (.aload_n 0) 0 := r99 (len := 1) (by decide +kernel) rfl
theorem e99_6 : amT 99 6 9 (.getfield 15) 321 := r99 (len := 3) (by decide +kernel) rfl
theorem e99_9 : amT 99 9 12 (.if_icmp .ge 18) 0 := r99 (len := 3) (by decide +kernel) rfl
theorem t99_9 : amTg 9 18 = some 27 := by decide
theorem e99_12 : amT 99 12 13 (.iload_n 1) 0 := r99 (len := 1) (by decide +kernel) rfl
theorem e99_13 : amT 99 13 15 (.bipush 60) 0 := r99 (len := 2) (by decide +kernel) rfl
theorem e99_15 : amT 99 15 18 (.if_icmp .ge 12) 0 := r99 (len := 3) (by decide +kernel) rfl
theorem t99_15 : amTg 15 12 = some 27 := by decide
theorem e99_18 : amT 99 18 19 (.aload_n 0) 0 := r99 (len := 1) (by decide +kernel) rfl
theorem e99_19 : amT 99 19 22 (.getfield 11) 320 := r99 (len := 3) (by decide +kernel) rfl
theorem e99_22 : amT 99 22 23 (.iload_n 1) 0 := r99 (len := 1) (by decide +kernel) rfl
theorem e99_23 : amT 99 23 24 (.baload) 0 := r99 (len := 1) (by decide +kernel) rfl
theorem e99_24 : amT 99 24 27 (.goto 4) 0 := r99 (len := 3) (by decide +kernel) rfl
theorem t99_24 : amTg 24 4 = some 28 := by decide
theorem e99_27 : amT 99 27 28 (.iconst 0) 0 := r99 (len := 1) (by decide +kernel) rfl
theorem e99_28 : amT 99 28 29 (.ireturn) 0 := r99 (len := 1) (by decide +kernel) rfl
theorem q100 : amCs.getD 100 [] = amC_100 := rfl
theorem r100 {pc pc' len op : Nat} {i : Instr} (h : amC_100.lookup pc = some (i, len, op)) (h2 : pc + len = pc') : amT 100 pc pc' i op := ⟨len, by unfold amEnt; rw [q100]; exact h, h2⟩
theorem e100_0 : amT 100 0 1 (.aload_n 0) 0 := r100 (len := 1) (by decide +kernel) rfl
theorem e100_1 : amT 100 1 2 (.iconst 0) 0 := r100 (len := 1) (by decide +kernel) rfl
theorem e100_2 : amT 100 2 5 (.putfield 15) 321 := r100 (len := 3) (by decide +kernel) rfl
theorem e100_5 : amT 100 5 6 (.iconst 4) 0 := r100 (len := 1) (by decide +kernel) rfl
theorem e100_6 : amT 100 6 7 (.istore_n 2) 0 := r100 (len := 1) (by decide +kernel) rfl
theorem e100_7 : amT 100 7 8 (.iload_n 2) 0 := r100 (len := 1) (by decide +kernel) rfl
theorem e100_8 : amT 100 8 11 (.ifCond .lt 26) 0 := r100 (len := 3) (by decide +kernel) rfl
theorem t100_8 : amTg 8 26 = some 34 := by decide
theorem e100_11 : amT 100 11 12 (.aload_n 1) 0 := r100 (len := 1) (by decide +kernel) rfl
theorem e100_12 : amT 100 12 13 (.iload_n 2) 0 := r100 (len := 1) (by decide +kernel) rfl
theorem e100_13 : amT 100 13 16 (.invokevirtual 19) 3 := r100 (len := 3) (by decide +kernel) rfl
theorem e100_16 : amT 100 16 17 (.l2i) 0 := r100 (len := 1) (by decide +kernel) rfl
theorem e100_17 : amT 100 17 18 (.istore_n 3) 0 := r100 (len := 1) (by decide +kernel) rfl
theorem e100_18 : amT 100 18 19 (.iload_n 3) 0 := r100 (len := 1) (by decide +kernel) rfl
theorem e100_19 : amT 100 19 22 (.ifCond .eq 9) 0 := r100 (len := 3) (by decide +kernel) rfl
theorem t100_19 : amTg 19 9 = some 28 := by decide
theorem e100_22 : amT 100 22 23 (.aload_n 0) 0 := r100 (len := 1) (by decide +kernel) rfl
theorem e100_23 : amT 100 23 24 (.iload_n 3) 0 := r100 (len := 1) (by decide +kernel) rfl
theorem e100_24 : amT 100 24 25 (.iload_n 2) 0 := r100 (len := 1) (by decide +kernel) rfl
theorem e100_25 : amT 100 25 28 (.invokevirtual 25) 101 := r100 (len := 3) (by decide +kernel) rfl
theorem e100_28 : amT 100 28 31 (.iinc 2 (-1)) 0 := r100 (len := 3) (by decide +kernel) rfl
theorem e100_31 : amT 100 31 34 (.goto (-24)) 0 := r100 (len := 3) (by decide +kernel) rfl
theorem t100_31 : amTg 31 (-24) = some 7 := by decide
theorem e100_34 : amT 100 34 35 (.return_) 0 := r100 (len := 1) (by decide +kernel) rfl
theorem q101 : amCs.getD 101 [] = amC_101 := rfl
theorem r101 {pc pc' len op : Nat} {i : Instr} (h : amC_101.lookup pc = some (i, len, op)) (h2 : pc + len = pc') : amT 101 pc pc' i op := ⟨len, by unfold amEnt; rw [q101]; exact h, h2⟩
theorem e101_0 : amT 101 0 1 (.iload_n 1) 0 := r101 (len := 1) (by decide +kernel) rfl
theorem e101_1 : amT 101 1 4 (.ifCond .ge 12) 0 := r101 (len := 3) (by decide +kernel) rfl
theorem t101_1 : amTg 1 12 = some 13 := by decide
theorem e101_4 : amT 101 4 5 (.aload_n 0) 0 := r101 (len := 1) (by decide +kernel) rfl
theorem e101_5 : amT 101 5 7 (.bipush 45) 0 := r101 (len := 2) (by decide +kernel) rfl
theorem e101_7 : amT 101 7 10 (.invokevirtual 29) 103 := r101 (len := 3) (by decide +kernel) rfl
theorem e101_10 : amT 101 10 13 (.goto 16) 0 := r101 (len := 3) (by decide +kernel) rfl
theorem t101_10 : amTg 10 16 = some 26 := by decide
theorem e101_13 : amT 101 13 14 (.aload_n 0) 0 := r101 (len := 1) (by decide +kernel) rfl
theorem e101_14 : amT 101 14 17 (.getfield 15) 321 := r101 (len := 3) (by decide +kernel) rfl
theorem e101_17 : amT 101 17 20 (.ifCond .le 9) 0 := r101 (len := 3) (by decide +kernel) rfl
theorem t101_17 : amTg 17 9 = some 26 := by decide
theorem e101_20 : amT 101 20 21 (.aload_n 0) 0 := r101 (len := 1) (by decide +kernel) rfl
theorem e101_21 : amT 101 21 23 (.bipush 43) 0 := r101 (len := 2) (by decide +kernel) rfl
theorem e101_23 : amT 101 23 26 (.invokevirtual 29) 103 := r101 (len := 3) (by decide +kernel) rfl
theorem e101_26 : amT 101 26 27 (.iload_n 1) 0 := r101 (len := 1) (by decide +kernel) rfl
theorem e101_27 : amT 101 27 30 (.ifCond .ge 8) 0 := r101 (len := 3) (by decide +kernel) rfl
theorem t101_27 : amTg 27 8 = some 35 := by decide
theorem e101_30 : amT 101 30 31 (.iload_n 1) 0 := r101 (len := 1) (by decide +kernel) rfl
theorem e101_31 : amT 101 31 32 (.ineg) 0 := r101 (len := 1) (by decide +kernel) rfl
theorem e101_32 : amT 101 32 35 (.goto 4) 0 := r101 (len := 3) (by decide +kernel) rfl
theorem t101_32 : amTg 32 4 = some 36 := by decide
theorem e101_35 : amT 101 35 36 (.iload_n 1) 0 := r101 (len := 1) (by decide +kernel) rfl
theorem e101_36 : amT 101 36 37 (.istore_n 3) 0 := r101 (len := 1) (by decide +kernel) rfl
theorem e101_37 : amT 101 37 38 (.iload_n 3) 0 := r101 (len := 1) (by decide +kernel) rfl
theorem e101_38 : amT 101 38 39 (.iconst 1) 0 := r101 (len := 1) (by decide +kernel) rfl
theorem e101_39 : amT 101 39 42 (.if_icmp .ne 7) 0 := r101 (len := 3) (by decide +kernel) rfl
theorem t101_39 : amTg 39 7 = some 46 := by decide
theorem e101_42 : amT 101 42 43 (.iload_n 2) 0 := r101 (len := 1) (by decide +kernel) rfl
theorem e101_43 : amT 101 43 46 (.ifCond .ne 8) 0 := r101 (len := 3) (by decide +kernel) rfl
theorem t101_43 : amTg 43 8 = some 51 := by decide
theorem e101_46 : amT 101 46 47 (.aload_n 0) 0 := r101 (len := 1) (by decide +kernel) rfl
theorem e101_47 : amT 101 47 48 (.iload_n 3) 0 := r101 (len := 1) (by decide +kernel) rfl
theorem e101_48 : amT 101 48 51 (.invokevirtual 33) 102 := r101 (len := 3) (by decide +kernel) rfl
theorem e101_51 : amT 101 51 52 (.iload_n 2) 0 := r101 (len := 1) (by decide +kernel) rfl
theorem e101_52 : amT 101 52 55 (.ifCond .le 9) 0 := r101 (len := 3) (by decide +kernel) rfl
theorem t101_52 : amTg 52 9 = some 61 := by decide
theorem e101_55 : amT 101 55 56 (.aload_n 0) 0 := r101 (len := 1) (by decide +kernel) rfl
theorem e101_56 : amT 101 56 58 (.bipush 120) 0 := r101 (len := 2) (by decide +kernel) rfl
theorem e101_58 : amT 101 58 61 (.invokevirtual 29) 103 := r101 (len := 3) (by decide +kernel) rfl
theorem e101_61 : amT 101 61 62 (.iload_n 2) 0 := r101 (len := 1) (by decide +kernel) rfl
theorem e101_62 : amT 101 62 63 (.iconst 1) 0 := r101 (len := 1) (by decide +kernel) rfl
theorem e101_63 : amT 101 63 66 (.if_icmp .le 17) 0 := r101 (len := 3) (by decide +kernel) rfl
theorem t101_63 : amTg 63 17 = some 80 := by decide
theorem e101_66 : amT 101 66 67 (.aload_n 0) 0 := r101 (len := 1) (by decide +kernel) rfl
theorem e101_67 : amT 101 67 69 (.bipush 94) 0 := r101 (len := 2) (by decide +kernel) rfl
theorem e101_69 : amT 101 69 72 (.invokevirtual 29) 103 := r101 (len := 3) (by decide +kernel) rfl
theorem e101_72 : amT 101 72 73 (.aload_n 0) 0 := r101 (len := 1) (by decide +kernel) rfl
theorem e101_73 : amT 101 73 75 (.bipush 48) 0 := r101 (len := 2) (by decide +kernel) rfl
theorem e101_75 : amT 101 75 76 (.iload_n 2) 0 := r101 (len := 1) (by decide +kernel) rfl
theorem e101_76 : amT 101 76 77 (.iadd) 0 := r101 (len := 1) (by decide +kernel) rfl
theorem e101_77 : amT 101 77 80 (.invokevirtual 29) 103 := r101 (len := 3) (by decide +kernel) rfl
theorem e101_80 : amT 101 80 81 (.return_) 0 := r101 (len := 1) (by decide +kernel) rfl
theorem q102 : amCs.getD 102 [] = amC_102 := rfl
theorem r102 {pc pc' len op : Nat} {i : Instr} (h : amC_102.lookup pc = some (i, len, op)) (h2 : pc + len = pc') : amT 102 pc pc' i op := ⟨len, by unfold amEnt; rw [q102]; exact h, h2⟩
theorem e102_0 : amT 102 0 1 (.iload_n 1) 0 := r102 (len := 1) (by decide +kernel) rfl
theorem e102_1 : amT 102 1 3 (.bipush 100) 0 := r102 (len := 2) (by decide +kernel) rfl
theorem e102_3 : amT 102 3 6 (.if_icmp .lt 17) 0 := r102 (len := 3) (by decide +kernel) rfl
theorem t102_3 : amTg 3 17 = some 20 := by decide
theorem e102_6 : amT 102 6 7 (.aload_n 0) 0 := r102 (len := 1) (by decide +kernel) rfl
theorem e102_7 : amT 102 7 9 (.bipush 48) 0 := r102 (len := 2) (by decide +kernel) rfl
theorem e102_9 : amT 102 9 10 (.iload_n 1) 0 := r102 (len := 1) (by decide +kernel) rfl
theorem e102_10 : amT 102 10 12 (.bipush 100) 0 := r102 (len := 2) (by decide +kernel) rfl
theorem e102_12 : amT 102 12 13 (.idiv) 0 := r102 (len := 1) (by decide +kernel) rfl
theorem e102_13 : amT 102 13 15 (.bipush 10) 0 := r102 (len := 2) (by decide +kernel) rfl
theorem e102_15 : amT 102 15 16 (.irem) 0 := r102 (len := 1) (by decide +kernel) rfl
theorem e102_16 : amT 102 16 17 (.iadd) 0 := r102 (len := 1) (by decide +kernel) rfl
theorem e102_17 : amT 102 17 20 (.invokevirtual 29) 103 := r102 (len := 3) (by decide +kernel) rfl
theorem e102_20 : amT 102 20 21 (.iload_n 1) 0 := r102 (len := 1) (by decide +kernel) rfl
theorem e102_21 : amT 102 21 23 (.bipush 10) 0 := r102 (len := 2) (by decide +kernel) rfl
theorem e102_23 : amT 102 23 26 (.if_icmp .lt 17) 0 := r102 (len := 3) (by decide +kernel) rfl
theorem t102_23 : amTg 23 17 = some 40 := by decide
theorem e102_26 : amT 102 26 27 (.aload_n 0) 0 := r102 (len := 1) (by decide +kernel) rfl
theorem e102_27 : amT 102 27 29 (.bipush 48) 0 := r102 (len := 2) (by decide +kernel) rfl
theorem e102_29 : amT 102 29 30 (.iload_n 1) 0 := r102 (len := 1) (by decide +kernel) rfl
theorem e102_30 : amT 102 30 32 (.bipush 10) 0 := r102 (len := 2) (by decide +kernel) rfl
theorem e102_32 : amT 102 32 33 (.idiv) 0 := r102 (len := 1) (by decide +kernel) rfl
theorem e102_33 : amT 102 33 35 (.bipush 10) 0 := r102 (len := 2) (by decide +kernel) rfl
theorem e102_35 : amT 102 35 36 (.irem) 0 := r102 (len := 1) (by decide +kernel) rfl
theorem e102_36 : amT 102 36 37 (.iadd) 0 := r102 (len := 1) (by decide +kernel) rfl
theorem e102_37 : amT 102 37 40 (.invokevirtual 29) 103 := r102 (len := 3) (by decide +kernel) rfl
theorem e102_40 : amT 102 40 41 (.aload_n 0) 0 := r102 (len := 1) (by decide +kernel) rfl
theorem e102_41 : amT 102 41 43 (.bipush 48) 0 := r102 (len := 2) (by decide +kernel) rfl
theorem e102_43 : amT 102 43 44 (.iload_n 1) 0 := r102 (len := 1) (by decide +kernel) rfl
theorem e102_44 : amT 102 44 46 (.bipush 10) 0 := r102 (len := 2) (by decide +kernel) rfl
theorem e102_46 : amT 102 46 47 (.irem) 0 := r102 (len := 1) (by decide +kernel) rfl
theorem e102_47 : amT 102 47 48 (.iadd) 0 := r102 (len := 1) (by decide +kernel) rfl
theorem e102_48 : amT 102 48 51 (.invokevirtual 29) 103 := r102 (len := 3) (by decide +kernel) rfl
theorem e102_51 : amT 102 51 52 (.return_) 0 := r102 (len := 1) (by decide +kernel) rfl
theorem q103 : amCs.getD 103 [] = amC_103 := rfl
theorem r103 {pc pc' len op : Nat} {i : Instr} (h : amC_103.lookup pc = some (i, len, op)) (h2 : pc + len = pc') : amT 103 pc pc' i op := ⟨len, by unfold amEnt; rw [q103]; exact h, h2⟩
theorem e103_0 : amT 103 0 1 (.aload_n 0) 0 := r103 (len := 1) (by decide +kernel) rfl
theorem e103_1 : amT 103 1 4 (.getfield 15) 321 := r103 (len := 3) (by decide +kernel) rfl
theorem e103_4 : amT 103 4 6 (.bipush 60) 0 := r103 (len := 2) (by decide +kernel) rfl
theorem e103_6 : amT 103 6 9 (.if_icmp .ge 24) 0 := r103 (len := 3) (by decide +kernel) rfl
theorem t103_6 : amTg 6 24 = some 30 := by decide
theorem e103_9 : amT 103 9 10 (.aload_n 0) 0 := r103 (len := 1) (by decide +kernel) rfl
theorem e103_10 : amT 103 10 13 (.getfield 11) 320 := r103 (len := 3) (by decide +kernel) rfl
theorem e103_13 : amT 103 13 14 (.aload_n 0) 0 := r103 (len := 1) (by decide +kernel) rfl
theorem e103_14 : amT 103 14 17 (.getfield 15) 321 := r103 (len := 3) (by decide +kernel) rfl
theorem e103_17 : amT 103 17 18 (.iload_n 1) 0 := r103 (len := 1) (by decide +kernel) rfl
theorem e103_18 : amT 103 18 19 (.i2b) 0 := r103 (len := 1) (by decide +kernel) rfl
theorem e103_19 : amT 103 19 20 (.bastore) 0 := r103 (len := 1) (by decide +kernel) rfl
theorem e103_20 : amT 103 20 21 (.aload_n 0) 0 := r103 (len := 1) (by decide +kernel) rfl
theorem e103_21 : amT 103 21 22 (.dup) 0 := r103 (len := 1) (by decide +kernel) rfl
theorem e103_22 : amT 103 22 25 (.getfield 15) 321 := r103 (len := 3) (by decide +kernel) rfl
theorem e103_25 : amT 103 25 26 (.iconst 1) 0 := r103 (len := 1) (by decide +kernel) rfl
theorem e103_26 : amT 103 26 27 (.iadd) 0 := r103 (len := 1) (by decide +kernel) rfl
theorem e103_27 : amT 103 27 30 (.putfield 15) 321 := r103 (len := 3) (by decide +kernel) rfl
theorem e103_30 : amT 103 30 31 (.return_) 0 := r103 (len := 1) (by decide +kernel) rfl
theorem q105 : amCs.getD 105 [] = amC_105 := rfl
theorem r105 {pc pc' len op : Nat} {i : Instr} (h : amC_105.lookup pc = some (i, len, op)) (h2 : pc + len = pc') : amT 105 pc pc' i op := ⟨len, by unfold amEnt; rw [q105]; exact h, h2⟩
theorem e105_0 : amT 105 0 1 (.iload_n 1) 0 := r105 (len := 1) (by decide +kernel) rfl
theorem e105_1 : amT 105 1 4 (.ifCond .lt 12) 0 := r105 (len := 3) (by decide +kernel) rfl
theorem t105_1 : amTg 1 12 = some 13 := by decide
theorem e105_4 : amT 105 4 5 (.iload_n 1) 0 := r105 (len := 1) (by decide +kernel) rfl
theorem e105_5 : amT 105 5 6 (.iconst 4) 0 := r105 (len := 1) (by decide +kernel) rfl
theorem e105_6 : amT 105 6 9 (.if_icmp .ge 7) 0 := r105 (len := 3) (by decide +kernel) rfl
theorem t105_6 : amTg 6 7 = some 13 := by decide
theorem e105_9 : amT 105 9 10 (.iconst 1) 0 := r105 (len := 1) (by decide +kernel) rfl
theorem e105_10 : amT 105 10 13 (.goto 4) 0 := r105 (len := 3) (by decide +kernel) rfl
theorem t105_10 : amTg 10 4 = some 14 := by decide
theorem e105_13 : amT 105 13 14 (.iconst 0) 0 := r105 (len := 1) (by decide +kernel) rfl
theorem e105_14 : amT 105 14 15 (.ireturn) 0 := r105 (len := 1) (by decide +kernel) rfl
theorem q106 : amCs.getD 106 [] = amC_106 := rfl
theorem r106 {pc pc' len op : Nat} {i : Instr} (h : amC_106.lookup pc = some (i, len, op)) (h2 : pc + len = pc') : amT 106 pc pc' i op := ⟨len, by unfold amEnt; rw [q106]; exact h, h2⟩
theorem e106_0 : amT 106 0 1 (.aload_n 0) 0 := r106 (len := 1) (by decide +kernel) rfl
theorem e106_1 : amT 106 1 2 (.iload_n 1) 0 := r106 (len := 1) (by decide +kernel) rfl
theorem e106_2 : amT 106 2 5 (.invokevirtual 16) 105 := r106 (len := 3) (by decide +kernel) rfl
theorem e106_5 : amT 106 5 8 (.ifCond .eq 12) 0 := r106 (len := 3) (by decide +kernel) rfl
theorem t106_5 : amTg 5 12 = some 17 := by decide
theorem e106_8 : amT 106 8 9 (.aload_n 0) 0 := r106 (len := 1) (by decide +kernel) rfl
theorem e106_9 : amT 106 9 12 (.getfield 13) 513 := r106 (len := 3) (by decide +kernel) rfl
theorem e106_12 : amT 106 12 13 (.iload_n 1) 0 := r106 (len := 1) (by decide +kernel) rfl
theorem e106_13 : amT 106 13 14 (.iaload) 0 := r106 (len := 1) (by decide +kernel) rfl
theorem e106_14 : amT 106 14 17 (.goto 4) 0 := r106 (len := 3) (by decide +kernel) rfl
theorem t106_14 : amTg 14 4 = some 18 := by decide
theorem e106_17 : amT 106 17 18 (.iconst (-1)) 0 := r106 (len := 1) (by decide +kernel) rfl
theorem e106_18 : amT 106 18 19 (.ireturn) 0 := r106 (len := 1) (by decide +kernel) rfl
theorem q107 : amCs.getD 107 [] = amC_107 := rfl
theorem r107 {pc pc' len op : Nat} {i : Instr} (h : amC_107.lookup pc = some (i, len, op)) (h2 : pc + len = pc') : amT 107 pc pc' i op := ⟨len, by unfold amEnt; rw [q107]; exact h, h2⟩
theorem e107_0 : amT 107 0 1 (.aload_n 0) 0 := r107 (len := 1) (by decide +kernel) rfl
theorem e107_1 : amT 107 1 2 (.iload_n 1) 0 := r107 (len := 1) (by decide +kernel) rfl
theorem e107_2 : amT 107 2 5 (.invokevirtual 16) 105 := r107 (len := 3) (by decide +kernel) rfl
theorem e107_5 : amT 107 5 8 (.ifCond .eq 13) 0 := r107 (len := 3) (by decide +kernel) rfl
theorem t107_5 : amTg 5 13 = some 18 := by decide
theorem e107_8 : amT 107 8 9 (.iload_n 2) 0 := r107 (len := 1) (by decide +kernel) rfl
theorem e107_9 : amT 107 9 12 (.ifCond .lt 9) 0 := r107 (len := 3) (by decide +kernel) rfl
theorem t107_9 : amTg 9 9 = some 18 := by decide
theorem e107_12 : amT 107 12 13 (.iload_n 2) 0 := r107 (len := 1) (by decide +kernel) rfl
theorem e107_13 : amT 107 13 15 (.bipush 24) 0 := r107 (len := 2) (by decide +kernel) rfl
theorem e107_15 : amT 107 15 18 (.if_icmp .le 4) 0 := r107 (len := 3) (by decide +kernel) rfl
theorem t107_15 : amTg 15 4 = some 19 := by decide
theorem e107_18 : amT 107 18 19 (.return_) 0 := r107 (len := 1) (by decide +kernel) rfl
theorem e107_19 : amT 107 19 20 (.aload_n 0) 0 := r107 (len := 1) (by decide +kernel) rfl
theorem e107_20 : amT 107 20 23 (.getfield 13) 513 := r107 (len := 3) (by decide +kernel) rfl
theorem e107_23 : amT 107 23 24 (.iload_n 1) 0 := r107 (len := 1) (by decide +kernel) rfl
theorem e107_24 : amT 107 24 25 (.iload_n 2) 0 := r107 (len := 1) (by decide +kernel) rfl
theorem e107_25 : amT 107 25 26 (.iastore) 0 := r107 (len := 1) (by decide +kernel) rfl
theorem e107_26 : amT 107 26 27 (.iconst 0) 0 := r107 (len := 1) (by decide +kernel) rfl
theorem e107_27 : amT 107 27 28 (.istore_n 3) 0 := r107 (len := 1) (by decide +kernel) rfl
theorem e107_28 : amT 107 28 29 (.iload_n 3) 0 := r107 (len := 1) (by decide +kernel) rfl
theorem e107_29 : amT 107 29 30 (.iload_n 2) 0 := r107 (len := 1) (by decide +kernel) rfl
theorem e107_30 : amT 107 30 33 (.if_icmp .ge 21) 0 := r107 (len := 3) (by decide +kernel) rfl
theorem t107_30 : amTg 30 21 = some 51 := by decide
theorem e107_33 : amT 107 33 34 (.aload_n 0) 0 := r107 (len := 1) (by decide +kernel) rfl
theorem e107_34 : amT 107 34 37 (.getfield 9) 512 := r107 (len := 3) (by decide +kernel) rfl
theorem e107_37 : amT 107 37 38 (.iload_n 1) 0 := r107 (len := 1) (by decide +kernel) rfl
theorem e107_38 : amT 107 38 40 (.bipush 24) 0 := r107 (len := 2) (by decide +kernel) rfl
theorem e107_40 : amT 107 40 41 (.imul) 0 := r107 (len := 1) (by decide +kernel) rfl
theorem e107_41 : amT 107 41 42 (.iload_n 3) 0 := r107 (len := 1) (by decide +kernel) rfl
theorem e107_42 : amT 107 42 43 (.iadd) 0 := r107 (len := 1) (by decide +kernel) rfl
theorem e107_43 : amT 107 43 44 (.iconst 0) 0 := r107 (len := 1) (by decide +kernel) rfl
theorem e107_44 : amT 107 44 45 (.iastore) 0 := r107 (len := 1) (by decide +kernel) rfl
theorem e107_45 : amT 107 45 48 (.iinc 3 1) 0 := r107 (len := 3) (by decide +kernel) rfl
theorem e107_48 : amT 107 48 51 (.goto (-20)) 0 := r107 (len := 3) (by decide +kernel) rfl
theorem t107_48 : amTg 48 (-20) = some 28 := by decide
theorem e107_51 : amT 107 51 52 (.return_) 0 := r107 (len := 1) (by decide +kernel) rfl
theorem q108 : amCs.getD 108 [] = amC_108 := rfl
theorem r108 {pc pc' len op : Nat} {i : Instr} (h : amC_108.lookup pc = some (i, len, op)) (h2 : pc + len = pc') : amT 108 pc pc' i op := ⟨len, by unfold amEnt; rw [q108]; exact h, h2⟩
theorem e108_0 : amT 108 0 1 (.iload_n 2) 0 := r108 (len := 1) (by decide +kernel) rfl
theorem e108_1 : amT 108 1 4 (.ifCond .lt 26) 0 := r108 (len := 3) (by decide +kernel) rfl
theorem t108_1 : amTg 1 26 = some 27 := by decide
theorem e108_4 : amT 108 4 5 (.iload_n 2) 0 := r108 (len := 1) (by decide +kernel) rfl
theorem e108_5 : amT 108 5 6 (.aload_n 0) 0 := r108 (len := 1) (by decide +kernel) rfl
theorem e108_6 : amT 108 6 7 (.iload_n 1) 0 := r108 (len := 1) (by decide +kernel) rfl
theorem e108_7 : amT 108 7 10 (.invokevirtual 20) 106 := r108 (len := 3) (by decide +kernel) rfl
theorem e108_10 : amT 108 10 13 (.if_icmp .ge 17) 0 := r108 (len := 3) (by decide +kernel) rfl
theorem t108_10 : amTg 10 17 = some 27 := by decide
theorem e108_13 : amT 108 13 14 (.aload_n 0) 0 := r108 (len := 1) (by decide +kernel) rfl
theorem e108_14 : amT 108 14 17 (.getfield 9) 512 := r108 (len := 3) (by decide +kernel) rfl
theorem e108_17 : amT 108 17 18 (.iload_n 1) 0 := r108 (len := 1) (by decide +kernel) rfl
theorem e108_18 : amT 108 18 20 (.bipush 24) 0 := r108 (len := 2) (by decide +kernel) rfl
theorem e108_20 : amT 108 20 21 (.imul) 0 := r108 (len := 1) (by decide +kernel) rfl
theorem e108_21 : amT 108 21 22 (.iload_n 2) 0 := r108 (len := 1) (by decide +kernel) rfl
theorem e108_22 : amT 108 22 23 (.iadd) 0 := r108 (len := 1) (by decide +kernel) rfl
theorem e108_23 : amT 108 23 24 (.iaload) 0 := r108 (len := 1) (by decide +kernel) rfl
theorem e108_24 : amT 108 24 27 (.goto 4) 0 := r108 (len := 3) (by decide +kernel) rfl
theorem t108_24 : amTg 24 4 = some 28 := by decide
theorem e108_27 : amT 108 27 28 (.iconst 0) 0 := r108 (len := 1) (by decide +kernel) rfl
theorem e108_28 : amT 108 28 29 (.ireturn) 0 := r108 (len := 1) (by decide +kernel) rfl
theorem q109 : amCs.getD 109 [] = amC_109 := rfl
theorem r109 {pc pc' len op : Nat} {i : Instr} (h : amC_109.lookup pc = some (i, len, op)) (h2 : pc + len = pc') : amT 109 pc pc' i op := ⟨len, by unfold amEnt; rw [q109]; exact h, h2⟩
theorem e109_0 : amT 109 0 1 (.iload_n 2) 0 := r109 (len := 1) (by decide +kernel) rfl
theorem e109_1 : amT 109 1 4 (.ifCond .lt 24) 0 := r109 (len := 3) (by decide +kernel) rfl
theorem t109_1 : amTg 1 24 = some 25 := by decide
theorem e109_4 : amT 109 4 5 (.iload_n 2) 0 := r109 (len := 1) (by decide +kernel) rfl
theorem e109_5 : amT 109 5 6 (.aload_n 0) 0 := r109 (len := 1) (by decide +kernel) rfl
theorem e109_6 : amT 109 6 7 (.iload_n 1) 0 := r109 (len := 1) (by decide +kernel) rfl
theorem e109_7 : amT 109 7 10 (.invokevirtual 20) 106 := r109 (len := 3) (by decide +kernel) rfl
theorem e109_10 : amT 109 10 13 (.if_icmp .ge 15) 0 := r109 (len := 3) (by decide +kernel) rfl
theorem t109_10 : amTg 10 15 = some 25 := by decide
theorem e109_13 : amT 109 13 14 (.aload_n 0) 0 := r109 (len := 1) (by decide +kernel) rfl
theorem e109_14 : amT 109 14 17 (.getfield 9) 512 := r109 (len := 3) (by decide +kernel) rfl
theorem e109_17 : amT 109 17 18 (.iload_n 1) 0 := r109 (len := 1) (by decide +kernel) rfl
theorem e109_18 : amT 109 18 20 (.bipush 24) 0 := r109 (len := 2) (by decide +kernel) rfl
theorem e109_20 : amT 109 20 21 (.imul) 0 := r109 (len := 1) (by decide +kernel) rfl
theorem e109_21 : amT 109 21 22 (.iload_n 2) 0 := r109 (len := 1) (by decide +kernel) rfl
theorem e109_22 : amT 109 22 23 (.iadd) 0 := r109 (len := 1) (by decide +kernel) rfl
theorem e109_23 : amT 109 23 24 (.iload_n 3) 0 := r109 (len := 1) (by decide +kernel) rfl
theorem e109_24 : amT 109 24 25 (.iastore) 0 := r109 (len := 1) (by decide +kernel) rfl
theorem e109_25 : amT 109 25 26 (.return_) 0 := r109 (len := 1) (by decide +kernel) rfl
theorem q111 : amCs.getD 111 [] = amC_111 := rfl
theorem r111 {pc pc' len op : Nat} {i : Instr} (h : amC_111.lookup pc = some (i, len, op)) (h2 : pc + len = pc') : amT 111 pc pc' i op := ⟨len, by unfold amEnt; rw [q111]; exact h, h2⟩
theorem e111_0 : amT 111 0 1 (.iload_n 1) 0 := r111 (len := 1) (by decide +kernel) rfl
theorem e111_1 : amT 111 1 4 (.invokestatic 108) 145 := r111 (len := 3) (by decide +kernel) rfl
theorem e111_4 : amT 111 4 7 (.ifCond .ne 33) 0 := r111 (len := 3) (by decide +kernel) rfl
theorem t111_4 : amTg 4 33 = some 37 := by decide
theorem e111_7 : amT 111 7 8 (.iload_n 2) 0 := r111 (len := 1) (by decide +kernel) rfl
theorem e111_8 : amT 111 8 11 (.invokestatic 108) 145 := r111 (len := 3) (by decide +kernel) rfl
theorem e111_11 : amT 111 11 14 (.ifCond .ne 26) 0 := r111 (len := 3) (by decide +kernel) rfl
theorem t111_11 : amTg 11 26 = some 37 := by decide
theorem e111_14 : amT 111 14 15 (.iload_n 3) 0 := r111 (len := 1) (by decide +kernel) rfl
theorem e111_15 : amT 111 15 18 (.invokestatic 108) 145 := r111 (len := 3) (by decide +kernel) rfl
theorem e111_18 : amT 111 18 21 (.ifCond .ne 19) 0 := r111 (len := 3) (by decide +kernel) rfl
theorem t111_18 : amTg 18 19 = some 37 := by decide
theorem e111_21 : amT 111 21 23 (.iload 4) 0 := r111 (len := 2) (by decide +kernel) rfl
theorem e111_23 : amT 111 23 26 (.invokestatic 108) 145 := r111 (len := 3) (by decide +kernel) rfl
theorem e111_26 : amT 111 26 29 (.ifCond .ne 11) 0 := r111 (len := 3) (by decide +kernel) rfl
theorem t111_26 : amTg 26 11 = some 37 := by decide
theorem e111_29 : amT 111 29 31 (.iload 5) 0 := r111 (len := 2) (by decide +kernel) rfl
theorem e111_31 : amT 111 31 34 (.invokestatic 108) 145 := r111 (len := 3) (by decide +kernel) rfl
theorem e111_34 : amT 111 34 37 (.ifCond .eq 5) 0 := r111 (len := 3) (by decide +kernel) rfl
theorem t111_34 : amTg 34 5 = some 39 := by decide
theorem e111_37 : amT 111 37 38 (.iconst (-1)) 0 := r111 (len := 1) (by decide +kernel) rfl
theorem e111_38 : amT 111 38 39 (.ireturn) 0 := r111 (len := 1) (by decide +kernel) rfl
theorem e111_39 : amT 111 39 40 (.aload_n 0) 0 := r111 (len := 1) (by decide +kernel) rfl
theorem e111_40 : amT 111 40 43 (.getfield 28) 707 := r111 (len := 3) (by decide +kernel) rfl
theorem e111_43 : amT 111 43 46 (.invokevirtual 112) 7 := r111 (len := 3) (by decide +kernel) rfl
theorem e111_46 : amT 111 46 47 (.aload_n 0) 0 := r111 (len := 1) (by decide +kernel) rfl
theorem e111_47 : amT 111 47 50 (.getfield 28) 707 := r111 (len := 3) (by decide +kernel) rfl
theorem e111_50 : amT 111 50 51 (.iconst 0) 0 := r111 (len := 1) (by decide +kernel) rfl
theorem e111_51 : amT 111 51 52 (.iload_n 1) 0 := r111 (len := 1) (by decide +kernel) rfl
theorem e111_52 : amT 111 52 53 (.i2l) 0 := r111 (len := 1) (by decide +kernel) rfl
theorem e111_53 : amT 111 53 56 (.invokevirtual 115) 4 := r111 (len := 3) (by decide +kernel) rfl
theorem e111_56 : amT 111 56 57 (.aload_n 0) 0 := r111 (len := 1) (by decide +kernel) rfl
theorem e111_57 : amT 111 57 60 (.getfield 28) 707 := r111 (len := 3) (by decide +kernel) rfl
theorem e111_60 : amT 111 60 61 (.iconst 1) 0 := r111 (len := 1) (by decide +kernel) rfl
theorem e111_61 : amT 111 61 62 (.iload_n 2) 0 := r111 (len := 1) (by decide +kernel) rfl
theorem e111_62 : amT 111 62 63 (.i2l) 0 := r111 (len := 1) (by decide +kernel) rfl
theorem e111_63 : amT 111 63 66 (.invokevirtual 115) 4 := r111 (len := 3) (by decide +kernel) rfl
theorem e111_66 : amT 111 66 67 (.aload_n 0) 0 := r111 (len := 1) (by decide +kernel) rfl
theorem e111_67 : amT 111 67 70 (.getfield 28) 707 := r111 (len := 3) (by decide +kernel) rfl
theorem e111_70 : amT 111 70 71 (.iconst 2) 0 := r111 (len := 1) (by decide +kernel) rfl
theorem e111_71 : amT 111 71 72 (.iload_n 3) 0 := r111 (len := 1) (by decide +kernel) rfl
theorem e111_72 : amT 111 72 73 (.i2l) 0 := r111 (len := 1) (by decide +kernel) rfl
theorem e111_73 : amT 111 73 76 (.invokevirtual 115) 4 := r111 (len := 3) (by decide +kernel) rfl
theorem e111_76 : amT 111 76 77 (.aload_n 0) 0 := r111 (len := 1) (by decide +kernel) rfl
theorem e111_77 : amT 111 77 80 (.getfield 28) 707 := r111 (len := 3) (by decide +kernel) rfl
theorem e111_80 : amT 111 80 81 (.iconst 3) 0 := r111 (len := 1) (by decide +kernel) rfl
theorem e111_81 : amT 111 81 83 (.iload 4) 0 := r111 (len := 2) (by decide +kernel) rfl
theorem e111_83 : amT 111 83 84 (.i2l) 0 := r111 (len := 1) (by decide +kernel) rfl
theorem e111_84 : amT 111 84 87 (.invokevirtual 115) 4 := r111 (len := 3) (by decide +kernel) rfl
theorem e111_87 : amT 111 87 88 (.aload_n 0) 0 := r111 (len := 1) (by decide +kernel) rfl
theorem e111_88 : amT 111 88 91 (.getfield 28) 707 := r111 (len := 3) (by decide +kernel) rfl
theorem e111_91 : amT 111 91 92 (.iconst 4) 0 := r111 (len := 1) (by decide +kernel) rfl
theorem e111_92 : amT 111 92 94 (.iload 5) 0 := r111 (len := 2) (by decide +kernel) rfl
theorem e111_94 : amT 111 94 95 (.i2l) 0 := r111 (len := 1) (by decide +kernel) rfl
theorem e111_95 : amT 111 95 98 (.invokevirtual 115) 4 := r111 (len := 3) (by decide +kernel) rfl
theorem e111_98 : amT 111 98 99 (.aload_n 0) 0 := r111 (len := 1) (by decide +kernel) rfl
theorem e111_99 : amT 111 99 100 (.aload_n 0) 0 := r111 (len := 1) (by decide +kernel) rfl
theorem e111_100 : amT 111 100 103 (.getfield 28) 707 := r111 (len := 3) (by decide +kernel) rfl
theorem e111_103 : amT 111 103 106 (.invokevirtual 119) 142 := r111 (len := 3) (by decide +kernel) rfl
theorem e111_106 : amT 111 106 107 (.ireturn) 0 := r111 (len := 1) (by decide +kernel) rfl
theorem q112 : amCs.getD 112 [] = amC_112 := rfl
theorem r112 {pc pc' len op : Nat} {i : Instr} (h : amC_112.lookup pc = some (i, len, op)) (h2 : pc + len = pc') : amT 112 pc pc' i op := ⟨len, by unfold amEnt; rw [q112]; exact h, h2⟩
theorem e112_0 : amT 112 0 1 (.iload_n 1) 0 := r112 (len := 1) (by decide +kernel) rfl
theorem e112_1 : amT 112 1 4 (.ifCond .lt 9) 0 := r112 (len := 3) (by decide +kernel) rfl
theorem t112_1 : amTg 1 9 = some 10 := by decide
theorem e112_4 : amT 112 4 5 (.iload_n 1) 0 := r112 (len := 1) (by decide +kernel) rfl
theorem e112_5 : amT 112 5 7 (.bipush 12) 0 := r112 (len := 2) (by decide +kernel) rfl
theorem e112_7 : amT 112 7 10 (.if_icmp .lt 5) 0 := r112 (len := 3) (by decide +kernel) rfl
theorem t112_7 : amTg 7 5 = some 12 := by decide
theorem e112_10 : amT 112 10 11 (.iconst (-1)) 0 := r112 (len := 1) (by decide +kernel) rfl
theorem e112_11 : amT 112 11 12 (.ireturn) 0 := r112 (len := 1) (by decide +kernel) rfl
theorem e112_12 : amT 112 12 13 (.aload_n 0) 0 := r112 (len := 1) (by decide +kernel) rfl
theorem e112_13 : amT 112 13 16 (.getfield 12) 704 := r112 (len := 3) (by decide +kernel) rfl
theorem e112_16 : amT 112 16 17 (.iload_n 2) 0 := r112 (len := 1) (by decide +kernel) rfl
theorem e112_17 : amT 112 17 20 (.invokevirtual 123) 55 := r112 (len := 3) (by decide +kernel) rfl
theorem e112_20 : amT 112 20 22 (.astore 4) 0 := r112 (len := 2) (by decide +kernel) rfl
theorem e112_22 : amT 112 22 24 (.aload 4) 0 := r112 (len := 2) (by decide +kernel) rfl
theorem e112_24 : amT 112 24 27 (.ifnull 12) 0 := r112 (len := 3) (by decide +kernel) rfl
theorem t112_24 : amTg 24 12 = some 36 := by decide
theorem e112_27 : amT 112 27 28 (.aload_n 0) 0 := r112 (len := 1) (by decide +kernel) rfl
theorem e112_28 : amT 112 28 29 (.iload_n 1) 0 := r112 (len := 1) (by decide +kernel) rfl
theorem e112_29 : amT 112 29 30 (.iload_n 3) 0 := r112 (len := 1) (by decide +kernel) rfl
theorem e112_30 : amT 112 30 33 (.invokevirtual 127) 143 := r112 (len := 3) (by decide +kernel) rfl
theorem e112_33 : amT 112 33 36 (.ifCond .eq 5) 0 := r112 (len := 3) (by decide +kernel) rfl
theorem t112_33 : amTg 33 5 = some 38 := by decide
theorem e112_36 : amT 112 36 37 (.iconst (-1)) 0 := r112 (len := 1) (by decide +kernel) rfl
theorem e112_37 : amT 112 37 38 (.ireturn) 0 := r112 (len := 1) (by decide +kernel) rfl
theorem e112_38 : amT 112 38 39 (.aload_n 0) 0 := r112 (len := 1) (by decide +kernel) rfl
theorem e112_39 : amT 112 39 42 (.getfield 12) 704 := r112 (len := 3) (by decide +kernel) rfl
theorem e112_42 : amT 112 42 45 (.invokevirtual 131) 54 := r112 (len := 3) (by decide +kernel) rfl
theorem e112_45 : amT 112 45 48 (.ifCond .eq 6) 0 := r112 (len := 3) (by decide +kernel) rfl
theorem t112_45 : amTg 45 6 = some 51 := by decide
theorem e112_48 : amT 112 48 50 (.bipush (-3)) 0 := r112 (len := 2) (by decide +kernel) rfl
theorem e112_50 : amT 112 50 51 (.ireturn) 0 := r112 (len := 1) (by decide +kernel) rfl
theorem e112_51 : amT 112 51 52 (.iload_n 1) 0 := r112 (len := 1) (by decide +kernel) rfl
theorem e112_52 : amT 112 52 55 (.invokestatic 135) 144 := r112 (len := 3) (by decide +kernel) rfl
theorem e112_55 : amT 112 55 58 (.ifCond .eq 14) 0 := r112 (len := 3) (by decide +kernel) rfl
theorem t112_55 : amTg 55 14 = some 69 := by decide
theorem e112_58 : amT 112 58 59 (.aload_n 0) 0 := r112 (len := 1) (by decide +kernel) rfl
theorem e112_59 : amT 112 59 62 (.getfield 12) 704 := r112 (len := 3) (by decide +kernel) rfl
theorem e112_62 : amT 112 62 63 (.iload_n 3) 0 := r112 (len := 1) (by decide +kernel) rfl
theorem e112_63 : amT 112 63 66 (.invokevirtual 123) 55 := r112 (len := 3) (by decide +kernel) rfl
theorem e112_66 : amT 112 66 69 (.goto 5) 0 := r112 (len := 3) (by decide +kernel) rfl
theorem t112_66 : amTg 66 5 = some 71 := by decide
theorem e112_69 : amT 112 69 71 (.aload 4) 0 := r112 (len := 2) (by decide +kernel) rfl
theorem e112_71 : amT 112 71 73 (.astore 5) 0 := r112 (len := 2) (by decide +kernel) rfl
theorem e112_73 : amT 112 73 75 (.aload 5) 0 := r112 (len := 2) (by decide +kernel) rfl
theorem e112_75 : amT 112 75 78 (.ifnonnull 5) 0 := r112 (len := 3) (by decide +kernel) rfl
theorem t112_75 : amTg 75 5 = some 80 := by decide
theorem e112_78 : amT 112 78 79 (.iconst (-1)) 0 := r112 (len := 1) (by decide +kernel) rfl
theorem e112_79 : amT 112 79 80 (.ireturn) 0 := r112 (len := 1) (by decide +kernel) rfl
theorem e112_80 : amT 112 80 81 (.aload_n 0) 0 := r112 (len := 1) (by decide +kernel) rfl
theorem e112_81 : amT 112 81 84 (.getfield 53) 710 := r112 (len := 3) (by decide +kernel) rfl
theorem e112_84 : amT 112 84 85 (.iload_n 1) 0 := r112 (len := 1) (by decide +kernel) rfl
theorem e112_85 : amT 112 85 87 (.aload 4) 0 := r112 (len := 2) (by decide +kernel) rfl
theorem e112_87 : amT 112 87 89 (.aload 5) 0 := r112 (len := 2) (by decide +kernel) rfl
theorem e112_89 : amT 112 89 90 (.iload_n 3) 0 := r112 (len := 1) (by decide +kernel) rfl
theorem e112_90 : amT 112 90 91 (.aload_n 0) 0 := r112 (len := 1) (by decide +kernel) rfl
theorem e112_91 : amT 112 91 94 (.getfield 28) 707 := r112 (len := 3) (by decide +kernel) rfl
theorem e112_94 : amT 112 94 97 (.invokevirtual 138) 48 := r112 (len := 3) (by decide +kernel) rfl
theorem e112_97 : amT 112 97 100 (.ifCond .ne 6) 0 := r112 (len := 3) (by decide +kernel) rfl
theorem t112_97 : amTg 97 6 = some 103 := by decide
theorem e112_100 : amT 112 100 102 (.bipush (-3)) 0 := r112 (len := 2) (by decide +kernel) rfl
theorem e112_102 : amT 112 102 103 (.ireturn) 0 := r112 (len := 1) (by decide +kernel) rfl
theorem e112_103 : amT 112 103 104 (.aload_n 0) 0 := r112 (len := 1) (by decide +kernel) rfl
theorem e112_104 : amT 112 104 105 (.aload_n 0) 0 := r112 (len := 1) (by decide +kernel) rfl
theorem e112_105 : amT 112 105 108 (.getfield 28) 707 := r112 (len := 3) (by decide +kernel) rfl
theorem e112_108 : amT 112 108 111 (.invokevirtual 119) 142 := r112 (len := 3) (by decide +kernel) rfl
theorem e112_111 : amT 112 111 112 (.ireturn) 0 := r112 (len := 1) (by decide +kernel) rfl
theorem q113 : amCs.getD 113 [] = amC_113 := rfl
theorem r113 {pc pc' len op : Nat} {i : Instr} (h : amC_113.lookup pc = some (i, len, op)) (h2 : pc + len = pc') : amT 113 pc pc' i op := ⟨len, by unfold amEnt; rw [q113]; exact h, h2⟩
theorem e113_0 : amT 113 0 1 (.aload_n 0) 0 := r113 (len := 1) (by decide +kernel) rfl
theorem e113_1 : amT 113 1 4 (.getfield 12) 704 := r113 (len := 3) (by decide +kernel) rfl
theorem e113_4 : amT 113 4 7 (.invokevirtual 142) 53 := r113 (len := 3) (by decide +kernel) rfl
theorem e113_7 : amT 113 7 10 (.ifCond .ne 6) 0 := r113 (len := 3) (by decide +kernel) rfl
theorem t113_7 : amTg 7 6 = some 13 := by decide
theorem e113_10 : amT 113 10 12 (.bipush (-6)) 0 := r113 (len := 2) (by decide +kernel) rfl
theorem e113_12 : amT 113 12 13 (.ireturn) 0 := r113 (len := 1) (by decide +kernel) rfl
theorem e113_13 : amT 113 13 14 (.aload_n 0) 0 := r113 (len := 1) (by decide +kernel) rfl
theorem e113_14 : amT 113 14 17 (.getfield 12) 704 := r113 (len := 3) (by decide +kernel) rfl
theorem e113_17 : amT 113 17 18 (.aload_n 0) 0 := r113 (len := 1) (by decide +kernel) rfl
theorem e113_18 : amT 113 18 21 (.getfield 12) 704 := r113 (len := 3) (by decide +kernel) rfl
theorem e113_21 : amT 113 21 24 (.invokevirtual 142) 53 := r113 (len := 3) (by decide +kernel) rfl
theorem e113_24 : amT 113 24 25 (.iconst 1) 0 := r113 (len := 1) (by decide +kernel) rfl
theorem e113_25 : amT 113 25 26 (.isub) 0 := r113 (len := 1) (by decide +kernel) rfl
theorem e113_26 : amT 113 26 29 (.invokevirtual 146) 57 := r113 (len := 3) (by decide +kernel) rfl
theorem e113_29 : amT 113 29 30 (.aload_n 0) 0 := r113 (len := 1) (by decide +kernel) rfl
theorem e113_30 : amT 113 30 33 (.getfield 12) 704 := r113 (len := 3) (by decide +kernel) rfl
theorem e113_33 : amT 113 33 36 (.invokevirtual 142) 53 := r113 (len := 3) (by decide +kernel) rfl
theorem e113_36 : amT 113 36 37 (.ireturn) 0 := r113 (len := 1) (by decide +kernel) rfl
theorem q114 : amCs.getD 114 [] = amC_114 := rfl
theorem r114 {pc pc' len op : Nat} {i : Instr} (h : amC_114.lookup pc = some (i, len, op)) (h2 : pc + len = pc') : amT 114 pc pc' i op := ⟨len, by unfold amEnt; rw [q114]; exact h, h2⟩
theorem e114_0 : amT 114 0 1 (.aload_n 0) 0 := r114 (len := 1) (by decide +kernel) rfl
theorem e114_1 : amT 114 1 4 (.getfield 12) 704 := r114 (len := 3) (by decide +kernel) rfl
theorem e114_4 : amT 114 4 5 (.iload_n 1) 0 := r114 (len := 1) (by decide +kernel) rfl
theorem e114_5 : amT 114 5 8 (.invokevirtual 123) 55 := r114 (len := 3) (by decide +kernel) rfl
theorem e114_8 : amT 114 8 9 (.astore_n 3) 0 := r114 (len := 1) (by decide +kernel) rfl
theorem e114_9 : amT 114 9 10 (.aload_n 3) 0 := r114 (len := 1) (by decide +kernel) rfl
theorem e114_10 : amT 114 10 13 (.ifnull 12) 0 := r114 (len := 3) (by decide +kernel) rfl
theorem t114_10 : amTg 10 12 = some 22 := by decide
theorem e114_13 : amT 114 13 14 (.iload_n 2) 0 := r114 (len := 1) (by decide +kernel) rfl
theorem e114_14 : amT 114 14 17 (.ifCond .lt 8) 0 := r114 (len := 3) (by decide +kernel) rfl
theorem t114_14 : amTg 14 8 = some 22 := by decide
theorem e114_17 : amT 114 17 18 (.iload_n 2) 0 := r114 (len := 1) (by decide +kernel) rfl
theorem e114_18 : amT 114 18 19 (.iconst 4) 0 := r114 (len := 1) (by decide +kernel) rfl
theorem e114_19 : amT 114 19 22 (.if_icmp .le 7) 0 := r114 (len := 3) (by decide +kernel) rfl
theorem t114_19 : amTg 19 7 = some 26 := by decide
theorem e114_22 : amT 114 22 25 (.ldc2_w 150) 4 := r114 (len := 3) (by decide +kernel) rfl
theorem e114_25 : amT 114 25 26 (.lreturn) 0 := r114 (len := 1) (by decide +kernel) rfl
theorem e114_26 : amT 114 26 27 (.aload_n 3) 0 := r114 (len := 1) (by decide +kernel) rfl
theorem e114_27 : amT 114 27 28 (.iload_n 2) 0 := r114 (len := 1) (by decide +kernel) rfl
theorem e114_28 : amT 114 28 31 (.invokevirtual 152) 3 := r114 (len := 3) (by decide +kernel) rfl
theorem e114_31 : amT 114 31 32 (.lreturn) 0 := r114 (len := 1) (by decide +kernel) rfl
theorem q115 : amCs.getD 115 [] = amC_115 := rfl
theorem r115 {pc pc' len op : Nat} {i : Instr} (h : amC_115.lookup pc = some (i, len, op)) (h2 : pc + len = pc') : amT 115 pc pc' i op := ⟨len, by unfold amEnt; rw [q115]; exact h, h2⟩
theorem e115_0 : amT 115 0 1 (.aload_n 0) 0 := r115 (len := 1) (by decide +kernel) rfl
theorem e115_1 : amT 115 1 4 (.getfield 12) 704 := r115 (len := 3) (by decide +kernel) rfl
theorem e115_4 : amT 115 4 5 (.iload_n 1) 0 := r115 (len := 1) (by decide +kernel) rfl
theorem e115_5 : amT 115 5 8 (.invokevirtual 123) 55 := r115 (len := 3) (by decide +kernel) rfl
theorem e115_8 : amT 115 8 9 (.astore_n 3) 0 := r115 (len := 1) (by decide +kernel) rfl
theorem e115_9 : amT 115 9 10 (.aload_n 3) 0 := r115 (len := 1) (by decide +kernel) rfl
theorem e115_10 : amT 115 10 13 (.ifnonnull 5) 0 := r115 (len := 3) (by decide +kernel) rfl
theorem t115_10 : amTg 10 5 = some 15 := by decide
theorem e115_13 : amT 115 13 14 (.iconst (-1)) 0 := r115 (len := 1) (by decide +kernel) rfl
theorem e115_14 : amT 115 14 15 (.ireturn) 0 := r115 (len := 1) (by decide +kernel) rfl
theorem e115_15 : amT 115 15 16 (.iload_n 2) 0 := r115 (len := 1) (by decide +kernel) rfl
theorem e115_16 : amT 115 16 44 (.tableswitch 47 0 2 #[28, 33, 38]) 0 := r115 (len := 28) (by decide +kernel) rfl
theorem t115_16_47 : amTg 16 47 = some 63 := by decide
theorem t115_16_38 : amTg 16 38 = some 54 := by decide
theorem t115_16_28 : amTg 16 28 = some 44 := by decide
theorem t115_16_33 : amTg 16 33 = some 49 := by decide
theorem e115_44 : amT 115 44 45 (.aload_n 3) 0 := r115 (len := 1) (by decide +kernel) rfl
theorem e115_45 : amT 115 45 48 (.invokevirtual 156) 5 := r115 (len := 3) (by decide +kernel) rfl
theorem e115_48 : amT 115 48 49 (.ireturn) 0 := r115 (len := 1) (by decide +kernel) rfl
theorem e115_49 : amT 115 49 50 (.aload_n 3) 0 := r115 (len := 1) (by decide +kernel) rfl
theorem e115_50 : amT 115 50 53 (.invokevirtual 159) 11 := r115 (len := 3) (by decide +kernel) rfl
theorem e115_53 : amT 115 53 54 (.ireturn) 0 := r115 (len := 1) (by decide +kernel) rfl
theorem e115_54 : amT 115 54 55 (.aload_n 0) 0 := r115 (len := 1) (by decide +kernel) rfl
theorem e115_55 : amT 115 55 58 (.getfield 12) 704 := r115 (len := 3) (by decide +kernel) rfl
theorem e115_58 : amT 115 58 59 (.aload_n 3) 0 := r115 (len := 1) (by decide +kernel) rfl
theorem e115_59 : amT 115 59 62 (.invokevirtual 162) 58 := r115 (len := 3) (by decide +kernel) rfl
theorem e115_62 : amT 115 62 63 (.ireturn) 0 := r115 (len := 1) (by decide +kernel) rfl
theorem e115_63 : amT 115 63 64 (.iconst (-1)) 0 := r115 (len := 1) (by decide +kernel) rfl
theorem e115_64 : amT 115 64 65 (.ireturn) 0 := r115 (len := 1) (by decide +kernel) rfl
theorem q116 : amCs.getD 116 [] = amC_116 := rfl
theorem r116 {pc pc' len op : Nat} {i : Instr} (h : amC_116.lookup pc = some (i, len, op)) (h2 : pc + len = pc') : amT 116 pc pc' i op := ⟨len, by unfold amEnt; rw [q116]; exact h, h2⟩
theorem e116_0 : amT 116 0 1 (.aload_n 0) 0 := r116 (len := 1) (by decide +kernel) rfl
theorem e116_1 : amT 116 1 4 (.getfield 12) 704 := r116 (len := 3) (by decide +kernel) rfl
theorem e116_4 : amT 116 4 5 (.iload_n 1) 0 := r116 (len := 1) (by decide +kernel) rfl
theorem e116_5 : amT 116 5 8 (.invokevirtual 123) 55 := r116 (len := 3) (by decide +kernel) rfl
theorem e116_8 : amT 116 8 10 (.astore 4) 0 := r116 (len := 2) (by decide +kernel) rfl
theorem e116_10 : amT 116 10 12 (.aload 4) 0 := r116 (len := 2) (by decide +kernel) rfl
theorem e116_12 : amT 116 12 15 (.ifnull 11) 0 := r116 (len := 3) (by decide +kernel) rfl
theorem t116_12 : amTg 12 11 = some 23 := by decide
theorem e116_15 : amT 116 15 16 (.iload_n 2) 0 := r116 (len := 1) (by decide +kernel) rfl
theorem e116_16 : amT 116 16 17 (.iload_n 3) 0 := r116 (len := 1) (by decide +kernel) rfl
theorem e116_17 : amT 116 17 20 (.invokestatic 165) 146 := r116 (len := 3) (by decide +kernel) rfl
theorem e116_20 : amT 116 20 23 (.ifCond .eq 7) 0 := r116 (len := 3) (by decide +kernel) rfl
theorem t116_20 : amTg 20 7 = some 27 := by decide
theorem e116_23 : amT 116 23 26 (.ldc2_w 150) 4 := r116 (len := 3) (by decide +kernel) rfl
theorem e116_26 : amT 116 26 27 (.lreturn) 0 := r116 (len := 1) (by decide +kernel) rfl
theorem e116_27 : amT 116 27 29 (.aload 4) 0 := r116 (len := 2) (by decide +kernel) rfl
theorem e116_29 : amT 116 29 30 (.iload_n 2) 0 := r116 (len := 1) (by decide +kernel) rfl
theorem e116_30 : amT 116 30 31 (.i2l) 0 := r116 (len := 1) (by decide +kernel) rfl
theorem e116_31 : amT 116 31 32 (.iload_n 3) 0 := r116 (len := 1) (by decide +kernel) rfl
theorem e116_32 : amT 116 32 33 (.i2l) 0 := r116 (len := 1) (by decide +kernel) rfl
theorem e116_33 : amT 116 33 36 (.invokevirtual 168) 20 := r116 (len := 3) (by decide +kernel) rfl
theorem e116_36 : amT 116 36 37 (.lreturn) 0 := r116 (len := 1) (by decide +kernel) rfl
theorem q117 : amCs.getD 117 [] = amC_117 := rfl
theorem r117 {pc pc' len op : Nat} {i : Instr} (h : amC_117.lookup pc = some (i, len, op)) (h2 : pc + len = pc') : amT 117 pc pc' i op := ⟨len, by unfold amEnt; rw [q117]; exact h, h2⟩
theorem e117_0 : amT 117 0 1 (.aload_n 0) 0 := r117 (len := 1) (by decide +kernel) rfl
theorem e117_1 : amT 117 1 4 (.getfield 12) 704 := r117 (len := 3) (by decide +kernel) rfl
theorem e117_4 : amT 117 4 5 (.iload_n 1) 0 := r117 (len := 1) (by decide +kernel) rfl
theorem e117_5 : amT 117 5 8 (.invokevirtual 123) 55 := r117 (len := 3) (by decide +kernel) rfl
theorem e117_8 : amT 117 8 10 (.astore 4) 0 := r117 (len := 2) (by decide +kernel) rfl
theorem e117_10 : amT 117 10 12 (.aload 4) 0 := r117 (len := 2) (by decide +kernel) rfl
theorem e117_12 : amT 117 12 15 (.ifnull 15) 0 := r117 (len := 3) (by decide +kernel) rfl
theorem t117_12 : amTg 12 15 = some 27 := by decide
theorem e117_15 : amT 117 15 16 (.aload_n 0) 0 := r117 (len := 1) (by decide +kernel) rfl
theorem e117_16 : amT 117 16 19 (.getfield 60) 711 := r117 (len := 3) (by decide +kernel) rfl
theorem e117_19 : amT 117 19 21 (.aload 4) 0 := r117 (len := 2) (by decide +kernel) rfl
theorem e117_21 : amT 117 21 24 (.invokevirtual 172) 29 := r117 (len := 3) (by decide +kernel) rfl
theorem e117_24 : amT 117 24 27 (.ifCond .ne 7) 0 := r117 (len := 3) (by decide +kernel) rfl
theorem t117_24 : amTg 24 7 = some 31 := by decide
theorem e117_27 : amT 117 27 30 (.ldc2_w 150) 4 := r117 (len := 3) (by decide +kernel) rfl
theorem e117_30 : amT 117 30 31 (.lreturn) 0 := r117 (len := 1) (by decide +kernel) rfl
theorem e117_31 : amT 117 31 32 (.iload_n 2) 0 := r117 (len := 1) (by decide +kernel) rfl
theorem e117_32 : amT 117 32 33 (.iconst (-1)) 0 := r117 (len := 1) (by decide +kernel) rfl
theorem e117_33 : amT 117 33 36 (.if_icmp .ne 12) 0 := r117 (len := 3) (by decide +kernel) rfl
theorem t117_33 : amTg 33 12 = some 45 := by decide
theorem e117_36 : amT 117 36 37 (.aload_n 0) 0 := r117 (len := 1) (by decide +kernel) rfl
theorem e117_37 : amT 117 37 40 (.getfield 60) 711 := r117 (len := 3) (by decide +kernel) rfl
theorem e117_40 : amT 117 40 43 (.invokevirtual 176) 32 := r117 (len := 3) (by decide +kernel) rfl
theorem e117_43 : amT 117 43 44 (.i2l) 0 := r117 (len := 1) (by decide +kernel) rfl
theorem e117_44 : amT 117 44 45 (.lreturn) 0 := r117 (len := 1) (by decide +kernel) rfl
theorem e117_45 : amT 117 45 46 (.aload_n 0) 0 := r117 (len := 1) (by decide +kernel) rfl
theorem e117_46 : amT 117 46 49 (.getfield 60) 711 := r117 (len := 3) (by decide +kernel) rfl
theorem e117_49 : amT 117 49 50 (.iload_n 2) 0 := r117 (len := 1) (by decide +kernel) rfl
theorem e117_50 : amT 117 50 53 (.invokevirtual 179) 33 := r117 (len := 3) (by decide +kernel) rfl
theorem e117_53 : amT 117 53 55 (.astore 5) 0 := r117 (len := 2) (by decide +kernel) rfl
theorem e117_55 : amT 117 55 57 (.aload 5) 0 := r117 (len := 2) (by decide +kernel) rfl
theorem e117_57 : amT 117 57 60 (.ifnull 12) 0 := r117 (len := 3) (by decide +kernel) rfl
theorem t117_57 : amTg 57 12 = some 69 := by decide
theorem e117_60 : amT 117 60 61 (.iload_n 3) 0 := r117 (len := 1) (by decide +kernel) rfl
theorem e117_61 : amT 117 61 64 (.ifCond .lt 8) 0 := r117 (len := 3) (by decide +kernel) rfl
theorem t117_61 : amTg 61 8 = some 69 := by decide
theorem e117_64 : amT 117 64 65 (.iload_n 3) 0 := r117 (len := 1) (by decide +kernel) rfl
theorem e117_65 : amT 117 65 66 (.iconst 4) 0 := r117 (len := 1) (by decide +kernel) rfl
theorem e117_66 : amT 117 66 69 (.if_icmp .le 7) 0 := r117 (len := 3) (by decide +kernel) rfl
theorem t117_66 : amTg 66 7 = some 73 := by decide
theorem e117_69 : amT 117 69 72 (.ldc2_w 150) 4 := r117 (len := 3) (by decide +kernel) rfl
theorem e117_72 : amT 117 72 73 (.lreturn) 0 := r117 (len := 1) (by decide +kernel) rfl
theorem e117_73 : amT 117 73 75 (.aload 5) 0 := r117 (len := 2) (by decide +kernel) rfl
theorem e117_75 : amT 117 75 76 (.iload_n 3) 0 := r117 (len := 1) (by decide +kernel) rfl
theorem e117_76 : amT 117 76 79 (.invokevirtual 152) 3 := r117 (len := 3) (by decide +kernel) rfl
theorem e117_79 : amT 117 79 80 (.lreturn) 0 := r117 (len := 1) (by decide +kernel) rfl
theorem q118 : amCs.getD 118 [] = amC_118 := rfl
theorem r118 {pc pc' len op : Nat} {i : Instr} (h : amC_118.lookup pc = some (i, len, op)) (h2 : pc + len = pc') : amT 118 pc pc' i op := ⟨len, by unfold amEnt; rw [q118]; exact h, h2⟩
theorem e118_0 : amT 118 0 1 (.aload_n 0) 0 := r118 (len := 1) (by decide +kernel) rfl
theorem e118_1 : amT 118 1 4 (.getfield 12) 704 := r118 (len := 3) (by decide +kernel) rfl
theorem e118_4 : amT 118 4 5 (.iload_n 1) 0 := r118 (len := 1) (by decide +kernel) rfl
theorem e118_5 : amT 118 5 8 (.invokevirtual 123) 55 := r118 (len := 3) (by decide +kernel) rfl
theorem e118_8 : amT 118 8 10 (.astore 4) 0 := r118 (len := 2) (by decide +kernel) rfl
theorem e118_10 : amT 118 10 12 (.aload 4) 0 := r118 (len := 2) (by decide +kernel) rfl
theorem e118_12 : amT 118 12 15 (.ifnull 11) 0 := r118 (len := 3) (by decide +kernel) rfl
theorem t118_12 : amTg 12 11 = some 23 := by decide
theorem e118_15 : amT 118 15 16 (.iload_n 2) 0 := r118 (len := 1) (by decide +kernel) rfl
theorem e118_16 : amT 118 16 17 (.iload_n 3) 0 := r118 (len := 1) (by decide +kernel) rfl
theorem e118_17 : amT 118 17 20 (.invokestatic 165) 146 := r118 (len := 3) (by decide +kernel) rfl
theorem e118_20 : amT 118 20 23 (.ifCond .eq 5) 0 := r118 (len := 3) (by decide +kernel) rfl
theorem t118_20 : amTg 20 5 = some 25 := by decide
theorem e118_23 : amT 118 23 24 (.iconst (-1)) 0 := r118 (len := 1) (by decide +kernel) rfl
theorem e118_24 : amT 118 24 25 (.ireturn) 0 := r118 (len := 1) (by decide +kernel) rfl
theorem e118_25 : amT 118 25 26 (.aload_n 0) 0 := r118 (len := 1) (by decide +kernel) rfl
theorem e118_26 : amT 118 26 29 (.getfield 60) 711 := r118 (len := 3) (by decide +kernel) rfl
theorem e118_29 : amT 118 29 31 (.aload 4) 0 := r118 (len := 2) (by decide +kernel) rfl
theorem e118_31 : amT 118 31 34 (.invokevirtual 172) 29 := r118 (len := 3) (by decide +kernel) rfl
theorem e118_34 : amT 118 34 37 (.ifCond .eq 15) 0 := r118 (len := 3) (by decide +kernel) rfl
theorem t118_34 : amTg 34 15 = some 49 := by decide
theorem e118_37 : amT 118 37 38 (.aload_n 0) 0 := r118 (len := 1) (by decide +kernel) rfl
theorem e118_38 : amT 118 38 41 (.getfield 60) 711 := r118 (len := 3) (by decide +kernel) rfl
theorem e118_41 : amT 118 41 42 (.iload_n 2) 0 := r118 (len := 1) (by decide +kernel) rfl
theorem e118_42 : amT 118 42 43 (.iload_n 3) 0 := r118 (len := 1) (by decide +kernel) rfl
theorem e118_43 : amT 118 43 46 (.invokevirtual 182) 34 := r118 (len := 3) (by decide +kernel) rfl
theorem e118_46 : amT 118 46 49 (.goto 5) 0 := r118 (len := 3) (by decide +kernel) rfl
theorem t118_46 : amTg 46 5 = some 51 := by decide
theorem e118_49 : amT 118 49 51 (.bipush (-3)) 0 := r118 (len := 2) (by decide +kernel) rfl
theorem e118_51 : amT 118 51 52 (.ireturn) 0 := r118 (len := 1) (by decide +kernel) rfl
theorem q119 : amCs.getD 119 [] = amC_119 := rfl
theorem r119 {pc pc' len op : Nat} {i : Instr} (h : amC_119.lookup pc = some (i, len, op)) (h2 : pc + len = pc') : amT 119 pc pc' i op := ⟨len, by unfold amEnt; rw [q119]; exact h, h2⟩
theorem e119_0 : amT 119 0 1 (.aload_n 0) 0 := r119 (len := 1) (by decide +kernel) rfl
theorem e119_1 : amT 119 1 4 (.getfield 12) 704 := r119 (len := 3) (by decide +kernel) rfl
theorem e119_4 : amT 119 4 5 (.iload_n 1) 0 := r119 (len := 1) (by decide +kernel) rfl
theorem e119_5 : amT 119 5 8 (.invokevirtual 123) 55 := r119 (len := 3) (by decide +kernel) rfl
theorem e119_8 : amT 119 8 9 (.astore_n 2) 0 := r119 (len := 1) (by decide +kernel) rfl
theorem e119_9 : amT 119 9 10 (.aload_n 2) 0 := r119 (len := 1) (by decide +kernel) rfl
theorem e119_10 : amT 119 10 13 (.ifnonnull 5) 0 := r119 (len := 3) (by decide +kernel) rfl
theorem t119_10 : amTg 10 5 = some 15 := by decide
theorem e119_13 : amT 119 13 14 (.iconst (-1)) 0 := r119 (len := 1) (by decide +kernel) rfl
theorem e119_14 : amT 119 14 15 (.ireturn) 0 := r119 (len := 1) (by decide +kernel) rfl
theorem e119_15 : amT 119 15 16 (.aload_n 0) 0 := r119 (len := 1) (by decide +kernel) rfl
theorem e119_16 : amT 119 16 19 (.getfield 60) 711 := r119 (len := 3) (by decide +kernel) rfl
theorem e119_19 : amT 119 19 20 (.aload_n 2) 0 := r119 (len := 1) (by decide +kernel) rfl
theorem e119_20 : amT 119 20 23 (.invokevirtual 172) 29 := r119 (len := 3) (by decide +kernel) rfl
theorem e119_23 : amT 119 23 26 (.ifCond .eq 13) 0 := r119 (len := 3) (by decide +kernel) rfl
theorem t119_23 : amTg 23 13 = some 36 := by decide
theorem e119_26 : amT 119 26 27 (.aload_n 0) 0 := r119 (len := 1) (by decide +kernel) rfl
theorem e119_27 : amT 119 27 30 (.getfield 60) 711 := r119 (len := 3) (by decide +kernel) rfl
theorem e119_30 : amT 119 30 33 (.invokevirtual 186) 39 := r119 (len := 3) (by decide +kernel) rfl
theorem e119_33 : amT 119 33 36 (.goto 5) 0 := r119 (len := 3) (by decide +kernel) rfl
theorem t119_33 : amTg 33 5 = some 38 := by decide
theorem e119_36 : amT 119 36 38 (.bipush (-3)) 0 := r119 (len := 2) (by decide +kernel) rfl
theorem e119_38 : amT 119 38 39 (.ireturn) 0 := r119 (len := 1) (by decide +kernel) rfl
theorem q120 : amCs.getD 120 [] = amC_120 := rfl
theorem r120 {pc pc' len op : Nat} {i : Instr} (h : amC_120.lookup pc = some (i, len, op)) (h2 : pc + len = pc') : amT 120 pc pc' i op := ⟨len, by unfold amEnt; rw [q120]; exact h, h2⟩
theorem e120_0 : amT 120 0 1 (.aload_n 0) 0 := r120 (len := 1) (by decide +kernel) rfl
theorem e120_1 : amT 120 1 4 (.getfield 12) 704 := r120 (len := 3) (by decide +kernel) rfl
theorem e120_4 : amT 120 4 5 (.iload_n 1) 0 := r120 (len := 1) (by decide +kernel) rfl
theorem e120_5 : amT 120 5 8 (.invokevirtual 123) 55 := r120 (len := 3) (by decide +kernel) rfl
theorem e120_8 : amT 120 8 10 (.astore 6) 0 := r120 (len := 2) (by decide +kernel) rfl
theorem e120_10 : amT 120 10 12 (.aload 6) 0 := r120 (len := 2) (by decide +kernel) rfl
theorem e120_12 : amT 120 12 15 (.ifnull 32) 0 := r120 (len := 3) (by decide +kernel) rfl
theorem t120_12 : amTg 12 32 = some 44 := by decide
theorem e120_15 : amT 120 15 16 (.iload_n 2) 0 := r120 (len := 1) (by decide +kernel) rfl
theorem e120_16 : amT 120 16 17 (.iload_n 3) 0 := r120 (len := 1) (by decide +kernel) rfl
theorem e120_17 : amT 120 17 20 (.invokestatic 165) 146 := r120 (len := 3) (by decide +kernel) rfl
theorem e120_20 : amT 120 20 23 (.ifCond .ne 24) 0 := r120 (len := 3) (by decide +kernel) rfl
theorem t120_20 : amTg 20 24 = some 44 := by decide
theorem e120_23 : amT 120 23 25 (.iload 4) 0 := r120 (len := 2) (by decide +kernel) rfl
theorem e120_25 : amT 120 25 27 (.iload 5) 0 := r120 (len := 2) (by decide +kernel) rfl
theorem e120_27 : amT 120 27 30 (.invokestatic 165) 146 := r120 (len := 3) (by decide +kernel) rfl
theorem e120_30 : amT 120 30 33 (.ifCond .ne 14) 0 := r120 (len := 3) (by decide +kernel) rfl
theorem t120_30 : amTg 30 14 = some 44 := by decide
theorem e120_33 : amT 120 33 34 (.iload_n 2) 0 := r120 (len := 1) (by decide +kernel) rfl
theorem e120_34 : amT 120 34 36 (.iload 5) 0 := r120 (len := 2) (by decide +kernel) rfl
theorem e120_36 : amT 120 36 37 (.imul) 0 := r120 (len := 1) (by decide +kernel) rfl
theorem e120_37 : amT 120 37 39 (.iload 4) 0 := r120 (len := 2) (by decide +kernel) rfl
theorem e120_39 : amT 120 39 40 (.iload_n 3) 0 := r120 (len := 1) (by decide +kernel) rfl
theorem e120_40 : amT 120 40 41 (.imul) 0 := r120 (len := 1) (by decide +kernel) rfl
theorem e120_41 : amT 120 41 44 (.if_icmp .lt 5) 0 := r120 (len := 3) (by decide +kernel) rfl
theorem t120_41 : amTg 41 5 = some 46 := by decide
theorem e120_44 : amT 120 44 45 (.iconst (-1)) 0 := r120 (len := 1) (by decide +kernel) rfl
theorem e120_45 : amT 120 45 46 (.ireturn) 0 := r120 (len := 1) (by decide +kernel) rfl
theorem e120_46 : amT 120 46 47 (.aload_n 0) 0 := r120 (len := 1) (by decide +kernel) rfl
theorem e120_47 : amT 120 47 50 (.getfield 60) 711 := r120 (len := 3) (by decide +kernel) rfl
theorem e120_50 : amT 120 50 52 (.aload 6) 0 := r120 (len := 2) (by decide +kernel) rfl
theorem e120_52 : amT 120 52 55 (.invokevirtual 172) 29 := r120 (len := 3) (by decide +kernel) rfl
theorem e120_55 : amT 120 55 58 (.ifCond .eq 27) 0 := r120 (len := 3) (by decide +kernel) rfl
theorem t120_55 : amTg 55 27 = some 82 := by decide
theorem e120_58 : amT 120 58 59 (.aload_n 0) 0 := r120 (len := 1) (by decide +kernel) rfl
theorem e120_59 : amT 120 59 62 (.getfield 60) 711 := r120 (len := 3) (by decide +kernel) rfl
theorem e120_62 : amT 120 62 63 (.iload_n 2) 0 := r120 (len := 1) (by decide +kernel) rfl
theorem e120_63 : amT 120 63 64 (.iload_n 3) 0 := r120 (len := 1) (by decide +kernel) rfl
theorem e120_64 : amT 120 64 67 (.invokevirtual 182) 34 := r120 (len := 3) (by decide +kernel) rfl
theorem e120_67 : amT 120 67 68 (.aload_n 0) 0 := r120 (len := 1) (by decide +kernel) rfl
theorem e120_68 : amT 120 68 71 (.getfield 60) 711 := r120 (len := 3) (by decide +kernel) rfl
theorem e120_71 : amT 120 71 73 (.iload 4) 0 := r120 (len := 2) (by decide +kernel) rfl
theorem e120_73 : amT 120 73 75 (.iload 5) 0 := r120 (len := 2) (by decide +kernel) rfl
theorem e120_75 : amT 120 75 78 (.invokevirtual 182) 34 := r120 (len := 3) (by decide +kernel) rfl
theorem e120_78 : amT 120 78 79 (.isub) 0 := r120 (len := 1) (by decide +kernel) rfl
theorem e120_79 : amT 120 79 82 (.goto 5) 0 := r120 (len := 3) (by decide +kernel) rfl
theorem t120_79 : amTg 79 5 = some 84 := by decide
theorem e120_82 : amT 120 82 84 (.bipush (-3)) 0 := r120 (len := 2) (by decide +kernel) rfl
theorem e120_84 : amT 120 84 85 (.ireturn) 0 := r120 (len := 1) (by decide +kernel) rfl
theorem q121 : amCs.getD 121 [] = amC_121 := rfl
theorem r121 {pc pc' len op : Nat} {i : Instr} (h : amC_121.lookup pc = some (i, len, op)) (h2 : pc + len = pc') : amT 121 pc pc' i op := ⟨len, by unfold amEnt; rw [q121]; exact h, h2⟩
theorem e121_0 : amT 121 0 1 (.aload_n 0) 0 := r121 (len := 1) (by decide +kernel) rfl
theorem e121_1 : amT 121 1 4 (.getfield 12) 704 := r121 (len := 3) (by decide +kernel) rfl
theorem e121_4 : amT 121 4 5 (.iload_n 1) 0 := r121 (len := 1) (by decide +kernel) rfl
theorem e121_5 : amT 121 5 8 (.invokevirtual 123) 55 := r121 (len := 3) (by decide +kernel) rfl
theorem e121_8 : amT 121 8 9 (.astore_n 2) 0 := r121 (len := 1) (by decide +kernel) rfl
theorem e121_9 : amT 121 9 10 (.aload_n 2) 0 := r121 (len := 1) (by decide +kernel) rfl
theorem e121_10 : amT 121 10 13 (.ifnonnull 5) 0 := r121 (len := 3) (by decide +kernel) rfl
theorem t121_10 : amTg 10 5 = some 15 := by decide
theorem e121_13 : amT 121 13 14 (.iconst (-1)) 0 := r121 (len := 1) (by decide +kernel) rfl
theorem e121_14 : amT 121 14 15 (.ireturn) 0 := r121 (len := 1) (by decide +kernel) rfl
theorem e121_15 : amT 121 15 16 (.aload_n 0) 0 := r121 (len := 1) (by decide +kernel) rfl
theorem e121_16 : amT 121 16 19 (.getfield 60) 711 := r121 (len := 3) (by decide +kernel) rfl
theorem e121_19 : amT 121 19 20 (.aload_n 2) 0 := r121 (len := 1) (by decide +kernel) rfl
theorem e121_20 : amT 121 20 23 (.invokevirtual 172) 29 := r121 (len := 3) (by decide +kernel) rfl
theorem e121_23 : amT 121 23 26 (.ifCond .eq 13) 0 := r121 (len := 3) (by decide +kernel) rfl
theorem t121_23 : amTg 23 13 = some 36 := by decide
theorem e121_26 : amT 121 26 27 (.aload_n 0) 0 := r121 (len := 1) (by decide +kernel) rfl
theorem e121_27 : amT 121 27 30 (.getfield 60) 711 := r121 (len := 3) (by decide +kernel) rfl
theorem e121_30 : amT 121 30 33 (.invokevirtual 189) 42 := r121 (len := 3) (by decide +kernel) rfl
theorem e121_33 : amT 121 33 36 (.goto 4) 0 := r121 (len := 3) (by decide +kernel) rfl
theorem t121_33 : amTg 33 4 = some 37 := by decide
theorem e121_36 : amT 121 36 37 (.iconst 0) 0 := r121 (len := 1) (by decide +kernel) rfl
theorem e121_37 : amT 121 37 38 (.istore_n 3) 0 := r121 (len := 1) (by decide +kernel) rfl
theorem e121_38 : amT 121 38 39 (.iload_n 3) 0 := r121 (len := 1) (by decide +kernel) rfl
theorem e121_39 : amT 121 39 42 (.ifCond .le 7) 0 := r121 (len := 3) (by decide +kernel) rfl
theorem t121_39 : amTg 39 7 = some 46 := by decide
theorem e121_42 : amT 121 42 43 (.iload_n 3) 0 := r121 (len := 1) (by decide +kernel) rfl
theorem e121_43 : amT 121 43 46 (.goto 5) 0 := r121 (len := 3) (by decide +kernel) rfl
theorem t121_43 : amTg 43 5 = some 48 := by decide
theorem e121_46 : amT 121 46 48 (.bipush (-3)) 0 := r121 (len := 2) (by decide +kernel) rfl
theorem e121_48 : amT 121 48 49 (.ireturn) 0 := r121 (len := 1) (by decide +kernel) rfl
theorem q122 : amCs.getD 122 [] = amC_122 := rfl
theorem r122 {pc pc' len op : Nat} {i : Instr} (h : amC_122.lookup pc = some (i, len, op)) (h2 : pc + len = pc') : amT 122 pc pc' i op := ⟨len, by unfold amEnt; rw [q122]; exact h, h2⟩
theorem e122_0 : amT 122 0 1 (.aload_n 0) 0 := r122 (len := 1) (by decide +kernel) rfl
theorem e122_1 : amT 122 1 4 (.getfield 12) 704 := r122 (len := 3) (by decide +kernel) rfl
theorem e122_4 : amT 122 4 5 (.iload_n 1) 0 := r122 (len := 1) (by decide +kernel) rfl
theorem e122_5 : amT 122 5 8 (.invokevirtual 123) 55 := r122 (len := 3) (by decide +kernel) rfl
theorem e122_8 : amT 122 8 10 (.astore 5) 0 := r122 (len := 2) (by decide +kernel) rfl
theorem e122_10 : amT 122 10 12 (.aload 5) 0 := r122 (len := 2) (by decide +kernel) rfl
theorem e122_12 : amT 122 12 15 (.ifnull 25) 0 := r122 (len := 3) (by decide +kernel) rfl
theorem t122_12 : amTg 12 25 = some 37 := by decide
theorem e122_15 : amT 122 15 16 (.iload_n 3) 0 := r122 (len := 1) (by decide +kernel) rfl
theorem e122_16 : amT 122 16 19 (.ifCond .lt 21) 0 := r122 (len := 3) (by decide +kernel) rfl
theorem t122_16 : amTg 16 21 = some 37 := by decide
theorem e122_19 : amT 122 19 20 (.iload_n 3) 0 := r122 (len := 1) (by decide +kernel) rfl
theorem e122_20 : amT 122 20 22 (.bipush 9) 0 := r122 (len := 2) (by decide +kernel) rfl
theorem e122_22 : amT 122 22 25 (.if_icmp .gt 15) 0 := r122 (len := 3) (by decide +kernel) rfl
theorem t122_22 : amTg 22 15 = some 37 := by decide
theorem e122_25 : amT 122 25 26 (.aload_n 0) 0 := r122 (len := 1) (by decide +kernel) rfl
theorem e122_26 : amT 122 26 29 (.getfield 60) 711 := r122 (len := 3) (by decide +kernel) rfl
theorem e122_29 : amT 122 29 31 (.aload 5) 0 := r122 (len := 2) (by decide +kernel) rfl
theorem e122_31 : amT 122 31 34 (.invokevirtual 172) 29 := r122 (len := 3) (by decide +kernel) rfl
theorem e122_34 : amT 122 34 37 (.ifCond .ne 7) 0 := r122 (len := 3) (by decide +kernel) rfl
theorem t122_34 : amTg 34 7 = some 41 := by decide
theorem e122_37 : amT 122 37 40 (.ldc2_w 150) 4 := r122 (len := 3) (by decide +kernel) rfl
theorem e122_40 : amT 122 40 41 (.lreturn) 0 := r122 (len := 1) (by decide +kernel) rfl
theorem e122_41 : amT 122 41 42 (.aload_n 0) 0 := r122 (len := 1) (by decide +kernel) rfl
theorem e122_42 : amT 122 42 45 (.getfield 60) 711 := r122 (len := 3) (by decide +kernel) rfl
theorem e122_45 : amT 122 45 46 (.iload_n 2) 0 := r122 (len := 1) (by decide +kernel) rfl
theorem e122_46 : amT 122 46 49 (.invokevirtual 192) 40 := r122 (len := 3) (by decide +kernel) rfl
theorem e122_49 : amT 122 49 52 (.ifCond .eq 19) 0 := r122 (len := 3) (by decide +kernel) rfl
theorem t122_49 : amTg 49 19 = some 68 := by decide
theorem e122_52 : amT 122 52 53 (.aload_n 0) 0 := r122 (len := 1) (by decide +kernel) rfl
theorem e122_53 : amT 122 53 56 (.getfield 73) 714 := r122 (len := 3) (by decide +kernel) rfl
theorem e122_56 : amT 122 56 57 (.aload_n 0) 0 := r122 (len := 1) (by decide +kernel) rfl
theorem e122_57 : amT 122 57 60 (.getfield 60) 711 := r122 (len := 3) (by decide +kernel) rfl
theorem e122_60 : amT 122 60 61 (.iload_n 2) 0 := r122 (len := 1) (by decide +kernel) rfl
theorem e122_61 : amT 122 61 62 (.iload_n 3) 0 := r122 (len := 1) (by decide +kernel) rfl
theorem e122_62 : amT 122 62 65 (.invokevirtual 195) 61 := r122 (len := 3) (by decide +kernel) rfl
theorem e122_65 : amT 122 65 68 (.ifCond .ne 7) 0 := r122 (len := 3) (by decide +kernel) rfl
theorem t122_65 : amTg 65 7 = some 72 := by decide
theorem e122_68 : amT 122 68 71 (.ldc2_w 150) 4 := r122 (len := 3) (by decide +kernel) rfl
theorem e122_71 : amT 122 71 72 (.lreturn) 0 := r122 (len := 1) (by decide +kernel) rfl
theorem e122_72 : amT 122 72 74 (.iload 4) 0 := r122 (len := 2) (by decide +kernel) rfl
theorem e122_74 : amT 122 74 104 (.tableswitch 66 0 3 #[30, 39, 48, 57]) 0 := r122 (len := 30) (by decide +kernel) rfl
theorem t122_74_30 : amTg 74 30 = some 104 := by decide
theorem t122_74_48 : amTg 74 48 = some 122 := by decide
theorem t122_74_66 : amTg 74 66 = some 140 := by decide
theorem t122_74_39 : amTg 74 39 = some 113 := by decide
theorem t122_74_57 : amTg 74 57 = some 131 := by decide
theorem e122_104 : amT 122 104 105 (.aload_n 0) 0 := r122 (len := 1) (by decide +kernel) rfl
theorem e122_105 : amT 122 105 108 (.getfield 73) 714 := r122 (len := 3) (by decide +kernel) rfl
theorem e122_108 : amT 122 108 111 (.invokevirtual 199) 64 := r122 (len := 3) (by decide +kernel) rfl
theorem e122_111 : amT 122 111 112 (.i2l) 0 := r122 (len := 1) (by decide +kernel) rfl
theorem e122_112 : amT 122 112 113 (.lreturn) 0 := r122 (len := 1) (by decide +kernel) rfl
theorem e122_113 : amT 122 113 114 (.aload_n 0) 0 := r122 (len := 1) (by decide +kernel) rfl
theorem e122_114 : amT 122 114 117 (.getfield 73) 714 := r122 (len := 3) (by decide +kernel) rfl
theorem e122_117 : amT 122 117 120 (.invokevirtual 202) 65 := r122 (len := 3) (by decide +kernel) rfl
theorem e122_120 : amT 122 120 121 (.i2l) 0 := r122 (len := 1) (by decide +kernel) rfl
theorem e122_121 : amT 122 121 122 (.lreturn) 0 := r122 (len := 1) (by decide +kernel) rfl
theorem e122_122 : amT 122 122 123 (.aload_n 0) 0 := r122 (len := 1) (by decide +kernel) rfl
theorem e122_123 : amT 122 123 126 (.getfield 73) 714 := r122 (len := 3) (by decide +kernel) rfl
theorem e122_126 : amT 122 126 129 (.invokevirtual 205) 66 := r122 (len := 3) (by decide +kernel) rfl
theorem e122_129 : amT 122 129 130 (.i2l) 0 := r122 (len := 1) (by decide +kernel) rfl
theorem e122_130 : amT 122 130 131 (.lreturn) 0 := r122 (len := 1) (by decide +kernel) rfl
theorem e122_131 : amT 122 131 132 (.aload_n 0) 0 := r122 (len := 1) (by decide +kernel) rfl
theorem e122_132 : amT 122 132 135 (.getfield 73) 714 := r122 (len := 3) (by decide +kernel) rfl
theorem e122_135 : amT 122 135 138 (.invokevirtual 208) 67 := r122 (len := 3) (by decide +kernel) rfl
theorem e122_138 : amT 122 138 139 (.i2l) 0 := r122 (len := 1) (by decide +kernel) rfl
theorem e122_139 : amT 122 139 140 (.lreturn) 0 := r122 (len := 1) (by decide +kernel) rfl
theorem e122_140 : amT 122 140 143 (.ldc2_w 150) 4 := r122 (len := 3) (by decide +kernel) rfl
theorem e122_143 : amT 122 143 144 (.lreturn) 0 := r122 (len := 1) (by decide +kernel) rfl
theorem q123 : amCs.getD 123 [] = amC_123 := rfl
theorem r123 {pc pc' len op : Nat} {i : Instr} (h : amC_123.lookup pc = some (i, len, op)) (h2 : pc + len = pc') : amT 123 pc pc' i op := ⟨len, by unfold amEnt; rw [q123]; exact h, h2⟩
theorem e123_0 : amT 123 0 1 (.aload_n 0) 0 := r123 (len := 1) (by decide +kernel) rfl
theorem e123_1 : amT 123 1 4 (.getfield 12) 704 := r123 (len := 3) (by decide +kernel) rfl
theorem e123_4 : amT 123 4 5 (.iload_n 1) 0 := r123 (len := 1) (by decide +kernel) rfl
theorem e123_5 : amT 123 5 8 (.invokevirtual 123) 55 := r123 (len := 3) (by decide +kernel) rfl
theorem e123_8 : amT 123 8 9 (.astore_n 3) 0 := r123 (len := 1) (by decide +kernel) rfl
theorem e123_9 : amT 123 9 10 (.aload_n 3) 0 := r123 (len := 1) (by decide +kernel) rfl
theorem e123_10 : amT 123 10 13 (.ifnonnull 5) 0 := r123 (len := 3) (by decide +kernel) rfl
theorem t123_10 : amTg 10 5 = some 15 := by decide
theorem e123_13 : amT 123 13 14 (.iconst (-1)) 0 := r123 (len := 1) (by decide +kernel) rfl
theorem e123_14 : amT 123 14 15 (.ireturn) 0 := r123 (len := 1) (by decide +kernel) rfl
theorem e123_15 : amT 123 15 16 (.aload_n 0) 0 := r123 (len := 1) (by decide +kernel) rfl
theorem e123_16 : amT 123 16 19 (.getfield 60) 711 := r123 (len := 3) (by decide +kernel) rfl
theorem e123_19 : amT 123 19 20 (.aload_n 3) 0 := r123 (len := 1) (by decide +kernel) rfl
theorem e123_20 : amT 123 20 23 (.invokevirtual 172) 29 := r123 (len := 3) (by decide +kernel) rfl
theorem e123_23 : amT 123 23 26 (.ifCond .ne 6) 0 := r123 (len := 3) (by decide +kernel) rfl
theorem t123_23 : amTg 23 6 = some 29 := by decide
theorem e123_26 : amT 123 26 28 (.bipush (-3)) 0 := r123 (len := 2) (by decide +kernel) rfl
theorem e123_28 : amT 123 28 29 (.ireturn) 0 := r123 (len := 1) (by decide +kernel) rfl
theorem e123_29 : amT 123 29 30 (.aload_n 0) 0 := r123 (len := 1) (by decide +kernel) rfl
theorem e123_30 : amT 123 30 33 (.getfield 60) 711 := r123 (len := 3) (by decide +kernel) rfl
theorem e123_33 : amT 123 33 34 (.iload_n 2) 0 := r123 (len := 1) (by decide +kernel) rfl
theorem e123_34 : amT 123 34 37 (.invokevirtual 192) 40 := r123 (len := 3) (by decide +kernel) rfl
theorem e123_37 : amT 123 37 40 (.ifCond .ne 5) 0 := r123 (len := 3) (by decide +kernel) rfl
theorem t123_37 : amTg 37 5 = some 42 := by decide
theorem e123_40 : amT 123 40 41 (.iconst (-1)) 0 := r123 (len := 1) (by decide +kernel) rfl
theorem e123_41 : amT 123 41 42 (.ireturn) 0 := r123 (len := 1) (by decide +kernel) rfl
theorem e123_42 : amT 123 42 43 (.aload_n 0) 0 := r123 (len := 1) (by decide +kernel) rfl
theorem e123_43 : amT 123 43 46 (.getfield 73) 714 := r123 (len := 3) (by decide +kernel) rfl
theorem e123_46 : amT 123 46 47 (.aload_n 0) 0 := r123 (len := 1) (by decide +kernel) rfl
theorem e123_47 : amT 123 47 50 (.getfield 60) 711 := r123 (len := 3) (by decide +kernel) rfl
theorem e123_50 : amT 123 50 51 (.iload_n 2) 0 := r123 (len := 1) (by decide +kernel) rfl
theorem e123_51 : amT 123 51 52 (.iconst 0) 0 := r123 (len := 1) (by decide +kernel) rfl
theorem e123_52 : amT 123 52 55 (.invokevirtual 195) 61 := r123 (len := 3) (by decide +kernel) rfl
theorem e123_55 : amT 123 55 58 (.ifCond .eq 14) 0 := r123 (len := 3) (by decide +kernel) rfl
theorem t123_55 : amTg 55 14 = some 69 := by decide
theorem e123_58 : amT 123 58 59 (.aload_n 0) 0 := r123 (len := 1) (by decide +kernel) rfl
theorem e123_59 : amT 123 59 62 (.getfield 44) 709 := r123 (len := 3) (by decide +kernel) rfl
theorem e123_62 : amT 123 62 63 (.aload_n 3) 0 := r123 (len := 1) (by decide +kernel) rfl
theorem e123_63 : amT 123 63 66 (.invokevirtual 211) 44 := r123 (len := 3) (by decide +kernel) rfl
theorem e123_66 : amT 123 66 69 (.ifCond .ne 6) 0 := r123 (len := 3) (by decide +kernel) rfl
theorem t123_66 : amTg 66 6 = some 72 := by decide
theorem e123_69 : amT 123 69 71 (.bipush (-3)) 0 := r123 (len := 2) (by decide +kernel) rfl
theorem e123_71 : amT 123 71 72 (.ireturn) 0 := r123 (len := 1) (by decide +kernel) rfl
theorem e123_72 : amT 123 72 73 (.iconst 1) 0 := r123 (len := 1) (by decide +kernel) rfl
theorem e123_73 : amT 123 73 75 (.istore 4) 0 := r123 (len := 2) (by decide +kernel) rfl
theorem e123_75 : amT 123 75 76 (.iconst 1) 0 := r123 (len := 1) (by decide +kernel) rfl
theorem e123_76 : amT 123 76 78 (.istore 5) 0 := r123 (len := 2) (by decide +kernel) rfl
theorem e123_78 : amT 123 78 80 (.iload 5) 0 := r123 (len := 2) (by decide +kernel) rfl
theorem e123_80 : amT 123 80 82 (.bipush 6) 0 := r123 (len := 2) (by decide +kernel) rfl
theorem e123_82 : amT 123 82 85 (.if_icmp .ge 48) 0 := r123 (len := 3) (by decide +kernel) rfl
theorem t123_82 : amTg 82 48 = some 130 := by decide
theorem e123_85 : amT 123 85 86 (.aload_n 0) 0 := r123 (len := 1) (by decide +kernel) rfl
theorem e123_86 : amT 123 86 89 (.getfield 64) 712 := r123 (len := 3) (by decide +kernel) rfl
theorem e123_89 : amT 123 89 90 (.aload_n 0) 0 := r123 (len := 1) (by decide +kernel) rfl
theorem e123_90 : amT 123 90 93 (.getfield 44) 709 := r123 (len := 3) (by decide +kernel) rfl
theorem e123_93 : amT 123 93 95 (.iload 5) 0 := r123 (len := 2) (by decide +kernel) rfl
theorem e123_95 : amT 123 95 98 (.invokevirtual 214) 45 := r123 (len := 3) (by decide +kernel) rfl
theorem e123_98 : amT 123 98 101 (.invokevirtual 172) 29 := r123 (len := 3) (by decide +kernel) rfl
theorem e123_101 : amT 123 101 104 (.ifCond .ne 6) 0 := r123 (len := 3) (by decide +kernel) rfl
theorem t123_101 : amTg 101 6 = some 107 := by decide
theorem e123_104 : amT 123 104 106 (.bipush (-3)) 0 := r123 (len := 2) (by decide +kernel) rfl
theorem e123_106 : amT 123 106 107 (.ireturn) 0 := r123 (len := 1) (by decide +kernel) rfl
theorem e123_107 : amT 123 107 108 (.aload_n 0) 0 := r123 (len := 1) (by decide +kernel) rfl
theorem e123_108 : amT 123 108 111 (.getfield 73) 714 := r123 (len := 3) (by decide +kernel) rfl
theorem e123_111 : amT 123 111 112 (.aload_n 0) 0 := r123 (len := 1) (by decide +kernel) rfl
theorem e123_112 : amT 123 112 115 (.getfield 64) 712 := r123 (len := 3) (by decide +kernel) rfl
theorem e123_115 : amT 123 115 118 (.invokevirtual 217) 68 := r123 (len := 3) (by decide +kernel) rfl
theorem e123_118 : amT 123 118 121 (.ifCond .le 6) 0 := r123 (len := 3) (by decide +kernel) rfl
theorem t123_118 : amTg 118 6 = some 124 := by decide
theorem e123_121 : amT 123 121 124 (.iinc 4 1) 0 := r123 (len := 3) (by decide +kernel) rfl
theorem e123_124 : amT 123 124 127 (.iinc 5 1) 0 := r123 (len := 3) (by decide +kernel) rfl
theorem e123_127 : amT 123 127 130 (.goto (-49)) 0 := r123 (len := 3) (by decide +kernel) rfl
theorem t123_127 : amTg 127 (-49) = some 78 := by decide
theorem e123_130 : amT 123 130 132 (.iload 4) 0 := r123 (len := 2) (by decide +kernel) rfl
theorem e123_132 : amT 123 132 133 (.ireturn) 0 := r123 (len := 1) (by decide +kernel) rfl
theorem q124 : amCs.getD 124 [] = amC_124 := rfl
theorem r124 {pc pc' len op : Nat} {i : Instr} (h : amC_124.lookup pc = some (i, len, op)) (h2 : pc + len = pc') : amT 124 pc pc' i op := ⟨len, by unfold amEnt; rw [q124]; exact h, h2⟩
theorem e124_0 : amT 124 0 1 (.aload_n 0) 0 := r124 (len := 1) (by decide +kernel) rfl
theorem e124_1 : amT 124 1 4 (.getfield 12) 704 := r124 (len := 3) (by decide +kernel) rfl
theorem e124_4 : amT 124 4 5 (.iload_n 1) 0 := r124 (len := 1) (by decide +kernel) rfl
theorem e124_5 : amT 124 5 8 (.invokevirtual 123) 55 := r124 (len := 3) (by decide +kernel) rfl
theorem e124_8 : amT 124 8 9 (.astore_n 3) 0 := r124 (len := 1) (by decide +kernel) rfl
theorem e124_9 : amT 124 9 10 (.aload_n 0) 0 := r124 (len := 1) (by decide +kernel) rfl
theorem e124_10 : amT 124 10 13 (.getfield 12) 704 := r124 (len := 3) (by decide +kernel) rfl
theorem e124_13 : amT 124 13 14 (.iload_n 2) 0 := r124 (len := 1) (by decide +kernel) rfl
theorem e124_14 : amT 124 14 17 (.invokevirtual 123) 55 := r124 (len := 3) (by decide +kernel) rfl
theorem e124_17 : amT 124 17 19 (.astore 4) 0 := r124 (len := 2) (by decide +kernel) rfl
theorem e124_19 : amT 124 19 20 (.aload_n 3) 0 := r124 (len := 1) (by decide +kernel) rfl
theorem e124_20 : amT 124 20 23 (.ifnull 8) 0 := r124 (len := 3) (by decide +kernel) rfl
theorem t124_20 : amTg 20 8 = some 28 := by decide
theorem e124_23 : amT 124 23 25 (.aload 4) 0 := r124 (len := 2) (by decide +kernel) rfl
theorem e124_25 : amT 124 25 28 (.ifnonnull 5) 0 := r124 (len := 3) (by decide +kernel) rfl
theorem t124_25 : amTg 25 5 = some 30 := by decide
theorem e124_28 : amT 124 28 29 (.iconst (-1)) 0 := r124 (len := 1) (by decide +kernel) rfl
theorem e124_29 : amT 124 29 30 (.ireturn) 0 := r124 (len := 1) (by decide +kernel) rfl
theorem e124_30 : amT 124 30 31 (.aload_n 0) 0 := r124 (len := 1) (by decide +kernel) rfl
theorem e124_31 : amT 124 31 34 (.getfield 35) 708 := r124 (len := 3) (by decide +kernel) rfl
theorem e124_34 : amT 124 34 35 (.aload_n 3) 0 := r124 (len := 1) (by decide +kernel) rfl
theorem e124_35 : amT 124 35 37 (.aload 4) 0 := r124 (len := 2) (by decide +kernel) rfl
theorem e124_37 : amT 124 37 40 (.invokevirtual 221) 26 := r124 (len := 3) (by decide +kernel) rfl
theorem e124_40 : amT 124 40 43 (.ifCond .eq 20) 0 := r124 (len := 3) (by decide +kernel) rfl
theorem t124_40 : amTg 40 20 = some 60 := by decide
theorem e124_43 : amT 124 43 44 (.aload_n 0) 0 := r124 (len := 1) (by decide +kernel) rfl
theorem e124_44 : amT 124 44 47 (.getfield 60) 711 := r124 (len := 3) (by decide +kernel) rfl
theorem e124_47 : amT 124 47 48 (.aload_n 0) 0 := r124 (len := 1) (by decide +kernel) rfl
theorem e124_48 : amT 124 48 51 (.getfield 35) 708 := r124 (len := 3) (by decide +kernel) rfl
theorem e124_51 : amT 124 51 54 (.invokevirtual 224) 25 := r124 (len := 3) (by decide +kernel) rfl
theorem e124_54 : amT 124 54 57 (.invokevirtual 172) 29 := r124 (len := 3) (by decide +kernel) rfl
theorem e124_57 : amT 124 57 60 (.ifCond .ne 6) 0 := r124 (len := 3) (by decide +kernel) rfl
theorem t124_57 : amTg 57 6 = some 63 := by decide
theorem e124_60 : amT 124 60 62 (.bipush (-3)) 0 := r124 (len := 2) (by decide +kernel) rfl
theorem e124_62 : amT 124 62 63 (.ireturn) 0 := r124 (len := 1) (by decide +kernel) rfl
theorem e124_63 : amT 124 63 64 (.aload_n 0) 0 := r124 (len := 1) (by decide +kernel) rfl
theorem e124_64 : amT 124 64 67 (.getfield 60) 711 := r124 (len := 3) (by decide +kernel) rfl
theorem e124_67 : amT 124 67 70 (.invokevirtual 186) 39 := r124 (len := 3) (by decide +kernel) rfl
theorem e124_70 : amT 124 70 71 (.ireturn) 0 := r124 (len := 1) (by decide +kernel) rfl
theorem q125 : amCs.getD 125 [] = amC_125 := rfl
theorem r125 {pc pc' len op : Nat} {i : Instr} (h : amC_125.lookup pc = some (i, len, op)) (h2 : pc + len = pc') : amT 125 pc pc' i op := ⟨len, by unfold amEnt; rw [q125]; exact h, h2⟩
theorem e125_0 : amT 125 0 1 (.aload_n 0) 0 := r125 (len := 1) (by decide +kernel) rfl
theorem e125_1 : amT 125 1 4 (.getfield 12) 704 := r125 (len := 3) (by decide +kernel) rfl
theorem e125_4 : amT 125 4 5 (.iload_n 1) 0 := r125 (len := 1) (by decide +kernel) rfl
theorem e125_5 : amT 125 5 8 (.invokevirtual 123) 55 := r125 (len := 3) (by decide +kernel) rfl
theorem e125_8 : amT 125 8 10 (.astore 4) 0 := r125 (len := 2) (by decide +kernel) rfl
theorem e125_10 : amT 125 10 11 (.aload_n 0) 0 := r125 (len := 1) (by decide +kernel) rfl
theorem e125_11 : amT 125 11 14 (.getfield 12) 704 := r125 (len := 3) (by decide +kernel) rfl
theorem e125_14 : amT 125 14 15 (.iload_n 3) 0 := r125 (len := 1) (by decide +kernel) rfl
theorem e125_15 : amT 125 15 18 (.invokevirtual 123) 55 := r125 (len := 3) (by decide +kernel) rfl
theorem e125_18 : amT 125 18 20 (.astore 5) 0 := r125 (len := 2) (by decide +kernel) rfl
theorem e125_20 : amT 125 20 22 (.aload 4) 0 := r125 (len := 2) (by decide +kernel) rfl
theorem e125_22 : amT 125 22 25 (.ifnull 20) 0 := r125 (len := 3) (by decide +kernel) rfl
theorem t125_22 : amTg 22 20 = some 42 := by decide
theorem e125_25 : amT 125 25 27 (.aload 5) 0 := r125 (len := 2) (by decide +kernel) rfl
theorem e125_27 : amT 125 27 30 (.ifnull 15) 0 := r125 (len := 3) (by decide +kernel) rfl
theorem t125_27 : amTg 27 15 = some 42 := by decide
theorem e125_30 : amT 125 30 31 (.aload_n 0) 0 := r125 (len := 1) (by decide +kernel) rfl
theorem e125_31 : amT 125 31 34 (.getfield 60) 711 := r125 (len := 3) (by decide +kernel) rfl
theorem e125_34 : amT 125 34 36 (.aload 4) 0 := r125 (len := 2) (by decide +kernel) rfl
theorem e125_36 : amT 125 36 39 (.invokevirtual 172) 29 := r125 (len := 3) (by decide +kernel) rfl
theorem e125_39 : amT 125 39 42 (.ifCond .ne 7) 0 := r125 (len := 3) (by decide +kernel) rfl
theorem t125_39 : amTg 39 7 = some 46 := by decide
theorem e125_42 : amT 125 42 45 (.ldc2_w 150) 4 := r125 (len := 3) (by decide +kernel) rfl
theorem e125_45 : amT 125 45 46 (.lreturn) 0 := r125 (len := 1) (by decide +kernel) rfl
theorem e125_46 : amT 125 46 47 (.aload_n 0) 0 := r125 (len := 1) (by decide +kernel) rfl
theorem e125_47 : amT 125 47 50 (.getfield 60) 711 := r125 (len := 3) (by decide +kernel) rfl
theorem e125_50 : amT 125 50 51 (.iload_n 2) 0 := r125 (len := 1) (by decide +kernel) rfl
theorem e125_51 : amT 125 51 54 (.invokevirtual 192) 40 := r125 (len := 3) (by decide +kernel) rfl
theorem e125_54 : amT 125 54 57 (.ifCond .eq 19) 0 := r125 (len := 3) (by decide +kernel) rfl
theorem t125_54 : amTg 54 19 = some 73 := by decide
theorem e125_57 : amT 125 57 58 (.aload_n 0) 0 := r125 (len := 1) (by decide +kernel) rfl
theorem e125_58 : amT 125 58 61 (.getfield 73) 714 := r125 (len := 3) (by decide +kernel) rfl
theorem e125_61 : amT 125 61 62 (.aload_n 0) 0 := r125 (len := 1) (by decide +kernel) rfl
theorem e125_62 : amT 125 62 65 (.getfield 60) 711 := r125 (len := 3) (by decide +kernel) rfl
theorem e125_65 : amT 125 65 66 (.iload_n 2) 0 := r125 (len := 1) (by decide +kernel) rfl
theorem e125_66 : amT 125 66 67 (.iconst 0) 0 := r125 (len := 1) (by decide +kernel) rfl
theorem e125_67 : amT 125 67 70 (.invokevirtual 195) 61 := r125 (len := 3) (by decide +kernel) rfl
theorem e125_70 : amT 125 70 73 (.ifCond .ne 7) 0 := r125 (len := 3) (by decide +kernel) rfl
theorem t125_70 : amTg 70 7 = some 77 := by decide
theorem e125_73 : amT 125 73 76 (.ldc2_w 150) 4 := r125 (len := 3) (by decide +kernel) rfl
theorem e125_76 : amT 125 76 77 (.lreturn) 0 := r125 (len := 1) (by decide +kernel) rfl
theorem e125_77 : amT 125 77 78 (.aload_n 0) 0 := r125 (len := 1) (by decide +kernel) rfl
theorem e125_78 : amT 125 78 81 (.getfield 35) 708 := r125 (len := 3) (by decide +kernel) rfl
theorem e125_81 : amT 125 81 83 (.aload 4) 0 := r125 (len := 2) (by decide +kernel) rfl
theorem e125_83 : amT 125 83 85 (.aload 5) 0 := r125 (len := 2) (by decide +kernel) rfl
theorem e125_85 : amT 125 85 88 (.invokevirtual 221) 26 := r125 (len := 3) (by decide +kernel) rfl
theorem e125_88 : amT 125 88 91 (.ifCond .eq 20) 0 := r125 (len := 3) (by decide +kernel) rfl
theorem t125_88 : amTg 88 20 = some 108 := by decide
theorem e125_91 : amT 125 91 92 (.aload_n 0) 0 := r125 (len := 1) (by decide +kernel) rfl
theorem e125_92 : amT 125 92 95 (.getfield 64) 712 := r125 (len := 3) (by decide +kernel) rfl
theorem e125_95 : amT 125 95 96 (.aload_n 0) 0 := r125 (len := 1) (by decide +kernel) rfl
theorem e125_96 : amT 125 96 99 (.getfield 35) 708 := r125 (len := 3) (by decide +kernel) rfl
theorem e125_99 : amT 125 99 102 (.invokevirtual 224) 25 := r125 (len := 3) (by decide +kernel) rfl
theorem e125_102 : amT 125 102 105 (.invokevirtual 172) 29 := r125 (len := 3) (by decide +kernel) rfl
theorem e125_105 : amT 125 105 108 (.ifCond .ne 7) 0 := r125 (len := 3) (by decide +kernel) rfl
theorem t125_105 : amTg 105 7 = some 112 := by decide
theorem e125_108 : amT 125 108 111 (.ldc2_w 150) 4 := r125 (len := 3) (by decide +kernel) rfl
theorem e125_111 : amT 125 111 112 (.lreturn) 0 := r125 (len := 1) (by decide +kernel) rfl
theorem e125_112 : amT 125 112 113 (.aload_n 0) 0 := r125 (len := 1) (by decide +kernel) rfl
theorem e125_113 : amT 125 113 116 (.getfield 73) 714 := r125 (len := 3) (by decide +kernel) rfl
theorem e125_116 : amT 125 116 117 (.aload_n 0) 0 := r125 (len := 1) (by decide +kernel) rfl
theorem e125_117 : amT 125 117 120 (.getfield 64) 712 := r125 (len := 3) (by decide +kernel) rfl
theorem e125_120 : amT 125 120 123 (.invokevirtual 217) 68 := r125 (len := 3) (by decide +kernel) rfl
theorem e125_123 : amT 125 123 126 (.ifCond .le 5) 0 := r125 (len := 3) (by decide +kernel) rfl
theorem t125_123 : amTg 123 5 = some 128 := by decide
theorem e125_126 : amT 125 126 127 (.lconst 0) 0 := r125 (len := 1) (by decide +kernel) rfl
theorem e125_127 : amT 125 127 128 (.lreturn) 0 := r125 (len := 1) (by decide +kernel) rfl
theorem e125_128 : amT 125 128 129 (.aload_n 0) 0 := r125 (len := 1) (by decide +kernel) rfl
theorem e125_129 : amT 125 129 132 (.getfield 64) 712 := r125 (len := 3) (by decide +kernel) rfl
theorem e125_132 : amT 125 132 134 (.aload 5) 0 := r125 (len := 2) (by decide +kernel) rfl
theorem e125_134 : amT 125 134 137 (.invokevirtual 172) 29 := r125 (len := 3) (by decide +kernel) rfl
theorem e125_137 : amT 125 137 140 (.ifCond .eq 13) 0 := r125 (len := 3) (by decide +kernel) rfl
theorem t125_137 : amTg 137 13 = some 150 := by decide
theorem e125_140 : amT 125 140 141 (.aload_n 0) 0 := r125 (len := 1) (by decide +kernel) rfl
theorem e125_141 : amT 125 141 142 (.iload_n 2) 0 := r125 (len := 1) (by decide +kernel) rfl
theorem e125_142 : amT 125 142 144 (.aload 5) 0 := r125 (len := 2) (by decide +kernel) rfl
theorem e125_144 : amT 125 144 147 (.invokevirtual 228) 147 := r125 (len := 3) (by decide +kernel) rfl
theorem e125_147 : amT 125 147 150 (.goto 6) 0 := r125 (len := 3) (by decide +kernel) rfl
theorem t125_147 : amTg 147 6 = some 153 := by decide
theorem e125_150 : amT 125 150 153 (.ldc2_w 150) 4 := r125 (len := 3) (by decide +kernel) rfl
theorem e125_153 : amT 125 153 154 (.lreturn) 0 := r125 (len := 1) (by decide +kernel) rfl
theorem q126 : amCs.getD 126 [] = amC_126 := rfl
theorem r126 {pc pc' len op : Nat} {i : Instr} (h : amC_126.lookup pc = some (i, len, op)) (h2 : pc + len = pc') : amT 126 pc pc' i op := ⟨len, by unfold amEnt; rw [q126]; exact h, h2⟩
theorem e126_0 : amT 126 0 1 (.aload_n 0) 0 := r126 (len := 1) (by decide +kernel) rfl
theorem e126_1 : amT 126 1 4 (.getfield 12) 704 := r126 (len := 3) (by decide +kernel) rfl
theorem e126_4 : amT 126 4 5 (.iload_n 1) 0 := r126 (len := 1) (by decide +kernel) rfl
theorem e126_5 : amT 126 5 8 (.invokevirtual 123) 55 := r126 (len := 3) (by decide +kernel) rfl
theorem e126_8 : amT 126 8 9 (.astore_n 3) 0 := r126 (len := 1) (by decide +kernel) rfl
theorem e126_9 : amT 126 9 10 (.aload_n 0) 0 := r126 (len := 1) (by decide +kernel) rfl
theorem e126_10 : amT 126 10 13 (.getfield 12) 704 := r126 (len := 3) (by decide +kernel) rfl
theorem e126_13 : amT 126 13 14 (.iload_n 2) 0 := r126 (len := 1) (by decide +kernel) rfl
theorem e126_14 : amT 126 14 17 (.invokevirtual 123) 55 := r126 (len := 3) (by decide +kernel) rfl
theorem e126_17 : amT 126 17 19 (.astore 4) 0 := r126 (len := 2) (by decide +kernel) rfl
theorem e126_19 : amT 126 19 20 (.aload_n 3) 0 := r126 (len := 1) (by decide +kernel) rfl
theorem e126_20 : amT 126 20 23 (.ifnull 21) 0 := r126 (len := 3) (by decide +kernel) rfl
theorem t126_20 : amTg 20 21 = some 41 := by decide
theorem e126_23 : amT 126 23 25 (.aload 4) 0 := r126 (len := 2) (by decide +kernel) rfl
theorem e126_25 : amT 126 25 28 (.ifnull 16) 0 := r126 (len := 3) (by decide +kernel) rfl
theorem t126_25 : amTg 25 16 = some 41 := by decide
theorem e126_28 : amT 126 28 29 (.aload_n 0) 0 := r126 (len := 1) (by decide +kernel) rfl
theorem e126_29 : amT 126 29 32 (.getfield 60) 711 := r126 (len := 3) (by decide +kernel) rfl
theorem e126_32 : amT 126 32 33 (.aload_n 3) 0 := r126 (len := 1) (by decide +kernel) rfl
theorem e126_33 : amT 126 33 35 (.aload 4) 0 := r126 (len := 2) (by decide +kernel) rfl
theorem e126_35 : amT 126 35 38 (.invokevirtual 232) 30 := r126 (len := 3) (by decide +kernel) rfl
theorem e126_38 : amT 126 38 41 (.ifCond .ne 7) 0 := r126 (len := 3) (by decide +kernel) rfl
theorem t126_38 : amTg 38 7 = some 45 := by decide
theorem e126_41 : amT 126 41 44 (.ldc2_w 150) 4 := r126 (len := 3) (by decide +kernel) rfl
theorem e126_44 : amT 126 44 45 (.lreturn) 0 := r126 (len := 1) (by decide +kernel) rfl
theorem e126_45 : amT 126 45 46 (.aload_n 0) 0 := r126 (len := 1) (by decide +kernel) rfl
theorem e126_46 : amT 126 46 49 (.getfield 60) 711 := r126 (len := 3) (by decide +kernel) rfl
theorem e126_49 : amT 126 49 52 (.invokevirtual 186) 39 := r126 (len := 3) (by decide +kernel) rfl
theorem e126_52 : amT 126 52 53 (.i2l) 0 := r126 (len := 1) (by decide +kernel) rfl
theorem e126_53 : amT 126 53 54 (.lreturn) 0 := r126 (len := 1) (by decide +kernel) rfl
theorem q127 : amCs.getD 127 [] = amC_127 := rfl
theorem r127 {pc pc' len op : Nat} {i : Instr} (h : amC_127.lookup pc = some (i, len, op)) (h2 : pc + len = pc') : amT 127 pc pc' i op := ⟨len, by unfold amEnt; rw [q127]; exact h, h2⟩
theorem e127_0 : amT 127 0 1 (.aload_n 0) 0 := r127 (len := 1) (by decide +kernel) rfl
theorem e127_1 : amT 127 1 4 (.getfield 12) 704 := r127 (len := 3) (by decide +kernel) rfl
theorem e127_4 : amT 127 4 5 (.iload_n 1) 0 := r127 (len := 1) (by decide +kernel) rfl
theorem e127_5 : amT 127 5 8 (.invokevirtual 123) 55 := r127 (len := 3) (by decide +kernel) rfl
theorem e127_8 : amT 127 8 10 (.astore 5) 0 := r127 (len := 2) (by decide +kernel) rfl
theorem e127_10 : amT 127 10 11 (.aload_n 0) 0 := r127 (len := 1) (by decide +kernel) rfl
theorem e127_11 : amT 127 11 14 (.getfield 12) 704 := r127 (len := 3) (by decide +kernel) rfl
theorem e127_14 : amT 127 14 15 (.iload_n 3) 0 := r127 (len := 1) (by decide +kernel) rfl
theorem e127_15 : amT 127 15 18 (.invokevirtual 123) 55 := r127 (len := 3) (by decide +kernel) rfl
theorem e127_18 : amT 127 18 20 (.astore 6) 0 := r127 (len := 2) (by decide +kernel) rfl
theorem e127_20 : amT 127 20 22 (.aload 5) 0 := r127 (len := 2) (by decide +kernel) rfl
theorem e127_22 : amT 127 22 25 (.ifnull 32) 0 := r127 (len := 3) (by decide +kernel) rfl
theorem t127_22 : amTg 22 32 = some 54 := by decide
theorem e127_25 : amT 127 25 27 (.aload 6) 0 := r127 (len := 2) (by decide +kernel) rfl
theorem e127_27 : amT 127 27 30 (.ifnull 27) 0 := r127 (len := 3) (by decide +kernel) rfl
theorem t127_27 : amTg 27 27 = some 54 := by decide
theorem e127_30 : amT 127 30 31 (.aload_n 0) 0 := r127 (len := 1) (by decide +kernel) rfl
theorem e127_31 : amT 127 31 34 (.getfield 60) 711 := r127 (len := 3) (by decide +kernel) rfl
theorem e127_34 : amT 127 34 36 (.aload 5) 0 := r127 (len := 2) (by decide +kernel) rfl
theorem e127_36 : amT 127 36 39 (.invokevirtual 172) 29 := r127 (len := 3) (by decide +kernel) rfl
theorem e127_39 : amT 127 39 42 (.ifCond .eq 15) 0 := r127 (len := 3) (by decide +kernel) rfl
theorem t127_39 : amTg 39 15 = some 54 := by decide
theorem e127_42 : amT 127 42 43 (.aload_n 0) 0 := r127 (len := 1) (by decide +kernel) rfl
theorem e127_43 : amT 127 43 46 (.getfield 64) 712 := r127 (len := 3) (by decide +kernel) rfl
theorem e127_46 : amT 127 46 48 (.aload 6) 0 := r127 (len := 2) (by decide +kernel) rfl
theorem e127_48 : amT 127 48 51 (.invokevirtual 172) 29 := r127 (len := 3) (by decide +kernel) rfl
theorem e127_51 : amT 127 51 54 (.ifCond .ne 7) 0 := r127 (len := 3) (by decide +kernel) rfl
theorem t127_51 : amTg 51 7 = some 58 := by decide
theorem e127_54 : amT 127 54 57 (.ldc2_w 150) 4 := r127 (len := 3) (by decide +kernel) rfl
theorem e127_57 : amT 127 57 58 (.lreturn) 0 := r127 (len := 1) (by decide +kernel) rfl
theorem e127_58 : amT 127 58 59 (.aload_n 0) 0 := r127 (len := 1) (by decide +kernel) rfl
theorem e127_59 : amT 127 59 62 (.getfield 60) 711 := r127 (len := 3) (by decide +kernel) rfl
theorem e127_62 : amT 127 62 63 (.iload_n 2) 0 := r127 (len := 1) (by decide +kernel) rfl
theorem e127_63 : amT 127 63 66 (.invokevirtual 192) 40 := r127 (len := 3) (by decide +kernel) rfl
theorem e127_66 : amT 127 66 69 (.ifCond .eq 15) 0 := r127 (len := 3) (by decide +kernel) rfl
theorem t127_66 : amTg 66 15 = some 81 := by decide
theorem e127_69 : amT 127 69 70 (.aload_n 0) 0 := r127 (len := 1) (by decide +kernel) rfl
theorem e127_70 : amT 127 70 73 (.getfield 64) 712 := r127 (len := 3) (by decide +kernel) rfl
theorem e127_73 : amT 127 73 75 (.iload 4) 0 := r127 (len := 2) (by decide +kernel) rfl
theorem e127_75 : amT 127 75 78 (.invokevirtual 192) 40 := r127 (len := 3) (by decide +kernel) rfl
theorem e127_78 : amT 127 78 81 (.ifCond .ne 7) 0 := r127 (len := 3) (by decide +kernel) rfl
theorem t127_78 : amTg 78 7 = some 85 := by decide
theorem e127_81 : amT 127 81 84 (.ldc2_w 150) 4 := r127 (len := 3) (by decide +kernel) rfl
theorem e127_84 : amT 127 84 85 (.lreturn) 0 := r127 (len := 1) (by decide +kernel) rfl
theorem e127_85 : amT 127 85 86 (.aload_n 0) 0 := r127 (len := 1) (by decide +kernel) rfl
theorem e127_86 : amT 127 86 89 (.getfield 73) 714 := r127 (len := 3) (by decide +kernel) rfl
theorem e127_89 : amT 127 89 90 (.aload_n 0) 0 := r127 (len := 1) (by decide +kernel) rfl
theorem e127_90 : amT 127 90 93 (.getfield 60) 711 := r127 (len := 3) (by decide +kernel) rfl
theorem e127_93 : amT 127 93 94 (.iload_n 2) 0 := r127 (len := 1) (by decide +kernel) rfl
theorem e127_94 : amT 127 94 95 (.iconst 0) 0 := r127 (len := 1) (by decide +kernel) rfl
theorem e127_95 : amT 127 95 98 (.invokevirtual 195) 61 := r127 (len := 3) (by decide +kernel) rfl
theorem e127_98 : amT 127 98 101 (.ifCond .eq 20) 0 := r127 (len := 3) (by decide +kernel) rfl
theorem t127_98 : amTg 98 20 = some 118 := by decide
theorem e127_101 : amT 127 101 102 (.aload_n 0) 0 := r127 (len := 1) (by decide +kernel) rfl
theorem e127_102 : amT 127 102 105 (.getfield 77) 715 := r127 (len := 3) (by decide +kernel) rfl
theorem e127_105 : amT 127 105 106 (.aload_n 0) 0 := r127 (len := 1) (by decide +kernel) rfl
theorem e127_106 : amT 127 106 109 (.getfield 64) 712 := r127 (len := 3) (by decide +kernel) rfl
theorem e127_109 : amT 127 109 111 (.iload 4) 0 := r127 (len := 2) (by decide +kernel) rfl
theorem e127_111 : amT 127 111 112 (.iconst 0) 0 := r127 (len := 1) (by decide +kernel) rfl
theorem e127_112 : amT 127 112 115 (.invokevirtual 195) 61 := r127 (len := 3) (by decide +kernel) rfl
theorem e127_115 : amT 127 115 118 (.ifCond .ne 7) 0 := r127 (len := 3) (by decide +kernel) rfl
theorem t127_115 : amTg 115 7 = some 122 := by decide
theorem e127_118 : amT 127 118 121 (.ldc2_w 150) 4 := r127 (len := 3) (by decide +kernel) rfl
theorem e127_121 : amT 127 121 122 (.lreturn) 0 := r127 (len := 1) (by decide +kernel) rfl
theorem e127_122 : amT 127 122 123 (.aload_n 0) 0 := r127 (len := 1) (by decide +kernel) rfl
theorem e127_123 : amT 127 123 126 (.getfield 35) 708 := r127 (len := 3) (by decide +kernel) rfl
theorem e127_126 : amT 127 126 128 (.aload 5) 0 := r127 (len := 2) (by decide +kernel) rfl
theorem e127_128 : amT 127 128 130 (.aload 6) 0 := r127 (len := 2) (by decide +kernel) rfl
theorem e127_130 : amT 127 130 133 (.invokevirtual 221) 26 := r127 (len := 3) (by decide +kernel) rfl
theorem e127_133 : amT 127 133 136 (.ifCond .eq 20) 0 := r127 (len := 3) (by decide +kernel) rfl
theorem t127_133 : amTg 133 20 = some 153 := by decide
theorem e127_136 : amT 127 136 137 (.aload_n 0) 0 := r127 (len := 1) (by decide +kernel) rfl
theorem e127_137 : amT 127 137 140 (.getfield 67) 713 := r127 (len := 3) (by decide +kernel) rfl
theorem e127_140 : amT 127 140 141 (.aload_n 0) 0 := r127 (len := 1) (by decide +kernel) rfl
theorem e127_141 : amT 127 141 144 (.getfield 35) 708 := r127 (len := 3) (by decide +kernel) rfl
theorem e127_144 : amT 127 144 147 (.invokevirtual 224) 25 := r127 (len := 3) (by decide +kernel) rfl
theorem e127_147 : amT 127 147 150 (.invokevirtual 172) 29 := r127 (len := 3) (by decide +kernel) rfl
theorem e127_150 : amT 127 150 153 (.ifCond .ne 7) 0 := r127 (len := 3) (by decide +kernel) rfl
theorem t127_150 : amTg 150 7 = some 157 := by decide
theorem e127_153 : amT 127 153 156 (.ldc2_w 150) 4 := r127 (len := 3) (by decide +kernel) rfl
theorem e127_156 : amT 127 156 157 (.lreturn) 0 := r127 (len := 1) (by decide +kernel) rfl
theorem e127_157 : amT 127 157 158 (.aload_n 0) 0 := r127 (len := 1) (by decide +kernel) rfl
theorem e127_158 : amT 127 158 161 (.invokevirtual 235) 148 := r127 (len := 3) (by decide +kernel) rfl
theorem e127_161 : amT 127 161 164 (.ifCond .eq 7) 0 := r127 (len := 3) (by decide +kernel) rfl
theorem t127_161 : amTg 161 7 = some 168 := by decide
theorem e127_164 : amT 127 164 165 (.lconst 0) 0 := r127 (len := 1) (by decide +kernel) rfl
theorem e127_165 : amT 127 165 168 (.goto 10) 0 := r127 (len := 3) (by decide +kernel) rfl
theorem t127_165 : amTg 165 10 = some 175 := by decide
theorem e127_168 : amT 127 168 169 (.aload_n 0) 0 := r127 (len := 1) (by decide +kernel) rfl
theorem e127_169 : amT 127 169 170 (.iload_n 2) 0 := r127 (len := 1) (by decide +kernel) rfl
theorem e127_170 : amT 127 170 172 (.iload 4) 0 := r127 (len := 2) (by decide +kernel) rfl
theorem e127_172 : amT 127 172 175 (.invokevirtual 238) 149 := r127 (len := 3) (by decide +kernel) rfl
theorem e127_175 : amT 127 175 176 (.lreturn) 0 := r127 (len := 1) (by decide +kernel) rfl
theorem q128 : amCs.getD 128 [] = amC_128 := rfl
theorem r128 {pc pc' len op : Nat} {i : Instr} (h : amC_128.lookup pc = some (i, len, op)) (h2 : pc + len = pc') : amT 128 pc pc' i op := ⟨len, by unfold amEnt; rw [q128]; exact h, h2⟩
theorem e128_0 : amT 128 0 1 (.aload_n 0) 0 := r128 (len := 1) (by decide +kernel) rfl
theorem e128_1 : amT 128 1 4 (.getfield 12) 704 := r128 (len := 3) (by decide +kernel) rfl
theorem e128_4 : amT 128 4 5 (.iload_n 1) 0 := r128 (len := 1) (by decide +kernel) rfl
theorem e128_5 : amT 128 5 8 (.invokevirtual 123) 55 := r128 (len := 3) (by decide +kernel) rfl
theorem e128_8 : amT 128 8 10 (.astore 4) 0 := r128 (len := 2) (by decide +kernel) rfl
theorem e128_10 : amT 128 10 12 (.aload 4) 0 := r128 (len := 2) (by decide +kernel) rfl
theorem e128_12 : amT 128 12 15 (.ifnonnull 7) 0 := r128 (len := 3) (by decide +kernel) rfl
theorem t128_12 : amTg 12 7 = some 19 := by decide
theorem e128_15 : amT 128 15 18 (.ldc2_w 150) 4 := r128 (len := 3) (by decide +kernel) rfl
theorem e128_18 : amT 128 18 19 (.lreturn) 0 := r128 (len := 1) (by decide +kernel) rfl
theorem e128_19 : amT 128 19 20 (.aload_n 0) 0 := r128 (len := 1) (by decide +kernel) rfl
theorem e128_20 : amT 128 20 23 (.getfield 83) 716 := r128 (len := 3) (by decide +kernel) rfl
theorem e128_23 : amT 128 23 25 (.aload 4) 0 := r128 (len := 2) (by decide +kernel) rfl
theorem e128_25 : amT 128 25 28 (.invokevirtual 242) 76 := r128 (len := 3) (by decide +kernel) rfl
theorem e128_28 : amT 128 28 29 (.iload_n 2) 0 := r128 (len := 1) (by decide +kernel) rfl
theorem e128_29 : amT 128 29 30 (.iconst (-1)) 0 := r128 (len := 1) (by decide +kernel) rfl
theorem e128_30 : amT 128 30 33 (.if_icmp .ne 12) 0 := r128 (len := 3) (by decide +kernel) rfl
theorem t128_30 : amTg 30 12 = some 42 := by decide
theorem e128_33 : amT 128 33 34 (.aload_n 0) 0 := r128 (len := 1) (by decide +kernel) rfl
theorem e128_34 : amT 128 34 37 (.getfield 83) 716 := r128 (len := 3) (by decide +kernel) rfl
theorem e128_37 : amT 128 37 40 (.invokevirtual 245) 73 := r128 (len := 3) (by decide +kernel) rfl
theorem e128_40 : amT 128 40 41 (.i2l) 0 := r128 (len := 1) (by decide +kernel) rfl
theorem e128_41 : amT 128 41 42 (.lreturn) 0 := r128 (len := 1) (by decide +kernel) rfl
theorem e128_42 : amT 128 42 43 (.iload_n 2) 0 := r128 (len := 1) (by decide +kernel) rfl
theorem e128_43 : amT 128 43 46 (.ifCond .lt 23) 0 := r128 (len := 3) (by decide +kernel) rfl
theorem t128_43 : amTg 43 23 = some 66 := by decide
theorem e128_46 : amT 128 46 47 (.iload_n 2) 0 := r128 (len := 1) (by decide +kernel) rfl
theorem e128_47 : amT 128 47 48 (.aload_n 0) 0 := r128 (len := 1) (by decide +kernel) rfl
theorem e128_48 : amT 128 48 51 (.getfield 83) 716 := r128 (len := 3) (by decide +kernel) rfl
theorem e128_51 : amT 128 51 54 (.invokevirtual 245) 73 := r128 (len := 3) (by decide +kernel) rfl
theorem e128_54 : amT 128 54 57 (.if_icmp .ge 12) 0 := r128 (len := 3) (by decide +kernel) rfl
theorem t128_54 : amTg 54 12 = some 66 := by decide
theorem e128_57 : amT 128 57 58 (.iload_n 3) 0 := r128 (len := 1) (by decide +kernel) rfl
theorem e128_58 : amT 128 58 61 (.ifCond .lt 8) 0 := r128 (len := 3) (by decide +kernel) rfl
theorem t128_58 : amTg 58 8 = some 66 := by decide
theorem e128_61 : amT 128 61 62 (.iload_n 3) 0 := r128 (len := 1) (by decide +kernel) rfl
theorem e128_62 : amT 128 62 63 (.iconst 1) 0 := r128 (len := 1) (by decide +kernel) rfl
theorem e128_63 : amT 128 63 66 (.if_icmp .le 7) 0 := r128 (len := 3) (by decide +kernel) rfl
theorem t128_63 : amTg 63 7 = some 70 := by decide
theorem e128_66 : amT 128 66 69 (.ldc2_w 150) 4 := r128 (len := 3) (by decide +kernel) rfl
theorem e128_69 : amT 128 69 70 (.lreturn) 0 := r128 (len := 1) (by decide +kernel) rfl
theorem e128_70 : amT 128 70 71 (.iload_n 3) 0 := r128 (len := 1) (by decide +kernel) rfl
theorem e128_71 : amT 128 71 74 (.ifCond .ne 15) 0 := r128 (len := 3) (by decide +kernel) rfl
theorem t128_71 : amTg 71 15 = some 86 := by decide
theorem e128_74 : amT 128 74 75 (.aload_n 0) 0 := r128 (len := 1) (by decide +kernel) rfl
theorem e128_75 : amT 128 75 78 (.getfield 83) 716 := r128 (len := 3) (by decide +kernel) rfl
theorem e128_78 : amT 128 78 79 (.iload_n 2) 0 := r128 (len := 1) (by decide +kernel) rfl
theorem e128_79 : amT 128 79 82 (.invokevirtual 246) 74 := r128 (len := 3) (by decide +kernel) rfl
theorem e128_82 : amT 128 82 83 (.i2l) 0 := r128 (len := 1) (by decide +kernel) rfl
theorem e128_83 : amT 128 83 86 (.goto 12) 0 := r128 (len := 3) (by decide +kernel) rfl
theorem t128_83 : amTg 83 12 = some 95 := by decide
theorem e128_86 : amT 128 86 87 (.aload_n 0) 0 := r128 (len := 1) (by decide +kernel) rfl
theorem e128_87 : amT 128 87 90 (.getfield 83) 716 := r128 (len := 3) (by decide +kernel) rfl
theorem e128_90 : amT 128 90 91 (.iload_n 2) 0 := r128 (len := 1) (by decide +kernel) rfl
theorem e128_91 : amT 128 91 94 (.invokevirtual 250) 75 := r128 (len := 3) (by decide +kernel) rfl
theorem e128_94 : amT 128 94 95 (.i2l) 0 := r128 (len := 1) (by decide +kernel) rfl
theorem e128_95 : amT 128 95 96 (.lreturn) 0 := r128 (len := 1) (by decide +kernel) rfl
theorem q129 : amCs.getD 129 [] = amC_129 := rfl
theorem r129 {pc pc' len op : Nat} {i : Instr} (h : amC_129.lookup pc = some (i, len, op)) (h2 : pc + len = pc') : amT 129 pc pc' i op := ⟨len, by unfold amEnt; rw [q129]; exact h, h2⟩
theorem e129_0 : amT 129 0 1 (.iload_n 1) 0 := r129 (len := 1) (by decide +kernel) rfl
theorem e129_1 : amT 129 1 2 (.iconst 1) 0 := r129 (len := 1) (by decide +kernel) rfl
theorem e129_2 : amT 129 2 5 (.if_icmp .lt 9) 0 := r129 (len := 3) (by decide +kernel) rfl
theorem t129_2 : amTg 2 9 = some 11 := by decide
theorem e129_5 : amT 129 5 6 (.iload_n 1) 0 := r129 (len := 1) (by decide +kernel) rfl
theorem e129_6 : amT 129 6 8 (.bipush 127) 0 := r129 (len := 2) (by decide +kernel) rfl
theorem e129_8 : amT 129 8 11 (.if_icmp .le 5) 0 := r129 (len := 3) (by decide +kernel) rfl
theorem t129_8 : amTg 8 5 = some 13 := by decide
theorem e129_11 : amT 129 11 12 (.iconst (-1)) 0 := r129 (len := 1) (by decide +kernel) rfl
theorem e129_12 : amT 129 12 13 (.ireturn) 0 := r129 (len := 1) (by decide +kernel) rfl
theorem e129_13 : amT 129 13 14 (.aload_n 0) 0 := r129 (len := 1) (by decide +kernel) rfl
theorem e129_14 : amT 129 14 17 (.getfield 90) 717 := r129 (len := 3) (by decide +kernel) rfl
theorem e129_17 : amT 129 17 18 (.iload_n 1) 0 := r129 (len := 1) (by decide +kernel) rfl
theorem e129_18 : amT 129 18 21 (.invokevirtual 253) 81 := r129 (len := 3) (by decide +kernel) rfl
theorem e129_21 : amT 129 21 24 (.ifCond .eq 13) 0 := r129 (len := 3) (by decide +kernel) rfl
theorem t129_21 : amTg 21 13 = some 34 := by decide
theorem e129_24 : amT 129 24 25 (.aload_n 0) 0 := r129 (len := 1) (by decide +kernel) rfl
theorem e129_25 : amT 129 25 28 (.getfield 90) 717 := r129 (len := 3) (by decide +kernel) rfl
theorem e129_28 : amT 129 28 31 (.invokevirtual 256) 80 := r129 (len := 3) (by decide +kernel) rfl
theorem e129_31 : amT 129 31 34 (.goto 5) 0 := r129 (len := 3) (by decide +kernel) rfl
theorem t129_31 : amTg 31 5 = some 36 := by decide
theorem e129_34 : amT 129 34 36 (.bipush (-3)) 0 := r129 (len := 2) (by decide +kernel) rfl
theorem e129_36 : amT 129 36 37 (.ireturn) 0 := r129 (len := 1) (by decide +kernel) rfl
theorem q130 : amCs.getD 130 [] = amC_130 := rfl
theorem r130 {pc pc' len op : Nat} {i : Instr} (h : amC_130.lookup pc = some (i, len, op)) (h2 : pc + len = pc') : amT 130 pc pc' i op := ⟨len, by unfold amEnt; rw [q130]; exact h, h2⟩
theorem e130_0 : amT 130 0 1 (.aload_n 0) 0 := r130 (len := 1) (by decide +kernel) rfl
theorem e130_1 : amT 130 1 4 (.getfield 90) 717 := r130 (len := 3) (by decide +kernel) rfl
theorem e130_4 : amT 130 4 7 (.invokevirtual 257) 87 := r130 (len := 3) (by decide +kernel) rfl
theorem e130_7 : amT 130 7 8 (.istore_n 1) 0 := r130 (len := 1) (by decide +kernel) rfl
theorem e130_8 : amT 130 8 9 (.aload_n 0) 0 := r130 (len := 1) (by decide +kernel) rfl
theorem e130_9 : amT 130 9 12 (.getfield 12) 704 := r130 (len := 3) (by decide +kernel) rfl
theorem e130_12 : amT 130 12 15 (.invokevirtual 142) 53 := r130 (len := 3) (by decide +kernel) rfl
theorem e130_15 : amT 130 15 16 (.istore_n 2) 0 := r130 (len := 1) (by decide +kernel) rfl
theorem e130_16 : amT 130 16 17 (.iconst 0) 0 := r130 (len := 1) (by decide +kernel) rfl
theorem e130_17 : amT 130 17 18 (.istore_n 3) 0 := r130 (len := 1) (by decide +kernel) rfl
theorem e130_18 : amT 130 18 19 (.iload_n 1) 0 := r130 (len := 1) (by decide +kernel) rfl
theorem e130_19 : amT 130 19 21 (.istore 4) 0 := r130 (len := 2) (by decide +kernel) rfl
theorem e130_21 : amT 130 21 22 (.iconst 0) 0 := r130 (len := 1) (by decide +kernel) rfl
theorem e130_22 : amT 130 22 24 (.istore 5) 0 := r130 (len := 2) (by decide +kernel) rfl
theorem e130_24 : amT 130 24 26 (.iload 5) 0 := r130 (len := 2) (by decide +kernel) rfl
theorem e130_26 : amT 130 26 27 (.iload_n 1) 0 := r130 (len := 1) (by decide +kernel) rfl
theorem e130_27 : amT 130 27 30 (.if_icmp .ge 102) 0 := r130 (len := 3) (by decide +kernel) rfl
theorem t130_27 : amTg 27 102 = some 129 := by decide
theorem e130_30 : amT 130 30 32 (.iload 4) 0 := r130 (len := 2) (by decide +kernel) rfl
theorem e130_32 : amT 130 32 33 (.iload_n 1) 0 := r130 (len := 1) (by decide +kernel) rfl
theorem e130_33 : amT 130 33 36 (.if_icmp .ne 96) 0 := r130 (len := 3) (by decide +kernel) rfl
theorem t130_33 : amTg 33 96 = some 129 := by decide
theorem e130_36 : amT 130 36 37 (.aload_n 0) 0 := r130 (len := 1) (by decide +kernel) rfl
theorem e130_37 : amT 130 37 40 (.getfield 90) 717 := r130 (len := 3) (by decide +kernel) rfl
theorem e130_40 : amT 130 40 41 (.iload_n 3) 0 := r130 (len := 1) (by decide +kernel) rfl
theorem e130_41 : amT 130 41 44 (.invokevirtual 260) 88 := r130 (len := 3) (by decide +kernel) rfl
theorem e130_44 : amT 130 44 46 (.istore 6) 0 := r130 (len := 2) (by decide +kernel) rfl
theorem e130_46 : amT 130 46 47 (.aload_n 0) 0 := r130 (len := 1) (by decide +kernel) rfl
theorem e130_47 : amT 130 47 50 (.getfield 90) 717 := r130 (len := 3) (by decide +kernel) rfl
theorem e130_50 : amT 130 50 53 (.invokevirtual 263) 83 := r130 (len := 3) (by decide +kernel) rfl
theorem e130_53 : amT 130 53 55 (.istore 7) 0 := r130 (len := 2) (by decide +kernel) rfl
theorem e130_55 : amT 130 55 57 (.iload 7) 0 := r130 (len := 2) (by decide +kernel) rfl
theorem e130_57 : amT 130 57 59 (.bipush 12) 0 := r130 (len := 2) (by decide +kernel) rfl
theorem e130_59 : amT 130 59 62 (.if_icmp .ne 17) 0 := r130 (len := 3) (by decide +kernel) rfl
theorem t130_59 : amTg 59 17 = some 76 := by decide
theorem e130_62 : amT 130 62 63 (.aload_n 0) 0 := r130 (len := 1) (by decide +kernel) rfl
theorem e130_63 : amT 130 63 64 (.aload_n 0) 0 := r130 (len := 1) (by decide +kernel) rfl
theorem e130_64 : amT 130 64 67 (.getfield 90) 717 := r130 (len := 3) (by decide +kernel) rfl
theorem e130_67 : amT 130 67 70 (.invokevirtual 266) 86 := r130 (len := 3) (by decide +kernel) rfl
theorem e130_70 : amT 130 70 73 (.invokevirtual 119) 142 := r130 (len := 3) (by decide +kernel) rfl
theorem e130_73 : amT 130 73 76 (.goto 23) 0 := r130 (len := 3) (by decide +kernel) rfl
theorem t130_73 : amTg 73 23 = some 96 := by decide
theorem e130_76 : amT 130 76 77 (.aload_n 0) 0 := r130 (len := 1) (by decide +kernel) rfl
theorem e130_77 : amT 130 77 79 (.iload 7) 0 := r130 (len := 2) (by decide +kernel) rfl
theorem e130_79 : amT 130 79 80 (.aload_n 0) 0 := r130 (len := 1) (by decide +kernel) rfl
theorem e130_80 : amT 130 80 83 (.getfield 90) 717 := r130 (len := 3) (by decide +kernel) rfl
theorem e130_83 : amT 130 83 86 (.invokevirtual 269) 84 := r130 (len := 3) (by decide +kernel) rfl
theorem e130_86 : amT 130 86 87 (.aload_n 0) 0 := r130 (len := 1) (by decide +kernel) rfl
theorem e130_87 : amT 130 87 90 (.getfield 90) 717 := r130 (len := 3) (by decide +kernel) rfl
theorem e130_90 : amT 130 90 93 (.invokevirtual 272) 85 := r130 (len := 3) (by decide +kernel) rfl
theorem e130_93 : amT 130 93 96 (.invokevirtual 274) 112 := r130 (len := 3) (by decide +kernel) rfl
theorem e130_96 : amT 130 96 98 (.istore 8) 0 := r130 (len := 2) (by decide +kernel) rfl
theorem e130_98 : amT 130 98 100 (.iload 8) 0 := r130 (len := 2) (by decide +kernel) rfl
theorem e130_100 : amT 130 100 103 (.ifCond .ge 18) 0 := r130 (len := 3) (by decide +kernel) rfl
theorem t130_100 : amTg 100 18 = some 118 := by decide
theorem e130_103 : amT 130 103 106 (.sipush (-2000)) 0 := r130 (len := 3) (by decide +kernel) rfl
theorem e130_106 : amT 130 106 107 (.iload_n 3) 0 := r130 (len := 1) (by decide +kernel) rfl
theorem e130_107 : amT 130 107 108 (.isub) 0 := r130 (len := 1) (by decide +kernel) rfl
theorem e130_108 : amT 130 108 110 (.istore 4) 0 := r130 (len := 2) (by decide +kernel) rfl
theorem e130_110 : amT 130 110 111 (.aload_n 0) 0 := r130 (len := 1) (by decide +kernel) rfl
theorem e130_111 : amT 130 111 114 (.getfield 12) 704 := r130 (len := 3) (by decide +kernel) rfl
theorem e130_114 : amT 130 114 115 (.iload_n 2) 0 := r130 (len := 1) (by decide +kernel) rfl
theorem e130_115 : amT 130 115 118 (.invokevirtual 146) 57 := r130 (len := 3) (by decide +kernel) rfl
theorem e130_118 : amT 130 118 120 (.iload 6) 0 := r130 (len := 2) (by decide +kernel) rfl
theorem e130_120 : amT 130 120 121 (.iconst 1) 0 := r130 (len := 1) (by decide +kernel) rfl
theorem e130_121 : amT 130 121 122 (.iadd) 0 := r130 (len := 1) (by decide +kernel) rfl
theorem e130_122 : amT 130 122 123 (.istore_n 3) 0 := r130 (len := 1) (by decide +kernel) rfl
theorem e130_123 : amT 130 123 126 (.iinc 5 1) 0 := r130 (len := 3) (by decide +kernel) rfl
theorem e130_126 : amT 130 126 129 (.goto (-102)) 0 := r130 (len := 3) (by decide +kernel) rfl
theorem t130_126 : amTg 126 (-102) = some 24 := by decide
theorem e130_129 : amT 130 129 130 (.aload_n 0) 0 := r130 (len := 1) (by decide +kernel) rfl
theorem e130_130 : amT 130 130 133 (.getfield 90) 717 := r130 (len := 3) (by decide +kernel) rfl
theorem e130_133 : amT 130 133 136 (.invokevirtual 278) 82 := r130 (len := 3) (by decide +kernel) rfl
theorem e130_136 : amT 130 136 138 (.iload 4) 0 := r130 (len := 2) (by decide +kernel) rfl
theorem e130_138 : amT 130 138 139 (.ireturn) 0 := r130 (len := 1) (by decide +kernel) rfl
theorem q131 : amCs.getD 131 [] = amC_131 := rfl
theorem r131 {pc pc' len op : Nat} {i : Instr} (h : amC_131.lookup pc = some (i, len, op)) (h2 : pc + len = pc') : amT 131 pc pc' i op := ⟨len, by unfold amEnt; rw [q131]; exact h, h2⟩
theorem e131_0 : amT 131 0 1 (.aload_n 0) 0 := r131 (len := 1) (by decide +kernel) rfl
theorem e131_1 : amT 131 1 4 (.getfield 12) 704 := r131 (len := 3) (by decide +kernel) rfl
theorem e131_4 : amT 131 4 5 (.iload_n 1) 0 := r131 (len := 1) (by decide +kernel) rfl
theorem e131_5 : amT 131 5 8 (.invokevirtual 123) 55 := r131 (len := 3) (by decide +kernel) rfl
theorem e131_8 : amT 131 8 9 (.astore_n 2) 0 := r131 (len := 1) (by decide +kernel) rfl
theorem e131_9 : amT 131 9 10 (.aload_n 2) 0 := r131 (len := 1) (by decide +kernel) rfl
theorem e131_10 : amT 131 10 13 (.ifnonnull 5) 0 := r131 (len := 3) (by decide +kernel) rfl
theorem t131_10 : amTg 10 5 = some 15 := by decide
theorem e131_13 : amT 131 13 14 (.iconst (-1)) 0 := r131 (len := 1) (by decide +kernel) rfl
theorem e131_14 : amT 131 14 15 (.ireturn) 0 := r131 (len := 1) (by decide +kernel) rfl
theorem e131_15 : amT 131 15 16 (.aload_n 0) 0 := r131 (len := 1) (by decide +kernel) rfl
theorem e131_16 : amT 131 16 19 (.getfield 97) 718 := r131 (len := 3) (by decide +kernel) rfl
theorem e131_19 : amT 131 19 20 (.aload_n 2) 0 := r131 (len := 1) (by decide +kernel) rfl
theorem e131_20 : amT 131 20 23 (.invokevirtual 279) 100 := r131 (len := 3) (by decide +kernel) rfl
theorem e131_23 : amT 131 23 24 (.aload_n 0) 0 := r131 (len := 1) (by decide +kernel) rfl
theorem e131_24 : amT 131 24 27 (.getfield 97) 718 := r131 (len := 3) (by decide +kernel) rfl
theorem e131_27 : amT 131 27 30 (.invokevirtual 282) 98 := r131 (len := 3) (by decide +kernel) rfl
theorem e131_30 : amT 131 30 31 (.ireturn) 0 := r131 (len := 1) (by decide +kernel) rfl
theorem q132 : amCs.getD 132 [] = amC_132 := rfl
theorem r132 {pc pc' len op : Nat} {i : Instr} (h : amC_132.lookup pc = some (i, len, op)) (h2 : pc + len = pc') : amT 132 pc pc' i op := ⟨len, by unfold amEnt; rw [q132]; exact h, h2⟩
theorem e132_0 : amT 132 0 1 (.iload_n 1) 0 := r132 (len := 1) (by decide +kernel) rfl
theorem e132_1 : amT 132 1 4 (.ifCond .ge 5) 0 := r132 (len := 3) (by decide +kernel) rfl
theorem t132_1 : amTg 1 5 = some 6 := by decide
theorem e132_4 : amT 132 4 5 (.iconst (-1)) 0 := r132 (len := 1) (by decide +kernel) rfl
theorem e132_5 : amT 132 5 6 (.ireturn) 0 := r132 (len := 1) (by decide +kernel) rfl
theorem e132_6 : amT 132 6 7 (.iload_n 1) 0 := r132 (len := 1) (by decide +kernel) rfl
theorem e132_7 : amT 132 7 8 (.aload_n 0) 0 := r132 (len := 1) (by decide +kernel) rfl
theorem e132_8 : amT 132 8 11 (.getfield 97) 718 := r132 (len := 3) (by decide +kernel) rfl
theorem e132_11 : amT 132 11 14 (.invokevirtual 282) 98 := r132 (len := 3) (by decide +kernel) rfl
theorem e132_14 : amT 132 14 17 (.if_icmp .ge 14) 0 := r132 (len := 3) (by decide +kernel) rfl
theorem t132_14 : amTg 14 14 = some 28 := by decide
theorem e132_17 : amT 132 17 18 (.aload_n 0) 0 := r132 (len := 1) (by decide +kernel) rfl
theorem e132_18 : amT 132 18 21 (.getfield 97) 718 := r132 (len := 3) (by decide +kernel) rfl
theorem e132_21 : amT 132 21 22 (.iload_n 1) 0 := r132 (len := 1) (by decide +kernel) rfl
theorem e132_22 : amT 132 22 25 (.invokevirtual 283) 99 := r132 (len := 3) (by decide +kernel) rfl
theorem e132_25 : amT 132 25 28 (.goto 5) 0 := r132 (len := 3) (by decide +kernel) rfl
theorem t132_25 : amTg 25 5 = some 30 := by decide
theorem e132_28 : amT 132 28 30 (.bipush (-2)) 0 := r132 (len := 2) (by decide +kernel) rfl
theorem e132_30 : amT 132 30 31 (.ireturn) 0 := r132 (len := 1) (by decide +kernel) rfl
theorem q133 : amCs.getD 133 [] = amC_133 := rfl
theorem r133 {pc pc' len op : Nat} {i : Instr} (h : amC_133.lookup pc = some (i, len, op)) (h2 : pc + len = pc') : amT 133 pc pc' i op := ⟨len, by unfold amEnt; rw [q133]; exact h, h2⟩
theorem e133_0 : amT 133 0 1 (.aload_n 0) 0 := r133 (len := 1) (by decide +kernel) rfl
theorem e133_1 : amT 133 1 4 (.getfield 12) 704 := r133 (len := 3) (by decide +kernel) rfl
theorem e133_4 : amT 133 4 5 (.iload_n 1) 0 := r133 (len := 1) (by decide +kernel) rfl
theorem e133_5 : amT 133 5 8 (.invokevirtual 123) 55 := r133 (len := 3) (by decide +kernel) rfl
theorem e133_8 : amT 133 8 10 (.astore 4) 0 := r133 (len := 2) (by decide +kernel) rfl
theorem e133_10 : amT 133 10 12 (.aload 4) 0 := r133 (len := 2) (by decide +kernel) rfl
theorem e133_12 : amT 133 12 15 (.ifnull 18) 0 := r133 (len := 3) (by decide +kernel) rfl
theorem t133_12 : amTg 12 18 = some 30 := by decide
theorem e133_15 : amT 133 15 16 (.aload_n 0) 0 := r133 (len := 1) (by decide +kernel) rfl
theorem e133_16 : amT 133 16 19 (.getfield 104) 719 := r133 (len := 3) (by decide +kernel) rfl
theorem e133_19 : amT 133 19 20 (.iload_n 2) 0 := r133 (len := 1) (by decide +kernel) rfl
theorem e133_20 : amT 133 20 23 (.invokevirtual 285) 105 := r133 (len := 3) (by decide +kernel) rfl
theorem e133_23 : amT 133 23 26 (.ifCond .eq 7) 0 := r133 (len := 3) (by decide +kernel) rfl
theorem t133_23 : amTg 23 7 = some 30 := by decide
theorem e133_26 : amT 133 26 27 (.iload_n 3) 0 := r133 (len := 1) (by decide +kernel) rfl
theorem e133_27 : amT 133 27 30 (.ifCond .ge 5) 0 := r133 (len := 3) (by decide +kernel) rfl
theorem t133_27 : amTg 27 5 = some 32 := by decide
theorem e133_30 : amT 133 30 31 (.iconst (-1)) 0 := r133 (len := 1) (by decide +kernel) rfl
theorem e133_31 : amT 133 31 32 (.ireturn) 0 := r133 (len := 1) (by decide +kernel) rfl
theorem e133_32 : amT 133 32 33 (.aload_n 0) 0 := r133 (len := 1) (by decide +kernel) rfl
theorem e133_33 : amT 133 33 36 (.getfield 104) 719 := r133 (len := 3) (by decide +kernel) rfl
theorem e133_36 : amT 133 36 37 (.iload_n 2) 0 := r133 (len := 1) (by decide +kernel) rfl
theorem e133_37 : amT 133 37 40 (.invokevirtual 288) 106 := r133 (len := 3) (by decide +kernel) rfl
theorem e133_40 : amT 133 40 42 (.istore 5) 0 := r133 (len := 2) (by decide +kernel) rfl
theorem e133_42 : amT 133 42 44 (.iload 5) 0 := r133 (len := 2) (by decide +kernel) rfl
theorem e133_44 : amT 133 44 47 (.ifCond .ge 6) 0 := r133 (len := 3) (by decide +kernel) rfl
theorem t133_44 : amTg 44 6 = some 50 := by decide
theorem e133_47 : amT 133 47 49 (.bipush (-11)) 0 := r133 (len := 2) (by decide +kernel) rfl
theorem e133_49 : amT 133 49 50 (.ireturn) 0 := r133 (len := 1) (by decide +kernel) rfl
theorem e133_50 : amT 133 50 51 (.aload_n 0) 0 := r133 (len := 1) (by decide +kernel) rfl
theorem e133_51 : amT 133 51 54 (.getfield 60) 711 := r133 (len := 3) (by decide +kernel) rfl
theorem e133_54 : amT 133 54 56 (.aload 4) 0 := r133 (len := 2) (by decide +kernel) rfl
theorem e133_56 : amT 133 56 59 (.invokevirtual 172) 29 := r133 (len := 3) (by decide +kernel) rfl
theorem e133_59 : amT 133 59 62 (.ifCond .ne 6) 0 := r133 (len := 3) (by decide +kernel) rfl
theorem t133_59 : amTg 59 6 = some 65 := by decide
theorem e133_62 : amT 133 62 64 (.bipush (-3)) 0 := r133 (len := 2) (by decide +kernel) rfl
theorem e133_64 : amT 133 64 65 (.ireturn) 0 := r133 (len := 1) (by decide +kernel) rfl
theorem e133_65 : amT 133 65 66 (.aload_n 0) 0 := r133 (len := 1) (by decide +kernel) rfl
theorem e133_66 : amT 133 66 69 (.getfield 60) 711 := r133 (len := 3) (by decide +kernel) rfl
theorem e133_69 : amT 133 69 72 (.invokevirtual 186) 39 := r133 (len := 3) (by decide +kernel) rfl
theorem e133_72 : amT 133 72 74 (.istore 6) 0 := r133 (len := 2) (by decide +kernel) rfl
theorem e133_74 : amT 133 74 75 (.iconst 0) 0 := r133 (len := 1) (by decide +kernel) rfl
theorem e133_75 : amT 133 75 77 (.istore 7) 0 := r133 (len := 2) (by decide +kernel) rfl
theorem e133_77 : amT 133 77 79 (.iload 7) 0 := r133 (len := 2) (by decide +kernel) rfl
theorem e133_79 : amT 133 79 81 (.iload 6) 0 := r133 (len := 2) (by decide +kernel) rfl
theorem e133_81 : amT 133 81 84 (.if_icmp .ge 47) 0 := r133 (len := 3) (by decide +kernel) rfl
theorem t133_81 : amTg 81 47 = some 128 := by decide
theorem e133_84 : amT 133 84 85 (.iload_n 3) 0 := r133 (len := 1) (by decide +kernel) rfl
theorem e133_85 : amT 133 85 87 (.iload 5) 0 := r133 (len := 2) (by decide +kernel) rfl
theorem e133_87 : amT 133 87 88 (.iconst 4) 0 := r133 (len := 1) (by decide +kernel) rfl
theorem e133_88 : amT 133 88 90 (.iload 7) 0 := r133 (len := 2) (by decide +kernel) rfl
theorem e133_90 : amT 133 90 91 (.imul) 0 := r133 (len := 1) (by decide +kernel) rfl
theorem e133_91 : amT 133 91 92 (.isub) 0 := r133 (len := 1) (by decide +kernel) rfl
theorem e133_92 : amT 133 92 93 (.iconst 4) 0 := r133 (len := 1) (by decide +kernel) rfl
theorem e133_93 : amT 133 93 94 (.isub) 0 := r133 (len := 1) (by decide +kernel) rfl
theorem e133_94 : amT 133 94 97 (.if_icmp .le 9) 0 := r133 (len := 3) (by decide +kernel) rfl
theorem t133_94 : amTg 94 9 = some 103 := by decide
theorem e133_97 : amT 133 97 99 (.bipush 100) 0 := r133 (len := 2) (by decide +kernel) rfl
theorem e133_99 : amT 133 99 101 (.iload 7) 0 := r133 (len := 2) (by decide +kernel) rfl
theorem e133_101 : amT 133 101 102 (.iadd) 0 := r133 (len := 1) (by decide +kernel) rfl
theorem e133_102 : amT 133 102 103 (.ireturn) 0 := r133 (len := 1) (by decide +kernel) rfl
theorem e133_103 : amT 133 103 104 (.aload_n 0) 0 := r133 (len := 1) (by decide +kernel) rfl
theorem e133_104 : amT 133 104 105 (.iload_n 2) 0 := r133 (len := 1) (by decide +kernel) rfl
theorem e133_105 : amT 133 105 106 (.iload_n 3) 0 := r133 (len := 1) (by decide +kernel) rfl
theorem e133_106 : amT 133 106 107 (.iconst 4) 0 := r133 (len := 1) (by decide +kernel) rfl
theorem e133_107 : amT 133 107 109 (.iload 7) 0 := r133 (len := 2) (by decide +kernel) rfl
theorem e133_109 : amT 133 109 110 (.imul) 0 := r133 (len := 1) (by decide +kernel) rfl
theorem e133_110 : amT 133 110 111 (.iadd) 0 := r133 (len := 1) (by decide +kernel) rfl
theorem e133_111 : amT 133 111 113 (.iload 7) 0 := r133 (len := 2) (by decide +kernel) rfl
theorem e133_113 : amT 133 113 116 (.invokevirtual 290) 150 := r133 (len := 3) (by decide +kernel) rfl
theorem e133_116 : amT 133 116 119 (.ifCond .ne 6) 0 := r133 (len := 3) (by decide +kernel) rfl
theorem t133_116 : amTg 116 6 = some 122 := by decide
theorem e133_119 : amT 133 119 121 (.iload 7) 0 := r133 (len := 2) (by decide +kernel) rfl
theorem e133_121 : amT 133 121 122 (.ireturn) 0 := r133 (len := 1) (by decide +kernel) rfl
theorem e133_122 : amT 133 122 125 (.iinc 7 1) 0 := r133 (len := 3) (by decide +kernel) rfl
theorem e133_125 : amT 133 125 128 (.goto (-48)) 0 := r133 (len := 3) (by decide +kernel) rfl
theorem t133_125 : amTg 125 (-48) = some 77 := by decide
theorem e133_128 : amT 133 128 130 (.bipush (-5)) 0 := r133 (len := 2) (by decide +kernel) rfl
theorem e133_130 : amT 133 130 131 (.ireturn) 0 := r133 (len := 1) (by decide +kernel) rfl
theorem q134 : amCs.getD 134 [] = amC_134 := rfl
theorem r134 {pc pc' len op : Nat} {i : Instr} (h : amC_134.lookup pc = some (i, len, op)) (h2 : pc + len = pc') : amT 134 pc pc' i op := ⟨len, by unfold amEnt; rw [q134]; exact h, h2⟩
theorem e134_0 : amT 134 0 1 (.iload_n 1) 0 := r134 (len := 1) (by decide +kernel) rfl
theorem e134_1 : amT 134 1 2 (.iconst 1) 0 := r134 (len := 1) (by decide +kernel) rfl
theorem e134_2 : amT 134 2 5 (.if_icmp .lt 30) 0 := r134 (len := 3) (by decide +kernel) rfl
theorem t134_2 : amTg 2 30 = some 32 := by decide
theorem e134_5 : amT 134 5 6 (.iload_n 1) 0 := r134 (len := 1) (by decide +kernel) rfl
theorem e134_6 : amT 134 6 8 (.bipush 12) 0 := r134 (len := 2) (by decide +kernel) rfl
theorem e134_8 : amT 134 8 11 (.if_icmp .gt 24) 0 := r134 (len := 3) (by decide +kernel) rfl
theorem t134_8 : amTg 8 24 = some 32 := by decide
theorem e134_11 : amT 134 11 12 (.iload_n 2) 0 := r134 (len := 1) (by decide +kernel) rfl
theorem e134_12 : amT 134 12 13 (.iconst 1) 0 := r134 (len := 1) (by decide +kernel) rfl
theorem e134_13 : amT 134 13 16 (.if_icmp .lt 19) 0 := r134 (len := 3) (by decide +kernel) rfl
theorem t134_13 : amTg 13 19 = some 32 := by decide
theorem e134_16 : amT 134 16 17 (.iload_n 2) 0 := r134 (len := 1) (by decide +kernel) rfl
theorem e134_17 : amT 134 17 18 (.iconst 3) 0 := r134 (len := 1) (by decide +kernel) rfl
theorem e134_18 : amT 134 18 21 (.if_icmp .gt 14) 0 := r134 (len := 3) (by decide +kernel) rfl
theorem t134_18 : amTg 18 14 = some 32 := by decide
theorem e134_21 : amT 134 21 22 (.iload_n 3) 0 := r134 (len := 1) (by decide +kernel) rfl
theorem e134_22 : amT 134 22 23 (.iconst 1) 0 := r134 (len := 1) (by decide +kernel) rfl
theorem e134_23 : amT 134 23 26 (.if_icmp .lt 9) 0 := r134 (len := 3) (by decide +kernel) rfl
theorem t134_23 : amTg 23 9 = some 32 := by decide
theorem e134_26 : amT 134 26 27 (.iload_n 3) 0 := r134 (len := 1) (by decide +kernel) rfl
theorem e134_27 : amT 134 27 29 (.bipush 9) 0 := r134 (len := 2) (by decide +kernel) rfl
theorem e134_29 : amT 134 29 32 (.if_icmp .le 5) 0 := r134 (len := 3) (by decide +kernel) rfl
theorem t134_29 : amTg 29 5 = some 34 := by decide
theorem e134_32 : amT 134 32 33 (.iconst (-1)) 0 := r134 (len := 1) (by decide +kernel) rfl
theorem e134_33 : amT 134 33 34 (.ireturn) 0 := r134 (len := 1) (by decide +kernel) rfl
theorem e134_34 : amT 134 34 36 (.iload 4) 0 := r134 (len := 2) (by decide +kernel) rfl
theorem e134_36 : amT 134 36 38 (.istore 5) 0 := r134 (len := 2) (by decide +kernel) rfl
theorem e134_38 : amT 134 38 39 (.iconst 0) 0 := r134 (len := 1) (by decide +kernel) rfl
theorem e134_39 : amT 134 39 41 (.istore 6) 0 := r134 (len := 2) (by decide +kernel) rfl
theorem e134_41 : amT 134 41 42 (.iconst 0) 0 := r134 (len := 1) (by decide +kernel) rfl
theorem e134_42 : amT 134 42 44 (.istore 7) 0 := r134 (len := 2) (by decide +kernel) rfl
theorem e134_44 : amT 134 44 46 (.iload 7) 0 := r134 (len := 2) (by decide +kernel) rfl
theorem e134_46 : amT 134 46 47 (.iload_n 1) 0 := r134 (len := 1) (by decide +kernel) rfl
theorem e134_47 : amT 134 47 50 (.if_icmp .ge 122) 0 := r134 (len := 3) (by decide +kernel) rfl
theorem t134_47 : amTg 47 122 = some 169 := by decide
theorem e134_50 : amT 134 50 51 (.aload_n 0) 0 := r134 (len := 1) (by decide +kernel) rfl
theorem e134_51 : amT 134 51 54 (.getfield 28) 707 := r134 (len := 3) (by decide +kernel) rfl
theorem e134_54 : amT 134 54 57 (.invokevirtual 112) 7 := r134 (len := 3) (by decide +kernel) rfl
theorem e134_57 : amT 134 57 58 (.iconst 0) 0 := r134 (len := 1) (by decide +kernel) rfl
theorem e134_58 : amT 134 58 60 (.istore 8) 0 := r134 (len := 2) (by decide +kernel) rfl
theorem e134_60 : amT 134 60 62 (.iload 8) 0 := r134 (len := 2) (by decide +kernel) rfl
theorem e134_62 : amT 134 62 63 (.iload_n 2) 0 := r134 (len := 1) (by decide +kernel) rfl
theorem e134_63 : amT 134 63 66 (.if_icmp .gt 49) 0 := r134 (len := 3) (by decide +kernel) rfl
theorem t134_63 : amTg 63 49 = some 112 := by decide
theorem e134_66 : amT 134 66 68 (.iload 5) 0 := r134 (len := 2) (by decide +kernel) rfl
theorem e134_68 : amT 134 68 71 (.ldc_w 294) 0 := r134 (len := 3) (by decide +kernel) rfl
theorem e134_71 : amT 134 71 72 (.imul) 0 := r134 (len := 1) (by decide +kernel) rfl
theorem e134_72 : amT 134 72 75 (.sipush 12345) 0 := r134 (len := 3) (by decide +kernel) rfl
theorem e134_75 : amT 134 75 76 (.iadd) 0 := r134 (len := 1) (by decide +kernel) rfl
theorem e134_76 : amT 134 76 78 (.istore 5) 0 := r134 (len := 2) (by decide +kernel) rfl
theorem e134_78 : amT 134 78 79 (.aload_n 0) 0 := r134 (len := 1) (by decide +kernel) rfl
theorem e134_79 : amT 134 79 82 (.getfield 28) 707 := r134 (len := 3) (by decide +kernel) rfl
theorem e134_82 : amT 134 82 84 (.iload 8) 0 := r134 (len := 2) (by decide +kernel) rfl
theorem e134_84 : amT 134 84 86 (.iload 5) 0 := r134 (len := 2) (by decide +kernel) rfl
theorem e134_86 : amT 134 86 89 (.ldc_w 295) 1 := r134 (len := 3) (by decide +kernel) rfl
theorem e134_89 : amT 134 89 90 (.iand) 0 := r134 (len := 1) (by decide +kernel) rfl
theorem e134_90 : amT 134 90 93 (.ldc_w 296) 2 := r134 (len := 3) (by decide +kernel) rfl
theorem e134_93 : amT 134 93 94 (.idiv) 0 := r134 (len := 1) (by decide +kernel) rfl
theorem e134_94 : amT 134 94 95 (.iconst 2) 0 := r134 (len := 1) (by decide +kernel) rfl
theorem e134_95 : amT 134 95 96 (.iload_n 3) 0 := r134 (len := 1) (by decide +kernel) rfl
theorem e134_96 : amT 134 96 97 (.imul) 0 := r134 (len := 1) (by decide +kernel) rfl
theorem e134_97 : amT 134 97 98 (.iconst 1) 0 := r134 (len := 1) (by decide +kernel) rfl
theorem e134_98 : amT 134 98 99 (.iadd) 0 := r134 (len := 1) (by decide +kernel) rfl
theorem e134_99 : amT 134 99 100 (.irem) 0 := r134 (len := 1) (by decide +kernel) rfl
theorem e134_100 : amT 134 100 101 (.iload_n 3) 0 := r134 (len := 1) (by decide +kernel) rfl
theorem e134_101 : amT 134 101 102 (.isub) 0 := r134 (len := 1) (by decide +kernel) rfl
theorem e134_102 : amT 134 102 103 (.i2l) 0 := r134 (len := 1) (by decide +kernel) rfl
theorem e134_103 : amT 134 103 106 (.invokevirtual 115) 4 := r134 (len := 3) (by decide +kernel) rfl
theorem e134_106 : amT 134 106 109 (.iinc 8 1) 0 := r134 (len := 3) (by decide +kernel) rfl
theorem e134_109 : amT 134 109 112 (.goto (-49)) 0 := r134 (len := 3) (by decide +kernel) rfl
theorem t134_109 : amTg 109 (-49) = some 60 := by decide
theorem e134_112 : amT 134 112 113 (.aload_n 0) 0 := r134 (len := 1) (by decide +kernel) rfl
theorem e134_113 : amT 134 113 116 (.getfield 28) 707 := r134 (len := 3) (by decide +kernel) rfl
theorem e134_116 : amT 134 116 117 (.iload_n 2) 0 := r134 (len := 1) (by decide +kernel) rfl
theorem e134_117 : amT 134 117 120 (.invokevirtual 152) 3 := r134 (len := 3) (by decide +kernel) rfl
theorem e134_120 : amT 134 120 121 (.lconst 0) 0 := r134 (len := 1) (by decide +kernel) rfl
theorem e134_121 : amT 134 121 122 (.lcmp) 0 := r134 (len := 1) (by decide +kernel) rfl
theorem e134_122 : amT 134 122 125 (.ifCond .ne 12) 0 := r134 (len := 3) (by decide +kernel) rfl
theorem t134_122 : amTg 122 12 = some 134 := by decide
theorem e134_125 : amT 134 125 126 (.aload_n 0) 0 := r134 (len := 1) (by decide +kernel) rfl
theorem e134_126 : amT 134 126 129 (.getfield 28) 707 := r134 (len := 3) (by decide +kernel) rfl
theorem e134_129 : amT 134 129 130 (.iload_n 2) 0 := r134 (len := 1) (by decide +kernel) rfl
theorem e134_130 : amT 134 130 131 (.lconst 1) 0 := r134 (len := 1) (by decide +kernel) rfl
theorem e134_131 : amT 134 131 134 (.invokevirtual 115) 4 := r134 (len := 3) (by decide +kernel) rfl
theorem e134_134 : amT 134 134 135 (.aload_n 0) 0 := r134 (len := 1) (by decide +kernel) rfl
theorem e134_135 : amT 134 135 138 (.getfield 60) 711 := r134 (len := 3) (by decide +kernel) rfl
theorem e134_138 : amT 134 138 139 (.aload_n 0) 0 := r134 (len := 1) (by decide +kernel) rfl
theorem e134_139 : amT 134 139 142 (.getfield 28) 707 := r134 (len := 3) (by decide +kernel) rfl
theorem e134_142 : amT 134 142 145 (.invokevirtual 172) 29 := r134 (len := 3) (by decide +kernel) rfl
theorem e134_145 : amT 134 145 148 (.ifCond .ne 6) 0 := r134 (len := 3) (by decide +kernel) rfl
theorem t134_145 : amTg 145 6 = some 151 := by decide
theorem e134_148 : amT 134 148 150 (.bipush (-3)) 0 := r134 (len := 2) (by decide +kernel) rfl
theorem e134_150 : amT 134 150 151 (.ireturn) 0 := r134 (len := 1) (by decide +kernel) rfl
theorem e134_151 : amT 134 151 153 (.iload 6) 0 := r134 (len := 2) (by decide +kernel) rfl
theorem e134_153 : amT 134 153 154 (.aload_n 0) 0 := r134 (len := 1) (by decide +kernel) rfl
theorem e134_154 : amT 134 154 157 (.getfield 60) 711 := r134 (len := 3) (by decide +kernel) rfl
theorem e134_157 : amT 134 157 160 (.invokevirtual 186) 39 := r134 (len := 3) (by decide +kernel) rfl
theorem e134_160 : amT 134 160 161 (.iadd) 0 := r134 (len := 1) (by decide +kernel) rfl
theorem e134_161 : amT 134 161 163 (.istore 6) 0 := r134 (len := 2) (by decide +kernel) rfl
theorem e134_163 : amT 134 163 166 (.iinc 7 1) 0 := r134 (len := 3) (by decide +kernel) rfl
theorem e134_166 : amT 134 166 169 (.goto (-122)) 0 := r134 (len := 3) (by decide +kernel) rfl
theorem t134_166 : amTg 166 (-122) = some 44 := by decide
theorem e134_169 : amT 134 169 171 (.iload 6) 0 := r134 (len := 2) (by decide +kernel) rfl
theorem e134_171 : amT 134 171 172 (.ireturn) 0 := r134 (len := 1) (by decide +kernel) rfl
theorem q135 : amCs.getD 135 [] = amC_135 := rfl
theorem r135 {pc pc' len op : Nat} {i : Instr} (h : amC_135.lookup pc = some (i, len, op)) (h2 : pc + len = pc') : amT 135 pc pc' i op := ⟨len, by unfold amEnt; rw [q135]; exact h, h2⟩
theorem e135_0 : amT 135 0 1 (.aload_n 0) 0 := r135 (len := 1) (by decide +kernel) rfl
theorem e135_1 : amT 135 1 4 (.getfield 104) 719 := r135 (len := 3) (by decide +kernel) rfl
theorem e135_4 : amT 135 4 5 (.iload_n 1) 0 := r135 (len := 1) (by decide +kernel) rfl
theorem e135_5 : amT 135 5 8 (.invokevirtual 285) 105 := r135 (len := 3) (by decide +kernel) rfl
theorem e135_8 : amT 135 8 11 (.ifCond .eq 9) 0 := r135 (len := 3) (by decide +kernel) rfl
theorem t135_8 : amTg 8 9 = some 17 := by decide
theorem e135_11 : amT 135 11 12 (.iload_n 2) 0 := r135 (len := 1) (by decide +kernel) rfl
theorem e135_12 : amT 135 12 14 (.bipush 24) 0 := r135 (len := 2) (by decide +kernel) rfl
theorem e135_14 : amT 135 14 17 (.if_icmp .le 5) 0 := r135 (len := 3) (by decide +kernel) rfl
theorem t135_14 : amTg 14 5 = some 19 := by decide
theorem e135_17 : amT 135 17 18 (.iconst (-1)) 0 := r135 (len := 1) (by decide +kernel) rfl
theorem e135_18 : amT 135 18 19 (.ireturn) 0 := r135 (len := 1) (by decide +kernel) rfl
theorem e135_19 : amT 135 19 20 (.iload_n 2) 0 := r135 (len := 1) (by decide +kernel) rfl
theorem e135_20 : amT 135 20 23 (.ifCond .ge 6) 0 := r135 (len := 3) (by decide +kernel) rfl
theorem t135_20 : amTg 20 6 = some 26 := by decide
theorem e135_23 : amT 135 23 25 (.bipush (-14)) 0 := r135 (len := 2) (by decide +kernel) rfl
theorem e135_25 : amT 135 25 26 (.ireturn) 0 := r135 (len := 1) (by decide +kernel) rfl
theorem e135_26 : amT 135 26 27 (.aload_n 0) 0 := r135 (len := 1) (by decide +kernel) rfl
theorem e135_27 : amT 135 27 30 (.getfield 104) 719 := r135 (len := 3) (by decide +kernel) rfl
theorem e135_30 : amT 135 30 31 (.iload_n 1) 0 := r135 (len := 1) (by decide +kernel) rfl
theorem e135_31 : amT 135 31 32 (.iload_n 2) 0 := r135 (len := 1) (by decide +kernel) rfl
theorem e135_32 : amT 135 32 35 (.invokevirtual 297) 107 := r135 (len := 3) (by decide +kernel) rfl
theorem e135_35 : amT 135 35 36 (.iconst 1) 0 := r135 (len := 1) (by decide +kernel) rfl
theorem e135_36 : amT 135 36 37 (.ireturn) 0 := r135 (len := 1) (by decide +kernel) rfl
theorem q136 : amCs.getD 136 [] = amC_136 := rfl
theorem r136 {pc pc' len op : Nat} {i : Instr} (h : amC_136.lookup pc = some (i, len, op)) (h2 : pc + len = pc') : amT 136 pc pc' i op := ⟨len, by unfold amEnt; rw [q136]; exact h, h2⟩
theorem e136_0 : amT 136 0 1 (.aload_n 0) 0 := r136 (len := 1) (by decide +kernel) rfl
theorem e136_1 : amT 136 1 4 (.getfield 104) 719 := r136 (len := 3) (by decide +kernel) rfl
theorem e136_4 : amT 136 4 5 (.iload_n 1) 0 := r136 (len := 1) (by decide +kernel) rfl
theorem e136_5 : amT 136 5 8 (.invokevirtual 285) 105 := r136 (len := 3) (by decide +kernel) rfl
theorem e136_8 : amT 136 8 11 (.ifCond .ne 5) 0 := r136 (len := 3) (by decide +kernel) rfl
theorem t136_8 : amTg 8 5 = some 13 := by decide
theorem e136_11 : amT 136 11 12 (.iconst (-1)) 0 := r136 (len := 1) (by decide +kernel) rfl
theorem e136_12 : amT 136 12 13 (.ireturn) 0 := r136 (len := 1) (by decide +kernel) rfl
theorem e136_13 : amT 136 13 14 (.aload_n 0) 0 := r136 (len := 1) (by decide +kernel) rfl
theorem e136_14 : amT 136 14 17 (.getfield 104) 719 := r136 (len := 3) (by decide +kernel) rfl
theorem e136_17 : amT 136 17 18 (.iload_n 1) 0 := r136 (len := 1) (by decide +kernel) rfl
theorem e136_18 : amT 136 18 21 (.invokevirtual 288) 106 := r136 (len := 3) (by decide +kernel) rfl
theorem e136_21 : amT 136 21 23 (.istore 4) 0 := r136 (len := 2) (by decide +kernel) rfl
theorem e136_23 : amT 136 23 25 (.iload 4) 0 := r136 (len := 2) (by decide +kernel) rfl
theorem e136_25 : amT 136 25 28 (.ifCond .ge 6) 0 := r136 (len := 3) (by decide +kernel) rfl
theorem t136_25 : amTg 25 6 = some 31 := by decide
theorem e136_28 : amT 136 28 30 (.bipush (-11)) 0 := r136 (len := 2) (by decide +kernel) rfl
theorem e136_30 : amT 136 30 31 (.ireturn) 0 := r136 (len := 1) (by decide +kernel) rfl
theorem e136_31 : amT 136 31 32 (.iload_n 2) 0 := r136 (len := 1) (by decide +kernel) rfl
theorem e136_32 : amT 136 32 35 (.ifCond .lt 9) 0 := r136 (len := 3) (by decide +kernel) rfl
theorem t136_32 : amTg 32 9 = some 41 := by decide
theorem e136_35 : amT 136 35 36 (.iload_n 2) 0 := r136 (len := 1) (by decide +kernel) rfl
theorem e136_36 : amT 136 36 38 (.iload 4) 0 := r136 (len := 2) (by decide +kernel) rfl
theorem e136_38 : amT 136 38 41 (.if_icmp .lt 6) 0 := r136 (len := 3) (by decide +kernel) rfl
theorem t136_38 : amTg 38 6 = some 44 := by decide
theorem e136_41 : amT 136 41 43 (.bipush (-13)) 0 := r136 (len := 2) (by decide +kernel) rfl
theorem e136_43 : amT 136 43 44 (.ireturn) 0 := r136 (len := 1) (by decide +kernel) rfl
theorem e136_44 : amT 136 44 45 (.aload_n 0) 0 := r136 (len := 1) (by decide +kernel) rfl
theorem e136_45 : amT 136 45 48 (.getfield 104) 719 := r136 (len := 3) (by decide +kernel) rfl
theorem e136_48 : amT 136 48 49 (.iload_n 1) 0 := r136 (len := 1) (by decide +kernel) rfl
theorem e136_49 : amT 136 49 50 (.iload_n 2) 0 := r136 (len := 1) (by decide +kernel) rfl
theorem e136_50 : amT 136 50 51 (.iload_n 3) 0 := r136 (len := 1) (by decide +kernel) rfl
theorem e136_51 : amT 136 51 54 (.invokevirtual 301) 109 := r136 (len := 3) (by decide +kernel) rfl
theorem e136_54 : amT 136 54 55 (.iconst 1) 0 := r136 (len := 1) (by decide +kernel) rfl
theorem e136_55 : amT 136 55 56 (.ireturn) 0 := r136 (len := 1) (by decide +kernel) rfl
theorem q137 : amCs.getD 137 [] = amC_137 := rfl
theorem r137 {pc pc' len op : Nat} {i : Instr} (h : amC_137.lookup pc = some (i, len, op)) (h2 : pc + len = pc') : amT 137 pc pc' i op := ⟨len, by unfold amEnt; rw [q137]; exact h, h2⟩
theorem e137_0 : amT 137 0 1 (.aload_n 0) 0 := r137 (len := 1) (by decide +kernel) rfl
theorem e137_1 : amT 137 1 4 (.getfield 104) 719 := r137 (len := 3) (by decide +kernel) rfl
theorem e137_4 : amT 137 4 5 (.iload_n 1) 0 := r137 (len := 1) (by decide +kernel) rfl
theorem e137_5 : amT 137 5 8 (.invokevirtual 285) 105 := r137 (len := 3) (by decide +kernel) rfl
theorem e137_8 : amT 137 8 11 (.ifCond .eq 19) 0 := r137 (len := 3) (by decide +kernel) rfl
theorem t137_8 : amTg 8 19 = some 27 := by decide
theorem e137_11 : amT 137 11 12 (.iload_n 2) 0 := r137 (len := 1) (by decide +kernel) rfl
theorem e137_12 : amT 137 12 15 (.ifCond .lt 15) 0 := r137 (len := 3) (by decide +kernel) rfl
theorem t137_12 : amTg 12 15 = some 27 := by decide
theorem e137_15 : amT 137 15 16 (.iload_n 2) 0 := r137 (len := 1) (by decide +kernel) rfl
theorem e137_16 : amT 137 16 17 (.aload_n 0) 0 := r137 (len := 1) (by decide +kernel) rfl
theorem e137_17 : amT 137 17 20 (.getfield 104) 719 := r137 (len := 3) (by decide +kernel) rfl
theorem e137_20 : amT 137 20 21 (.iload_n 1) 0 := r137 (len := 1) (by decide +kernel) rfl
theorem e137_21 : amT 137 21 24 (.invokevirtual 288) 106 := r137 (len := 3) (by decide +kernel) rfl
theorem e137_24 : amT 137 24 27 (.if_icmp .lt 7) 0 := r137 (len := 3) (by decide +kernel) rfl
theorem t137_24 : amTg 24 7 = some 31 := by decide
theorem e137_27 : amT 137 27 30 (.ldc2_w 150) 4 := r137 (len := 3) (by decide +kernel) rfl
theorem e137_30 : amT 137 30 31 (.lreturn) 0 := r137 (len := 1) (by decide +kernel) rfl
theorem e137_31 : amT 137 31 32 (.aload_n 0) 0 := r137 (len := 1) (by decide +kernel) rfl
theorem e137_32 : amT 137 32 35 (.getfield 104) 719 := r137 (len := 3) (by decide +kernel) rfl
theorem e137_35 : amT 137 35 36 (.iload_n 1) 0 := r137 (len := 1) (by decide +kernel) rfl
theorem e137_36 : amT 137 36 37 (.iload_n 2) 0 := r137 (len := 1) (by decide +kernel) rfl
theorem e137_37 : amT 137 37 40 (.invokevirtual 304) 108 := r137 (len := 3) (by decide +kernel) rfl
theorem e137_40 : amT 137 40 41 (.i2l) 0 := r137 (len := 1) (by decide +kernel) rfl
theorem e137_41 : amT 137 41 42 (.lreturn) 0 := r137 (len := 1) (by decide +kernel) rfl
theorem q138 : amCs.getD 138 [] = amC_138 := rfl
theorem r138 {pc pc' len op : Nat} {i : Instr} (h : amC_138.lookup pc = some (i, len, op)) (h2 : pc + len = pc') : amT 138 pc pc' i op := ⟨len, by unfold amEnt; rw [q138]; exact h, h2⟩
theorem e138_0 : amT 138 0 1 (.aload_n 0) 0 := r138 (len := 1) (by decide +kernel) rfl
theorem e138_1 : amT 138 1 4 (.getfield 12) 704 := r138 (len := 3) (by decide +kernel) rfl
theorem e138_4 : amT 138 4 5 (.iload_n 1) 0 := r138 (len := 1) (by decide +kernel) rfl
theorem e138_5 : amT 138 5 8 (.invokevirtual 123) 55 := r138 (len := 3) (by decide +kernel) rfl
theorem e138_8 : amT 138 8 10 (.astore 4) 0 := r138 (len := 2) (by decide +kernel) rfl
theorem e138_10 : amT 138 10 12 (.aload 4) 0 := r138 (len := 2) (by decide +kernel) rfl
theorem e138_12 : amT 138 12 15 (.ifnull 14) 0 := r138 (len := 3) (by decide +kernel) rfl
theorem t138_12 : amTg 12 14 = some 26 := by decide
theorem e138_15 : amT 138 15 16 (.aload_n 0) 0 := r138 (len := 1) (by decide +kernel) rfl
theorem e138_16 : amT 138 16 19 (.getfield 104) 719 := r138 (len := 3) (by decide +kernel) rfl
theorem e138_19 : amT 138 19 20 (.iload_n 2) 0 := r138 (len := 1) (by decide +kernel) rfl
theorem e138_20 : amT 138 20 23 (.invokevirtual 285) 105 := r138 (len := 3) (by decide +kernel) rfl
theorem e138_23 : amT 138 23 26 (.ifCond .ne 5) 0 := r138 (len := 3) (by decide +kernel) rfl
theorem t138_23 : amTg 23 5 = some 28 := by decide
theorem e138_26 : amT 138 26 27 (.iconst (-1)) 0 := r138 (len := 1) (by decide +kernel) rfl
theorem e138_27 : amT 138 27 28 (.ireturn) 0 := r138 (len := 1) (by decide +kernel) rfl
theorem e138_28 : amT 138 28 29 (.aload_n 0) 0 := r138 (len := 1) (by decide +kernel) rfl
theorem e138_29 : amT 138 29 32 (.getfield 104) 719 := r138 (len := 3) (by decide +kernel) rfl
theorem e138_32 : amT 138 32 33 (.iload_n 2) 0 := r138 (len := 1) (by decide +kernel) rfl
theorem e138_33 : amT 138 33 36 (.invokevirtual 288) 106 := r138 (len := 3) (by decide +kernel) rfl
theorem e138_36 : amT 138 36 38 (.istore 5) 0 := r138 (len := 2) (by decide +kernel) rfl
theorem e138_38 : amT 138 38 40 (.iload 5) 0 := r138 (len := 2) (by decide +kernel) rfl
theorem e138_40 : amT 138 40 43 (.ifCond .ge 6) 0 := r138 (len := 3) (by decide +kernel) rfl
theorem t138_40 : amTg 40 6 = some 46 := by decide
theorem e138_43 : amT 138 43 45 (.bipush (-11)) 0 := r138 (len := 2) (by decide +kernel) rfl
theorem e138_45 : amT 138 45 46 (.ireturn) 0 := r138 (len := 1) (by decide +kernel) rfl
theorem e138_46 : amT 138 46 47 (.iload_n 3) 0 := r138 (len := 1) (by decide +kernel) rfl
theorem e138_47 : amT 138 47 50 (.ifCond .ge 6) 0 := r138 (len := 3) (by decide +kernel) rfl
theorem t138_47 : amTg 47 6 = some 53 := by decide
theorem e138_50 : amT 138 50 52 (.bipush (-13)) 0 := r138 (len := 2) (by decide +kernel) rfl
theorem e138_52 : amT 138 52 53 (.ireturn) 0 := r138 (len := 1) (by decide +kernel) rfl
theorem e138_53 : amT 138 53 54 (.iconst 0) 0 := r138 (len := 1) (by decide +kernel) rfl
theorem e138_54 : amT 138 54 56 (.istore 6) 0 := r138 (len := 2) (by decide +kernel) rfl
theorem e138_56 : amT 138 56 57 (.iconst 0) 0 := r138 (len := 1) (by decide +kernel) rfl
theorem e138_57 : amT 138 57 59 (.istore 7) 0 := r138 (len := 2) (by decide +kernel) rfl
theorem e138_59 : amT 138 59 61 (.iload 7) 0 := r138 (len := 2) (by decide +kernel) rfl
theorem e138_61 : amT 138 61 62 (.iconst 4) 0 := r138 (len := 1) (by decide +kernel) rfl
theorem e138_62 : amT 138 62 65 (.if_icmp .gt 41) 0 := r138 (len := 3) (by decide +kernel) rfl
theorem t138_62 : amTg 62 41 = some 103 := by decide
theorem e138_65 : amT 138 65 66 (.iload_n 3) 0 := r138 (len := 1) (by decide +kernel) rfl
theorem e138_66 : amT 138 66 68 (.iload 5) 0 := r138 (len := 2) (by decide +kernel) rfl
theorem e138_68 : amT 138 68 70 (.iload 7) 0 := r138 (len := 2) (by decide +kernel) rfl
theorem e138_70 : amT 138 70 71 (.isub) 0 := r138 (len := 1) (by decide +kernel) rfl
theorem e138_71 : amT 138 71 74 (.if_icmp .ge 32) 0 := r138 (len := 3) (by decide +kernel) rfl
theorem t138_71 : amTg 71 32 = some 103 := by decide
theorem e138_74 : amT 138 74 75 (.aload_n 0) 0 := r138 (len := 1) (by decide +kernel) rfl
theorem e138_75 : amT 138 75 78 (.getfield 104) 719 := r138 (len := 3) (by decide +kernel) rfl
theorem e138_78 : amT 138 78 79 (.iload_n 2) 0 := r138 (len := 1) (by decide +kernel) rfl
theorem e138_79 : amT 138 79 80 (.iload_n 3) 0 := r138 (len := 1) (by decide +kernel) rfl
theorem e138_80 : amT 138 80 82 (.iload 7) 0 := r138 (len := 2) (by decide +kernel) rfl
theorem e138_82 : amT 138 82 83 (.iadd) 0 := r138 (len := 1) (by decide +kernel) rfl
theorem e138_83 : amT 138 83 85 (.aload 4) 0 := r138 (len := 2) (by decide +kernel) rfl
theorem e138_85 : amT 138 85 87 (.iload 7) 0 := r138 (len := 2) (by decide +kernel) rfl
theorem e138_87 : amT 138 87 90 (.invokevirtual 152) 3 := r138 (len := 3) (by decide +kernel) rfl
theorem e138_90 : amT 138 90 91 (.l2i) 0 := r138 (len := 1) (by decide +kernel) rfl
theorem e138_91 : amT 138 91 94 (.invokevirtual 301) 109 := r138 (len := 3) (by decide +kernel) rfl
theorem e138_94 : amT 138 94 97 (.iinc 6 1) 0 := r138 (len := 3) (by decide +kernel) rfl
theorem e138_97 : amT 138 97 100 (.iinc 7 1) 0 := r138 (len := 3) (by decide +kernel) rfl
theorem e138_100 : amT 138 100 103 (.goto (-41)) 0 := r138 (len := 3) (by decide +kernel) rfl
theorem t138_100 : amTg 100 (-41) = some 59 := by decide
theorem e138_103 : amT 138 103 105 (.iload 6) 0 := r138 (len := 2) (by decide +kernel) rfl
theorem e138_105 : amT 138 105 106 (.ireturn) 0 := r138 (len := 1) (by decide +kernel) rfl
theorem q139 : amCs.getD 139 [] = amC_139 := rfl
theorem r139 {pc pc' len op : Nat} {i : Instr} (h : amC_139.lookup pc = some (i, len, op)) (h2 : pc + len = pc') : amT 139 pc pc' i op := ⟨len, by unfold amEnt; rw [q139]; exact h, h2⟩
theorem e139_0 : amT 139 0 1 (.aload_n 0) 0 := r139 (len := 1) (by decide +kernel) rfl
theorem e139_1 : amT 139 1 4 (.getfield 18) 705 := r139 (len := 3) (by decide +kernel) rfl
theorem e139_4 : amT 139 4 5 (.aload_n 0) 0 := r139 (len := 1) (by decide +kernel) rfl
theorem e139_5 : amT 139 5 8 (.getfield 12) 704 := r139 (len := 3) (by decide +kernel) rfl
theorem e139_8 : amT 139 8 11 (.invokevirtual 306) 59 := r139 (len := 3) (by decide +kernel) rfl
theorem e139_11 : amT 139 11 12 (.aload_n 0) 0 := r139 (len := 1) (by decide +kernel) rfl
theorem e139_12 : amT 139 12 13 (.iconst 1) 0 := r139 (len := 1) (by decide +kernel) rfl
theorem e139_13 : amT 139 13 16 (.putfield 21) 706 := r139 (len := 3) (by decide +kernel) rfl
theorem e139_16 : amT 139 16 17 (.aload_n 0) 0 := r139 (len := 1) (by decide +kernel) rfl
theorem e139_17 : amT 139 17 20 (.getfield 18) 705 := r139 (len := 3) (by decide +kernel) rfl
theorem e139_20 : amT 139 20 23 (.invokevirtual 142) 53 := r139 (len := 3) (by decide +kernel) rfl
theorem e139_23 : amT 139 23 24 (.ireturn) 0 := r139 (len := 1) (by decide +kernel) rfl
theorem q140 : amCs.getD 140 [] = amC_140 := rfl
theorem r140 {pc pc' len op : Nat} {i : Instr} (h : amC_140.lookup pc = some (i, len, op)) (h2 : pc + len = pc') : amT 140 pc pc' i op := ⟨len, by unfold amEnt; rw [q140]; exact h, h2⟩
theorem e140_0 : amT 140 0 1 (.aload_n 0) 0 := r140 (len := 1) (by decide +kernel) rfl
theorem e140_1 : amT 140 1 4 (.getfield 21) 706 := r140 (len := 3) (by decide +kernel) rfl
theorem e140_4 : amT 140 4 7 (.ifCond .ne 6) 0 := r140 (len := 3) (by decide +kernel) rfl
theorem t140_4 : amTg 4 6 = some 10 := by decide
theorem e140_7 : amT 140 7 9 (.bipush (-6)) 0 := r140 (len := 2) (by decide +kernel) rfl
theorem e140_9 : amT 140 9 10 (.ireturn) 0 := r140 (len := 1) (by decide +kernel) rfl
theorem e140_10 : amT 140 10 11 (.aload_n 0) 0 := r140 (len := 1) (by decide +kernel) rfl
theorem e140_11 : amT 140 11 14 (.getfield 12) 704 := r140 (len := 3) (by decide +kernel) rfl
theorem e140_14 : amT 140 14 15 (.aload_n 0) 0 := r140 (len := 1) (by decide +kernel) rfl
theorem e140_15 : amT 140 15 18 (.getfield 18) 705 := r140 (len := 3) (by decide +kernel) rfl
theorem e140_18 : amT 140 18 21 (.invokevirtual 306) 59 := r140 (len := 3) (by decide +kernel) rfl
theorem e140_21 : amT 140 21 22 (.aload_n 0) 0 := r140 (len := 1) (by decide +kernel) rfl
theorem e140_22 : amT 140 22 25 (.getfield 12) 704 := r140 (len := 3) (by decide +kernel) rfl
theorem e140_25 : amT 140 25 28 (.invokevirtual 142) 53 := r140 (len := 3) (by decide +kernel) rfl
theorem e140_28 : amT 140 28 29 (.ireturn) 0 := r140 (len := 1) (by decide +kernel) rfl
theorem q141 : amCs.getD 141 [] = amC_141 := rfl
theorem r141 {pc pc' len op : Nat} {i : Instr} (h : amC_141.lookup pc = some (i, len, op)) (h2 : pc + len = pc') : amT 141 pc pc' i op := ⟨len, by unfold amEnt; rw [q141]; exact h, h2⟩
theorem e141_0 : amT 141 0 1 (.iload_n 1) 0 := r141 (len := 1) (by decide +kernel) rfl
theorem e141_1 : amT 141 1 28 (.tableswitch 51 0 2 #[27, 35, 43]) 0 := r141 (len := 27) (by decide +kernel) rfl
theorem t141_1_51 : amTg 1 51 = some 52 := by decide
theorem t141_1_35 : amTg 1 35 = some 36 := by decide
theorem t141_1_27 : amTg 1 27 = some 28 := by decide
theorem t141_1_43 : amTg 1 43 = some 44 := by decide
theorem e141_28 : amT 141 28 29 (.aload_n 0) 0 := r141 (len := 1) (by decide +kernel) rfl
theorem e141_29 : amT 141 29 32 (.getfield 12) 704 := r141 (len := 3) (by decide +kernel) rfl
theorem e141_32 : amT 141 32 35 (.invokevirtual 142) 53 := r141 (len := 3) (by decide +kernel) rfl
theorem e141_35 : amT 141 35 36 (.ireturn) 0 := r141 (len := 1) (by decide +kernel) rfl
theorem e141_36 : amT 141 36 37 (.aload_n 0) 0 := r141 (len := 1) (by decide +kernel) rfl
theorem e141_37 : amT 141 37 40 (.getfield 90) 717 := r141 (len := 3) (by decide +kernel) rfl
theorem e141_40 : amT 141 40 43 (.invokevirtual 256) 80 := r141 (len := 3) (by decide +kernel) rfl
theorem e141_43 : amT 141 43 44 (.ireturn) 0 := r141 (len := 1) (by decide +kernel) rfl
theorem e141_44 : amT 141 44 45 (.aload_n 0) 0 := r141 (len := 1) (by decide +kernel) rfl
theorem e141_45 : amT 141 45 48 (.getfield 97) 718 := r141 (len := 3) (by decide +kernel) rfl
theorem e141_48 : amT 141 48 51 (.invokevirtual 282) 98 := r141 (len := 3) (by decide +kernel) rfl
theorem e141_51 : amT 141 51 52 (.ireturn) 0 := r141 (len := 1) (by decide +kernel) rfl
theorem e141_52 : amT 141 52 53 (.iconst (-1)) 0 := r141 (len := 1) (by decide +kernel) rfl
theorem e141_53 : amT 141 53 54 (.ireturn) 0 := r141 (len := 1) (by decide +kernel) rfl
theorem q142 : amCs.getD 142 [] = amC_142 := rfl
theorem r142 {pc pc' len op : Nat} {i : Instr} (h : amC_142.lookup pc = some (i, len, op)) (h2 : pc + len = pc') : amT 142 pc pc' i op := ⟨len, by unfold amEnt; rw [q142]; exact h, h2⟩
theorem e142_0 : amT 142 0 1 (.aload_n 0) 0 := r142 (len := 1) (by decide +kernel) rfl
theorem e142_1 : amT 142 1 4 (.getfield 12) 704 := r142 (len := 3) (by decide +kernel) rfl
theorem e142_4 : amT 142 4 7 (.invokevirtual 131) 54 := r142 (len := 3) (by decide +kernel) rfl
theorem e142_7 : amT 142 7 10 (.ifCond .eq 6) 0 := r142 (len := 3) (by decide +kernel) rfl
theorem t142_7 : amTg 7 6 = some 13 := by decide
theorem e142_10 : amT 142 10 12 (.bipush (-3)) 0 := r142 (len := 2) (by decide +kernel) rfl
theorem e142_12 : amT 142 12 13 (.ireturn) 0 := r142 (len := 1) (by decide +kernel) rfl
theorem e142_13 : amT 142 13 14 (.aload_n 1) 0 := r142 (len := 1) (by decide +kernel) rfl
theorem e142_14 : amT 142 14 17 (.invokevirtual 156) 5 := r142 (len := 3) (by decide +kernel) rfl
theorem e142_17 : amT 142 17 18 (.istore_n 2) 0 := r142 (len := 1) (by decide +kernel) rfl
theorem e142_18 : amT 142 18 19 (.iload_n 2) 0 := r142 (len := 1) (by decide +kernel) rfl
theorem e142_19 : amT 142 19 22 (.ifCond .ge 6) 0 := r142 (len := 3) (by decide +kernel) rfl
theorem t142_19 : amTg 19 6 = some 25 := by decide
theorem e142_22 : amT 142 22 24 (.bipush (-2)) 0 := r142 (len := 2) (by decide +kernel) rfl
theorem e142_24 : amT 142 24 25 (.ireturn) 0 := r142 (len := 1) (by decide +kernel) rfl
theorem e142_25 : amT 142 25 26 (.iload_n 2) 0 := r142 (len := 1) (by decide +kernel) rfl
theorem e142_26 : amT 142 26 27 (.iconst 4) 0 := r142 (len := 1) (by decide +kernel) rfl
theorem e142_27 : amT 142 27 30 (.if_icmp .gt 14) 0 := r142 (len := 3) (by decide +kernel) rfl
theorem t142_27 : amTg 27 14 = some 41 := by decide
theorem e142_30 : amT 142 30 31 (.aload_n 1) 0 := r142 (len := 1) (by decide +kernel) rfl
theorem e142_31 : amT 142 31 34 (.invokevirtual 310) 10 := r142 (len := 3) (by decide +kernel) rfl
theorem e142_34 : amT 142 34 37 (.ldc2_w 314) 5 := r142 (len := 3) (by decide +kernel) rfl
theorem e142_37 : amT 142 37 38 (.lcmp) 0 := r142 (len := 1) (by decide +kernel) rfl
theorem e142_38 : amT 142 38 41 (.ifCond .le 6) 0 := r142 (len := 3) (by decide +kernel) rfl
theorem t142_38 : amTg 38 6 = some 44 := by decide
theorem e142_41 : amT 142 41 43 (.bipush (-3)) 0 := r142 (len := 2) (by decide +kernel) rfl
theorem e142_43 : amT 142 43 44 (.ireturn) 0 := r142 (len := 1) (by decide +kernel) rfl
theorem e142_44 : amT 142 44 45 (.aload_n 0) 0 := r142 (len := 1) (by decide +kernel) rfl
theorem e142_45 : amT 142 45 48 (.getfield 12) 704 := r142 (len := 3) (by decide +kernel) rfl
theorem e142_48 : amT 142 48 49 (.aload_n 1) 0 := r142 (len := 1) (by decide +kernel) rfl
theorem e142_49 : amT 142 49 52 (.invokevirtual 316) 56 := r142 (len := 3) (by decide +kernel) rfl
theorem e142_52 : amT 142 52 53 (.ireturn) 0 := r142 (len := 1) (by decide +kernel) rfl
theorem q143 : amCs.getD 143 [] = amC_143 := rfl
theorem r143 {pc pc' len op : Nat} {i : Instr} (h : amC_143.lookup pc = some (i, len, op)) (h2 : pc + len = pc') : amT 143 pc pc' i op := ⟨len, by unfold amEnt; rw [q143]; exact h, h2⟩
theorem e143_0 : amT 143 0 1 (.iload_n 1) 0 := r143 (len := 1) (by decide +kernel) rfl
theorem e143_1 : amT 143 1 4 (.invokestatic 135) 144 := r143 (len := 3) (by decide +kernel) rfl
theorem e143_4 : amT 143 4 7 (.ifCond .eq 20) 0 := r143 (len := 3) (by decide +kernel) rfl
theorem t143_4 : amTg 4 20 = some 24 := by decide
theorem e143_7 : amT 143 7 8 (.aload_n 0) 0 := r143 (len := 1) (by decide +kernel) rfl
theorem e143_8 : amT 143 8 11 (.getfield 12) 704 := r143 (len := 3) (by decide +kernel) rfl
theorem e143_11 : amT 143 11 12 (.iload_n 2) 0 := r143 (len := 1) (by decide +kernel) rfl
theorem e143_12 : amT 143 12 15 (.invokevirtual 123) 55 := r143 (len := 3) (by decide +kernel) rfl
theorem e143_15 : amT 143 15 18 (.ifnonnull 7) 0 := r143 (len := 3) (by decide +kernel) rfl
theorem t143_15 : amTg 15 7 = some 22 := by decide
theorem e143_18 : amT 143 18 19 (.iconst 1) 0 := r143 (len := 1) (by decide +kernel) rfl
theorem e143_19 : amT 143 19 22 (.goto 4) 0 := r143 (len := 3) (by decide +kernel) rfl
theorem t143_19 : amTg 19 4 = some 23 := by decide
theorem e143_22 : amT 143 22 23 (.iconst 0) 0 := r143 (len := 1) (by decide +kernel) rfl
theorem e143_23 : amT 143 23 24 (.ireturn) 0 := r143 (len := 1) (by decide +kernel) rfl
theorem e143_24 : amT 143 24 25 (.iload_n 1) 0 := r143 (len := 1) (by decide +kernel) rfl
theorem e143_25 : amT 143 25 27 (.bipush 6) 0 := r143 (len := 2) (by decide +kernel) rfl
theorem e143_27 : amT 143 27 30 (.if_icmp .eq 9) 0 := r143 (len := 3) (by decide +kernel) rfl
theorem t143_27 : amTg 27 9 = some 36 := by decide
theorem e143_30 : amT 143 30 31 (.iload_n 1) 0 := r143 (len := 1) (by decide +kernel) rfl
theorem e143_31 : amT 143 31 33 (.bipush 7) 0 := r143 (len := 2) (by decide +kernel) rfl
theorem e143_33 : amT 143 33 36 (.if_icmp .ne 21) 0 := r143 (len := 3) (by decide +kernel) rfl
theorem t143_33 : amTg 33 21 = some 54 := by decide
theorem e143_36 : amT 143 36 37 (.iload_n 2) 0 := r143 (len := 1) (by decide +kernel) rfl
theorem e143_37 : amT 143 37 39 (.bipush (-9)) 0 := r143 (len := 2) (by decide +kernel) rfl
theorem e143_39 : amT 143 39 42 (.if_icmp .lt 9) 0 := r143 (len := 3) (by decide +kernel) rfl
theorem t143_39 : amTg 39 9 = some 48 := by decide
theorem e143_42 : amT 143 42 43 (.iload_n 2) 0 := r143 (len := 1) (by decide +kernel) rfl
theorem e143_43 : amT 143 43 45 (.bipush 9) 0 := r143 (len := 2) (by decide +kernel) rfl
theorem e143_45 : amT 143 45 48 (.if_icmp .le 7) 0 := r143 (len := 3) (by decide +kernel) rfl
theorem t143_45 : amTg 45 7 = some 52 := by decide
theorem e143_48 : amT 143 48 49 (.iconst 1) 0 := r143 (len := 1) (by decide +kernel) rfl
theorem e143_49 : amT 143 49 52 (.goto 4) 0 := r143 (len := 3) (by decide +kernel) rfl
theorem t143_49 : amTg 49 4 = some 53 := by decide
theorem e143_52 : amT 143 52 53 (.iconst 0) 0 := r143 (len := 1) (by decide +kernel) rfl
theorem e143_53 : amT 143 53 54 (.ireturn) 0 := r143 (len := 1) (by decide +kernel) rfl
theorem e143_54 : amT 143 54 55 (.iload_n 1) 0 := r143 (len := 1) (by decide +kernel) rfl
theorem e143_55 : amT 143 55 57 (.bipush 11) 0 := r143 (len := 2) (by decide +kernel) rfl
theorem e143_57 : amT 143 57 60 (.if_icmp .ne 17) 0 := r143 (len := 3) (by decide +kernel) rfl
theorem t143_57 : amTg 57 17 = some 74 := by decide
theorem e143_60 : amT 143 60 61 (.iload_n 2) 0 := r143 (len := 1) (by decide +kernel) rfl
theorem e143_61 : amT 143 61 62 (.iconst 1) 0 := r143 (len := 1) (by decide +kernel) rfl
theorem e143_62 : amT 143 62 65 (.if_icmp .lt 8) 0 := r143 (len := 3) (by decide +kernel) rfl
theorem t143_62 : amTg 62 8 = some 70 := by decide
theorem e143_65 : amT 143 65 66 (.iload_n 2) 0 := r143 (len := 1) (by decide +kernel) rfl
theorem e143_66 : amT 143 66 67 (.iconst 4) 0 := r143 (len := 1) (by decide +kernel) rfl
theorem e143_67 : amT 143 67 70 (.if_icmp .le 7) 0 := r143 (len := 3) (by decide +kernel) rfl
theorem t143_67 : amTg 67 7 = some 74 := by decide
theorem e143_70 : amT 143 70 71 (.iconst 1) 0 := r143 (len := 1) (by decide +kernel) rfl
theorem e143_71 : amT 143 71 74 (.goto 4) 0 := r143 (len := 3) (by decide +kernel) rfl
theorem t143_71 : amTg 71 4 = some 75 := by decide
theorem e143_74 : amT 143 74 75 (.iconst 0) 0 := r143 (len := 1) (by decide +kernel) rfl
theorem e143_75 : amT 143 75 76 (.ireturn) 0 := r143 (len := 1) (by decide +kernel) rfl
theorem q144 : amCs.getD 144 [] = amC_144 := rfl
theorem r144 {pc pc' len op : Nat} {i : Instr} (h : amC_144.lookup pc = some (i, len, op)) (h2 : pc + len = pc') : amT 144 pc pc' i op := ⟨len, by unfold amEnt; rw [q144]; exact h, h2⟩
theorem e144_0 : amT 144 0 1 (.iload_n 0) 0 := r144 (len := 1) (by decide +kernel) rfl
theorem e144_1 : amT 144 1 4 (.ifCond .eq 24) 0 := r144 (len := 3) (by decide +kernel) rfl
theorem t144_1 : amTg 1 24 = some 25 := by decide
theorem e144_4 : amT 144 4 5 (.iload_n 0) 0 := r144 (len := 1) (by decide +kernel) rfl
theorem e144_5 : amT 144 5 6 (.iconst 1) 0 := r144 (len := 1) (by decide +kernel) rfl
theorem e144_6 : amT 144 6 9 (.if_icmp .eq 19) 0 := r144 (len := 3) (by decide +kernel) rfl
theorem t144_6 : amTg 6 19 = some 25 := by decide
theorem e144_9 : amT 144 9 10 (.iload_n 0) 0 := r144 (len := 1) (by decide +kernel) rfl
theorem e144_10 : amT 144 10 11 (.iconst 2) 0 := r144 (len := 1) (by decide +kernel) rfl
theorem e144_11 : amT 144 11 14 (.if_icmp .eq 14) 0 := r144 (len := 3) (by decide +kernel) rfl
theorem t144_11 : amTg 11 14 = some 25 := by decide
theorem e144_14 : amT 144 14 15 (.iload_n 0) 0 := r144 (len := 1) (by decide +kernel) rfl
theorem e144_15 : amT 144 15 16 (.iconst 3) 0 := r144 (len := 1) (by decide +kernel) rfl
theorem e144_16 : amT 144 16 19 (.if_icmp .eq 9) 0 := r144 (len := 3) (by decide +kernel) rfl
theorem t144_16 : amTg 16 9 = some 25 := by decide
theorem e144_19 : amT 144 19 20 (.iload_n 0) 0 := r144 (len := 1) (by decide +kernel) rfl
theorem e144_20 : amT 144 20 22 (.bipush 10) 0 := r144 (len := 2) (by decide +kernel) rfl
theorem e144_22 : amT 144 22 25 (.if_icmp .ne 7) 0 := r144 (len := 3) (by decide +kernel) rfl
theorem t144_22 : amTg 22 7 = some 29 := by decide
theorem e144_25 : amT 144 25 26 (.iconst 1) 0 := r144 (len := 1) (by decide +kernel) rfl
theorem e144_26 : amT 144 26 29 (.goto 4) 0 := r144 (len := 3) (by decide +kernel) rfl
theorem t144_26 : amTg 26 4 = some 30 := by decide
theorem e144_29 : amT 144 29 30 (.iconst 0) 0 := r144 (len := 1) (by decide +kernel) rfl
theorem e144_30 : amT 144 30 31 (.ireturn) 0 := r144 (len := 1) (by decide +kernel) rfl
theorem q145 : amCs.getD 145 [] = amC_145 := rfl
theorem r145 {pc pc' len op : Nat} {i : Instr} (h : amC_145.lookup pc = some (i, len, op)) (h2 : pc + len = pc') : amT 145 pc pc' i op := ⟨len, by unfold amEnt; rw [q145]; exact h, h2⟩
theorem e145_0 : amT 145 0 1 (.iload_n 0) 0 := r145 (len := 1) (by decide +kernel) rfl
theorem e145_1 : amT 145 1 4 (.sipush (-999)) 0 := r145 (len := 3) (by decide +kernel) rfl
theorem e145_4 : amT 145 4 7 (.if_icmp .lt 10) 0 := r145 (len := 3) (by decide +kernel) rfl
theorem t145_4 : amTg 4 10 = some 14 := by decide
theorem e145_7 : amT 145 7 8 (.iload_n 0) 0 := r145 (len := 1) (by decide +kernel) rfl
theorem e145_8 : amT 145 8 11 (.sipush 999) 0 := r145 (len := 3) (by decide +kernel) rfl
theorem e145_11 : amT 145 11 14 (.if_icmp .le 7) 0 := r145 (len := 3) (by decide +kernel) rfl
theorem t145_11 : amTg 11 7 = some 18 := by decide
theorem e145_14 : amT 145 14 15 (.iconst 1) 0 := r145 (len := 1) (by decide +kernel) rfl
theorem e145_15 : amT 145 15 18 (.goto 4) 0 := r145 (len := 3) (by decide +kernel) rfl
theorem t145_15 : amTg 15 4 = some 19 := by decide
theorem e145_18 : amT 145 18 19 (.iconst 0) 0 := r145 (len := 1) (by decide +kernel) rfl
theorem e145_19 : amT 145 19 20 (.ireturn) 0 := r145 (len := 1) (by decide +kernel) rfl
theorem q146 : amCs.getD 146 [] = amC_146 := rfl
theorem r146 {pc pc' len op : Nat} {i : Instr} (h : amC_146.lookup pc = some (i, len, op)) (h2 : pc + len = pc') : amT 146 pc pc' i op := ⟨len, by unfold amEnt; rw [q146]; exact h, h2⟩
theorem e146_0 : amT 146 0 1 (.iload_n 0) 0 := r146 (len := 1) (by decide +kernel) rfl
theorem e146_1 : amT 146 1 4 (.sipush (-1000)) 0 := r146 (len := 3) (by decide +kernel) rfl
theorem e146_4 : amT 146 4 7 (.if_icmp .lt 22) 0 := r146 (len := 3) (by decide +kernel) rfl
theorem t146_4 : amTg 4 22 = some 26 := by decide
theorem e146_7 : amT 146 7 8 (.iload_n 0) 0 := r146 (len := 1) (by decide +kernel) rfl
theorem e146_8 : amT 146 8 11 (.sipush 1000) 0 := r146 (len := 3) (by decide +kernel) rfl
theorem e146_11 : amT 146 11 14 (.if_icmp .gt 15) 0 := r146 (len := 3) (by decide +kernel) rfl
theorem t146_11 : amTg 11 15 = some 26 := by decide
theorem e146_14 : amT 146 14 15 (.iload_n 1) 0 := r146 (len := 1) (by decide +kernel) rfl
theorem e146_15 : amT 146 15 16 (.iconst 1) 0 := r146 (len := 1) (by decide +kernel) rfl
theorem e146_16 : amT 146 16 19 (.if_icmp .lt 10) 0 := r146 (len := 3) (by decide +kernel) rfl
theorem t146_16 : amTg 16 10 = some 26 := by decide
theorem e146_19 : amT 146 19 20 (.iload_n 1) 0 := r146 (len := 1) (by decide +kernel) rfl
theorem e146_20 : amT 146 20 23 (.sipush 1000) 0 := r146 (len := 3) (by decide +kernel) rfl
theorem e146_23 : amT 146 23 26 (.if_icmp .le 7) 0 := r146 (len := 3) (by decide +kernel) rfl
theorem t146_23 : amTg 23 7 = some 30 := by decide
theorem e146_26 : amT 146 26 27 (.iconst 1) 0 := r146 (len := 1) (by decide +kernel) rfl
theorem e146_27 : amT 146 27 30 (.goto 4) 0 := r146 (len := 3) (by decide +kernel) rfl
theorem t146_27 : amTg 27 4 = some 31 := by decide
theorem e146_30 : amT 146 30 31 (.iconst 0) 0 := r146 (len := 1) (by decide +kernel) rfl
theorem e146_31 : amT 146 31 32 (.ireturn) 0 := r146 (len := 1) (by decide +kernel) rfl
theorem q147 : amCs.getD 147 [] = amC_147 := rfl
theorem r147 {pc pc' len op : Nat} {i : Instr} (h : amC_147.lookup pc = some (i, len, op)) (h2 : pc + len = pc') : amT 147 pc pc' i op := ⟨len, by unfold amEnt; rw [q147]; exact h, h2⟩
theorem e147_0 : amT 147 0 1 (.iconst 0) 0 := r147 (len := 1) (by decide +kernel) rfl
theorem e147_1 : amT 147 1 2 (.istore_n 3) 0 := r147 (len := 1) (by decide +kernel) rfl
theorem e147_2 : amT 147 2 3 (.iload_n 3) 0 := r147 (len := 1) (by decide +kernel) rfl
theorem e147_3 : amT 147 3 5 (.bipush 9) 0 := r147 (len := 2) (by decide +kernel) rfl
theorem e147_5 : amT 147 5 8 (.if_icmp .gt 63) 0 := r147 (len := 3) (by decide +kernel) rfl
theorem t147_5 : amTg 5 63 = some 68 := by decide
theorem e147_8 : amT 147 8 9 (.aload_n 0) 0 := r147 (len := 1) (by decide +kernel) rfl
theorem e147_9 : amT 147 9 12 (.getfield 73) 714 := r147 (len := 3) (by decide +kernel) rfl
theorem e147_12 : amT 147 12 13 (.aload_n 0) 0 := r147 (len := 1) (by decide +kernel) rfl
theorem e147_13 : amT 147 13 16 (.getfield 60) 711 := r147 (len := 3) (by decide +kernel) rfl
theorem e147_16 : amT 147 16 17 (.iload_n 1) 0 := r147 (len := 1) (by decide +kernel) rfl
theorem e147_17 : amT 147 17 18 (.iload_n 3) 0 := r147 (len := 1) (by decide +kernel) rfl
theorem e147_18 : amT 147 18 21 (.invokevirtual 319) 62 := r147 (len := 3) (by decide +kernel) rfl
theorem e147_21 : amT 147 21 24 (.ifCond .ne 7) 0 := r147 (len := 3) (by decide +kernel) rfl
theorem t147_21 : amTg 21 7 = some 28 := by decide
theorem e147_24 : amT 147 24 27 (.ldc2_w 150) 4 := r147 (len := 3) (by decide +kernel) rfl
theorem e147_27 : amT 147 27 28 (.lreturn) 0 := r147 (len := 1) (by decide +kernel) rfl
theorem e147_28 : amT 147 28 29 (.aload_n 0) 0 := r147 (len := 1) (by decide +kernel) rfl
theorem e147_29 : amT 147 29 32 (.getfield 73) 714 := r147 (len := 3) (by decide +kernel) rfl
theorem e147_32 : amT 147 32 33 (.aload_n 0) 0 := r147 (len := 1) (by decide +kernel) rfl
theorem e147_33 : amT 147 33 36 (.getfield 64) 712 := r147 (len := 3) (by decide +kernel) rfl
theorem e147_36 : amT 147 36 39 (.invokevirtual 217) 68 := r147 (len := 3) (by decide +kernel) rfl
theorem e147_39 : amT 147 39 42 (.ifCond .ne 23) 0 := r147 (len := 3) (by decide +kernel) rfl
theorem t147_39 : amTg 39 23 = some 62 := by decide
theorem e147_42 : amT 147 42 43 (.aload_n 2) 0 := r147 (len := 1) (by decide +kernel) rfl
theorem e147_43 : amT 147 43 44 (.aload_n 0) 0 := r147 (len := 1) (by decide +kernel) rfl
theorem e147_44 : amT 147 44 47 (.getfield 73) 714 := r147 (len := 3) (by decide +kernel) rfl
theorem e147_47 : amT 147 47 50 (.invokevirtual 205) 66 := r147 (len := 3) (by decide +kernel) rfl
theorem e147_50 : amT 147 50 51 (.aload_n 0) 0 := r147 (len := 1) (by decide +kernel) rfl
theorem e147_51 : amT 147 51 54 (.getfield 73) 714 := r147 (len := 3) (by decide +kernel) rfl
theorem e147_54 : amT 147 54 57 (.invokevirtual 208) 67 := r147 (len := 3) (by decide +kernel) rfl
theorem e147_57 : amT 147 57 60 (.invokevirtual 322) 21 := r147 (len := 3) (by decide +kernel) rfl
theorem e147_60 : amT 147 60 61 (.i2l) 0 := r147 (len := 1) (by decide +kernel) rfl
theorem e147_61 : amT 147 61 62 (.lreturn) 0 := r147 (len := 1) (by decide +kernel) rfl
theorem e147_62 : amT 147 62 65 (.iinc 3 1) 0 := r147 (len := 3) (by decide +kernel) rfl
theorem e147_65 : amT 147 65 68 (.goto (-63)) 0 := r147 (len := 3) (by decide +kernel) rfl
theorem t147_65 : amTg 65 (-63) = some 2 := by decide
theorem e147_68 : amT 147 68 71 (.ldc2_w 150) 4 := r147 (len := 3) (by decide +kernel) rfl
theorem e147_71 : amT 147 71 72 (.lreturn) 0 := r147 (len := 1) (by decide +kernel) rfl
