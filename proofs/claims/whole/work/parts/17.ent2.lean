theorem q148 : amCs.getD 148 [] = amC_148 := rfl
theorem r148 {pc pc' len op : Nat} {i : Instr} (h : amC_148.lookup pc = some (i, len, op)) (h2 : pc + len = pc') : amT 148 pc pc' i op := ⟨len, by unfold amEnt; rw [q148]; exact h, h2⟩
theorem e148_0 : amT 148 0 1 (.aload_n 0) 0 := r148 (len := 1) (by decide +kernel) rfl
theorem e148_1 : amT 148 1 4 (.getfield 73) 714 := r148 (len := 3) (by decide +kernel) rfl
theorem e148_4 : amT 148 4 5 (.aload_n 0) 0 := r148 (len := 1) (by decide +kernel) rfl
theorem e148_5 : amT 148 5 8 (.getfield 67) 713 := r148 (len := 3) (by decide +kernel) rfl
theorem e148_8 : amT 148 8 11 (.invokevirtual 217) 68 := r148 (len := 3) (by decide +kernel) rfl
theorem e148_11 : amT 148 11 14 (.ifCond .eq 17) 0 := r148 (len := 3) (by decide +kernel) rfl
theorem t148_11 : amTg 11 17 = some 28 := by decide
theorem e148_14 : amT 148 14 15 (.aload_n 0) 0 := r148 (len := 1) (by decide +kernel) rfl
theorem e148_15 : amT 148 15 18 (.getfield 77) 715 := r148 (len := 3) (by decide +kernel) rfl
theorem e148_18 : amT 148 18 19 (.aload_n 0) 0 := r148 (len := 1) (by decide +kernel) rfl
theorem e148_19 : amT 148 19 22 (.getfield 67) 713 := r148 (len := 3) (by decide +kernel) rfl
theorem e148_22 : amT 148 22 25 (.invokevirtual 217) 68 := r148 (len := 3) (by decide +kernel) rfl
theorem e148_25 : amT 148 25 28 (.ifCond .ne 5) 0 := r148 (len := 3) (by decide +kernel) rfl
theorem t148_25 : amTg 25 5 = some 30 := by decide
theorem e148_28 : amT 148 28 29 (.iconst 0) 0 := r148 (len := 1) (by decide +kernel) rfl
theorem e148_29 : amT 148 29 30 (.ireturn) 0 := r148 (len := 1) (by decide +kernel) rfl
theorem e148_30 : amT 148 30 31 (.aload_n 0) 0 := r148 (len := 1) (by decide +kernel) rfl
theorem e148_31 : amT 148 31 34 (.getfield 67) 713 := r148 (len := 3) (by decide +kernel) rfl
theorem e148_34 : amT 148 34 35 (.aload_n 0) 0 := r148 (len := 1) (by decide +kernel) rfl
theorem e148_35 : amT 148 35 38 (.getfield 73) 714 := r148 (len := 3) (by decide +kernel) rfl
theorem e148_38 : amT 148 38 41 (.invokevirtual 205) 66 := r148 (len := 3) (by decide +kernel) rfl
theorem e148_41 : amT 148 41 42 (.aload_n 0) 0 := r148 (len := 1) (by decide +kernel) rfl
theorem e148_42 : amT 148 42 45 (.getfield 73) 714 := r148 (len := 3) (by decide +kernel) rfl
theorem e148_45 : amT 148 45 48 (.invokevirtual 208) 67 := r148 (len := 3) (by decide +kernel) rfl
theorem e148_48 : amT 148 48 51 (.invokevirtual 182) 34 := r148 (len := 3) (by decide +kernel) rfl
theorem e148_51 : amT 148 51 52 (.aload_n 0) 0 := r148 (len := 1) (by decide +kernel) rfl
theorem e148_52 : amT 148 52 55 (.getfield 67) 713 := r148 (len := 3) (by decide +kernel) rfl
theorem e148_55 : amT 148 55 56 (.aload_n 0) 0 := r148 (len := 1) (by decide +kernel) rfl
theorem e148_56 : amT 148 56 59 (.getfield 77) 715 := r148 (len := 3) (by decide +kernel) rfl
theorem e148_59 : amT 148 59 62 (.invokevirtual 205) 66 := r148 (len := 3) (by decide +kernel) rfl
theorem e148_62 : amT 148 62 63 (.aload_n 0) 0 := r148 (len := 1) (by decide +kernel) rfl
theorem e148_63 : amT 148 63 66 (.getfield 77) 715 := r148 (len := 3) (by decide +kernel) rfl
theorem e148_66 : amT 148 66 69 (.invokevirtual 208) 67 := r148 (len := 3) (by decide +kernel) rfl
theorem e148_69 : amT 148 69 72 (.invokevirtual 182) 34 := r148 (len := 3) (by decide +kernel) rfl
theorem e148_72 : amT 148 72 75 (.if_icmp .ne 7) 0 := r148 (len := 3) (by decide +kernel) rfl
theorem t148_72 : amTg 72 7 = some 79 := by decide
theorem e148_75 : amT 148 75 76 (.iconst 1) 0 := r148 (len := 1) (by decide +kernel) rfl
theorem e148_76 : amT 148 76 79 (.goto 4) 0 := r148 (len := 3) (by decide +kernel) rfl
theorem t148_76 : amTg 76 4 = some 80 := by decide
theorem e148_79 : amT 148 79 80 (.iconst 0) 0 := r148 (len := 1) (by decide +kernel) rfl
theorem e148_80 : amT 148 80 81 (.ireturn) 0 := r148 (len := 1) (by decide +kernel) rfl
theorem q149 : amCs.getD 149 [] = amC_149 := rfl
theorem r149 {pc pc' len op : Nat} {i : Instr} (h : amC_149.lookup pc = some (i, len, op)) (h2 : pc + len = pc') : amT 149 pc pc' i op := ⟨len, by unfold amEnt; rw [q149]; exact h, h2⟩
theorem e149_0 : amT 149 0 1 (.iconst 0) 0 := r149 (len := 1) (by decide +kernel) rfl
theorem e149_1 : amT 149 1 2 (.istore_n 3) 0 := r149 (len := 1) (by decide +kernel) rfl
theorem e149_2 : amT 149 2 3 (.iload_n 3) 0 := r149 (len := 1) (by decide +kernel) rfl
theorem e149_3 : amT 149 3 5 (.bipush 9) 0 := r149 (len := 2) (by decide +kernel) rfl
theorem e149_5 : amT 149 5 8 (.if_icmp .gt 79) 0 := r149 (len := 3) (by decide +kernel) rfl
theorem t149_5 : amTg 5 79 = some 84 := by decide
theorem e149_8 : amT 149 8 9 (.aload_n 0) 0 := r149 (len := 1) (by decide +kernel) rfl
theorem e149_9 : amT 149 9 12 (.getfield 73) 714 := r149 (len := 3) (by decide +kernel) rfl
theorem e149_12 : amT 149 12 13 (.aload_n 0) 0 := r149 (len := 1) (by decide +kernel) rfl
theorem e149_13 : amT 149 13 16 (.getfield 60) 711 := r149 (len := 3) (by decide +kernel) rfl
theorem e149_16 : amT 149 16 17 (.iload_n 1) 0 := r149 (len := 1) (by decide +kernel) rfl
theorem e149_17 : amT 149 17 18 (.iload_n 3) 0 := r149 (len := 1) (by decide +kernel) rfl
theorem e149_18 : amT 149 18 21 (.invokevirtual 319) 62 := r149 (len := 3) (by decide +kernel) rfl
theorem e149_21 : amT 149 21 24 (.ifCond .eq 19) 0 := r149 (len := 3) (by decide +kernel) rfl
theorem t149_21 : amTg 21 19 = some 40 := by decide
theorem e149_24 : amT 149 24 25 (.aload_n 0) 0 := r149 (len := 1) (by decide +kernel) rfl
theorem e149_25 : amT 149 25 28 (.getfield 77) 715 := r149 (len := 3) (by decide +kernel) rfl
theorem e149_28 : amT 149 28 29 (.aload_n 0) 0 := r149 (len := 1) (by decide +kernel) rfl
theorem e149_29 : amT 149 29 32 (.getfield 64) 712 := r149 (len := 3) (by decide +kernel) rfl
theorem e149_32 : amT 149 32 33 (.iload_n 2) 0 := r149 (len := 1) (by decide +kernel) rfl
theorem e149_33 : amT 149 33 34 (.iload_n 3) 0 := r149 (len := 1) (by decide +kernel) rfl
theorem e149_34 : amT 149 34 37 (.invokevirtual 319) 62 := r149 (len := 3) (by decide +kernel) rfl
theorem e149_37 : amT 149 37 40 (.ifCond .ne 7) 0 := r149 (len := 3) (by decide +kernel) rfl
theorem t149_37 : amTg 37 7 = some 44 := by decide
theorem e149_40 : amT 149 40 43 (.ldc2_w 150) 4 := r149 (len := 3) (by decide +kernel) rfl
theorem e149_43 : amT 149 43 44 (.lreturn) 0 := r149 (len := 1) (by decide +kernel) rfl
theorem e149_44 : amT 149 44 45 (.aload_n 0) 0 := r149 (len := 1) (by decide +kernel) rfl
theorem e149_45 : amT 149 45 48 (.getfield 73) 714 := r149 (len := 3) (by decide +kernel) rfl
theorem e149_48 : amT 149 48 49 (.aload_n 0) 0 := r149 (len := 1) (by decide +kernel) rfl
theorem e149_49 : amT 149 49 52 (.getfield 77) 715 := r149 (len := 3) (by decide +kernel) rfl
theorem e149_52 : amT 149 52 55 (.invokevirtual 325) 69 := r149 (len := 3) (by decide +kernel) rfl
theorem e149_55 : amT 149 55 58 (.ifCond .eq 7) 0 := r149 (len := 3) (by decide +kernel) rfl
theorem t149_55 : amTg 55 7 = some 62 := by decide
theorem e149_58 : amT 149 58 61 (.ldc2_w 329) 2 := r149 (len := 3) (by decide +kernel) rfl
theorem e149_61 : amT 149 61 62 (.lreturn) 0 := r149 (len := 1) (by decide +kernel) rfl
theorem e149_62 : amT 149 62 63 (.aload_n 0) 0 := r149 (len := 1) (by decide +kernel) rfl
theorem e149_63 : amT 149 63 66 (.getfield 77) 715 := r149 (len := 3) (by decide +kernel) rfl
theorem e149_66 : amT 149 66 67 (.aload_n 0) 0 := r149 (len := 1) (by decide +kernel) rfl
theorem e149_67 : amT 149 67 70 (.getfield 73) 714 := r149 (len := 3) (by decide +kernel) rfl
theorem e149_70 : amT 149 70 73 (.invokevirtual 325) 69 := r149 (len := 3) (by decide +kernel) rfl
theorem e149_73 : amT 149 73 76 (.ifCond .eq 5) 0 := r149 (len := 3) (by decide +kernel) rfl
theorem t149_73 : amTg 73 5 = some 78 := by decide
theorem e149_76 : amT 149 76 77 (.lconst 1) 0 := r149 (len := 1) (by decide +kernel) rfl
theorem e149_77 : amT 149 77 78 (.lreturn) 0 := r149 (len := 1) (by decide +kernel) rfl
theorem e149_78 : amT 149 78 81 (.iinc 3 1) 0 := r149 (len := 3) (by decide +kernel) rfl
theorem e149_81 : amT 149 81 84 (.goto (-79)) 0 := r149 (len := 3) (by decide +kernel) rfl
theorem t149_81 : amTg 81 (-79) = some 2 := by decide
theorem e149_84 : amT 149 84 87 (.ldc2_w 150) 4 := r149 (len := 3) (by decide +kernel) rfl
theorem e149_87 : amT 149 87 88 (.lreturn) 0 := r149 (len := 1) (by decide +kernel) rfl
theorem q150 : amCs.getD 150 [] = amC_150 := rfl
theorem r150 {pc pc' len op : Nat} {i : Instr} (h : amC_150.lookup pc = some (i, len, op)) (h2 : pc + len = pc') : amT 150 pc pc' i op := ⟨len, by unfold amEnt; rw [q150]; exact h, h2⟩
theorem e150_0 : amT 150 0 1 (.aload_n 0) 0 := r150 (len := 1) (by decide +kernel) rfl
theorem e150_1 : amT 150 1 4 (.getfield 104) 719 := r150 (len := 3) (by decide +kernel) rfl
theorem e150_4 : amT 150 4 5 (.iload_n 1) 0 := r150 (len := 1) (by decide +kernel) rfl
theorem e150_5 : amT 150 5 6 (.iload_n 2) 0 := r150 (len := 1) (by decide +kernel) rfl
theorem e150_6 : amT 150 6 9 (.invokevirtual 304) 108 := r150 (len := 3) (by decide +kernel) rfl
theorem e150_9 : amT 150 9 11 (.istore 4) 0 := r150 (len := 2) (by decide +kernel) rfl
theorem e150_11 : amT 150 11 12 (.aload_n 0) 0 := r150 (len := 1) (by decide +kernel) rfl
theorem e150_12 : amT 150 12 15 (.getfield 104) 719 := r150 (len := 3) (by decide +kernel) rfl
theorem e150_15 : amT 150 15 16 (.iload_n 1) 0 := r150 (len := 1) (by decide +kernel) rfl
theorem e150_16 : amT 150 16 17 (.iload_n 2) 0 := r150 (len := 1) (by decide +kernel) rfl
theorem e150_17 : amT 150 17 18 (.iconst 1) 0 := r150 (len := 1) (by decide +kernel) rfl
theorem e150_18 : amT 150 18 19 (.iadd) 0 := r150 (len := 1) (by decide +kernel) rfl
theorem e150_19 : amT 150 19 22 (.invokevirtual 304) 108 := r150 (len := 3) (by decide +kernel) rfl
theorem e150_22 : amT 150 22 24 (.istore 5) 0 := r150 (len := 2) (by decide +kernel) rfl
theorem e150_24 : amT 150 24 25 (.aload_n 0) 0 := r150 (len := 1) (by decide +kernel) rfl
theorem e150_25 : amT 150 25 28 (.getfield 104) 719 := r150 (len := 3) (by decide +kernel) rfl
theorem e150_28 : amT 150 28 29 (.iload_n 1) 0 := r150 (len := 1) (by decide +kernel) rfl
theorem e150_29 : amT 150 29 30 (.iload_n 2) 0 := r150 (len := 1) (by decide +kernel) rfl
theorem e150_30 : amT 150 30 31 (.iconst 2) 0 := r150 (len := 1) (by decide +kernel) rfl
theorem e150_31 : amT 150 31 32 (.iadd) 0 := r150 (len := 1) (by decide +kernel) rfl
theorem e150_32 : amT 150 32 35 (.invokevirtual 304) 108 := r150 (len := 3) (by decide +kernel) rfl
theorem e150_35 : amT 150 35 37 (.istore 6) 0 := r150 (len := 2) (by decide +kernel) rfl
theorem e150_37 : amT 150 37 38 (.aload_n 0) 0 := r150 (len := 1) (by decide +kernel) rfl
theorem e150_38 : amT 150 38 41 (.getfield 104) 719 := r150 (len := 3) (by decide +kernel) rfl
theorem e150_41 : amT 150 41 42 (.iload_n 1) 0 := r150 (len := 1) (by decide +kernel) rfl
theorem e150_42 : amT 150 42 43 (.iload_n 2) 0 := r150 (len := 1) (by decide +kernel) rfl
theorem e150_43 : amT 150 43 44 (.iconst 3) 0 := r150 (len := 1) (by decide +kernel) rfl
theorem e150_44 : amT 150 44 45 (.iadd) 0 := r150 (len := 1) (by decide +kernel) rfl
theorem e150_45 : amT 150 45 48 (.invokevirtual 304) 108 := r150 (len := 3) (by decide +kernel) rfl
theorem e150_48 : amT 150 48 50 (.istore 7) 0 := r150 (len := 2) (by decide +kernel) rfl
theorem e150_50 : amT 150 50 52 (.iload 4) 0 := r150 (len := 2) (by decide +kernel) rfl
theorem e150_52 : amT 150 52 54 (.iload 5) 0 := r150 (len := 2) (by decide +kernel) rfl
theorem e150_54 : amT 150 54 57 (.invokestatic 165) 146 := r150 (len := 3) (by decide +kernel) rfl
theorem e150_57 : amT 150 57 60 (.ifCond .ne 26) 0 := r150 (len := 3) (by decide +kernel) rfl
theorem t150_57 : amTg 57 26 = some 83 := by decide
theorem e150_60 : amT 150 60 62 (.iload 6) 0 := r150 (len := 2) (by decide +kernel) rfl
theorem e150_62 : amT 150 62 64 (.iload 7) 0 := r150 (len := 2) (by decide +kernel) rfl
theorem e150_64 : amT 150 64 67 (.invokestatic 165) 146 := r150 (len := 3) (by decide +kernel) rfl
theorem e150_67 : amT 150 67 70 (.ifCond .ne 16) 0 := r150 (len := 3) (by decide +kernel) rfl
theorem t150_67 : amTg 67 16 = some 83 := by decide
theorem e150_70 : amT 150 70 72 (.iload 4) 0 := r150 (len := 2) (by decide +kernel) rfl
theorem e150_72 : amT 150 72 74 (.iload 7) 0 := r150 (len := 2) (by decide +kernel) rfl
theorem e150_74 : amT 150 74 75 (.imul) 0 := r150 (len := 1) (by decide +kernel) rfl
theorem e150_75 : amT 150 75 77 (.iload 6) 0 := r150 (len := 2) (by decide +kernel) rfl
theorem e150_77 : amT 150 77 79 (.iload 5) 0 := r150 (len := 2) (by decide +kernel) rfl
theorem e150_79 : amT 150 79 80 (.imul) 0 := r150 (len := 1) (by decide +kernel) rfl
theorem e150_80 : amT 150 80 83 (.if_icmp .lt 5) 0 := r150 (len := 3) (by decide +kernel) rfl
theorem t150_80 : amTg 80 5 = some 85 := by decide
theorem e150_83 : amT 150 83 84 (.iconst 0) 0 := r150 (len := 1) (by decide +kernel) rfl
theorem e150_84 : amT 150 84 85 (.ireturn) 0 := r150 (len := 1) (by decide +kernel) rfl
theorem e150_85 : amT 150 85 86 (.aload_n 0) 0 := r150 (len := 1) (by decide +kernel) rfl
theorem e150_86 : amT 150 86 89 (.getfield 60) 711 := r150 (len := 3) (by decide +kernel) rfl
theorem e150_89 : amT 150 89 91 (.iload 4) 0 := r150 (len := 2) (by decide +kernel) rfl
theorem e150_91 : amT 150 91 93 (.iload 5) 0 := r150 (len := 2) (by decide +kernel) rfl
theorem e150_93 : amT 150 93 96 (.invokevirtual 331) 41 := r150 (len := 3) (by decide +kernel) rfl
theorem e150_96 : amT 150 96 98 (.istore 8) 0 := r150 (len := 2) (by decide +kernel) rfl
theorem e150_98 : amT 150 98 100 (.iload 8) 0 := r150 (len := 2) (by decide +kernel) rfl
theorem e150_100 : amT 150 100 101 (.iload_n 3) 0 := r150 (len := 1) (by decide +kernel) rfl
theorem e150_101 : amT 150 101 104 (.if_icmp .ne 24) 0 := r150 (len := 3) (by decide +kernel) rfl
theorem t150_101 : amTg 101 24 = some 125 := by decide
theorem e150_104 : amT 150 104 105 (.aload_n 0) 0 := r150 (len := 1) (by decide +kernel) rfl
theorem e150_105 : amT 150 105 108 (.getfield 60) 711 := r150 (len := 3) (by decide +kernel) rfl
theorem e150_108 : amT 150 108 110 (.iload 6) 0 := r150 (len := 2) (by decide +kernel) rfl
theorem e150_110 : amT 150 110 112 (.iload 7) 0 := r150 (len := 2) (by decide +kernel) rfl
theorem e150_112 : amT 150 112 115 (.invokevirtual 331) 41 := r150 (len := 3) (by decide +kernel) rfl
theorem e150_115 : amT 150 115 116 (.iload_n 3) 0 := r150 (len := 1) (by decide +kernel) rfl
theorem e150_116 : amT 150 116 117 (.iconst 1) 0 := r150 (len := 1) (by decide +kernel) rfl
theorem e150_117 : amT 150 117 118 (.iadd) 0 := r150 (len := 1) (by decide +kernel) rfl
theorem e150_118 : amT 150 118 121 (.if_icmp .ne 7) 0 := r150 (len := 3) (by decide +kernel) rfl
theorem t150_118 : amTg 118 7 = some 125 := by decide
theorem e150_121 : amT 150 121 122 (.iconst 1) 0 := r150 (len := 1) (by decide +kernel) rfl
theorem e150_122 : amT 150 122 125 (.goto 4) 0 := r150 (len := 3) (by decide +kernel) rfl
theorem t150_122 : amTg 122 4 = some 126 := by decide
theorem e150_125 : amT 150 125 126 (.iconst 0) 0 := r150 (len := 1) (by decide +kernel) rfl
theorem e150_126 : amT 150 126 127 (.ireturn) 0 := r150 (len := 1) (by decide +kernel) rfl
theorem q151 : amCs.getD 151 [] = amC_151 := rfl
theorem r151 {pc pc' len op : Nat} {i : Instr} (h : amC_151.lookup pc = some (i, len, op)) (h2 : pc + len = pc') : amT 151 pc pc' i op := ⟨len, by unfold amEnt; rw [q151]; exact h, h2⟩
theorem e151_0 : amT 151 0 1 (.lload_n 0) 0 := r151 (len := 1) (by decide +kernel) rfl
theorem e151_1 : amT 151 1 2 (.lconst 0) 0 := r151 (len := 1) (by decide +kernel) rfl
theorem e151_2 : amT 151 2 3 (.lcmp) 0 := r151 (len := 1) (by decide +kernel) rfl
theorem e151_3 : amT 151 3 6 (.ifCond .ge 8) 0 := r151 (len := 3) (by decide +kernel) rfl
theorem t151_3 : amTg 3 8 = some 11 := by decide
theorem e151_6 : amT 151 6 7 (.lload_n 0) 0 := r151 (len := 1) (by decide +kernel) rfl
theorem e151_7 : amT 151 7 8 (.lneg) 0 := r151 (len := 1) (by decide +kernel) rfl
theorem e151_8 : amT 151 8 11 (.goto 4) 0 := r151 (len := 3) (by decide +kernel) rfl
theorem t151_8 : amTg 8 4 = some 12 := by decide
theorem e151_11 : amT 151 11 12 (.lload_n 0) 0 := r151 (len := 1) (by decide +kernel) rfl
theorem e151_12 : amT 151 12 14 (.lstore 4) 0 := r151 (len := 2) (by decide +kernel) rfl
theorem e151_14 : amT 151 14 15 (.lload_n 2) 0 := r151 (len := 1) (by decide +kernel) rfl
theorem e151_15 : amT 151 15 16 (.lconst 0) 0 := r151 (len := 1) (by decide +kernel) rfl
theorem e151_16 : amT 151 16 17 (.lcmp) 0 := r151 (len := 1) (by decide +kernel) rfl
theorem e151_17 : amT 151 17 20 (.ifCond .ge 8) 0 := r151 (len := 3) (by decide +kernel) rfl
theorem t151_17 : amTg 17 8 = some 25 := by decide
theorem e151_20 : amT 151 20 21 (.lload_n 2) 0 := r151 (len := 1) (by decide +kernel) rfl
theorem e151_21 : amT 151 21 22 (.lneg) 0 := r151 (len := 1) (by decide +kernel) rfl
theorem e151_22 : amT 151 22 25 (.goto 4) 0 := r151 (len := 3) (by decide +kernel) rfl
theorem t151_22 : amTg 22 4 = some 26 := by decide
theorem e151_25 : amT 151 25 26 (.lload_n 2) 0 := r151 (len := 1) (by decide +kernel) rfl
theorem e151_26 : amT 151 26 28 (.lstore 6) 0 := r151 (len := 2) (by decide +kernel) rfl
theorem e151_28 : amT 151 28 29 (.iconst 0) 0 := r151 (len := 1) (by decide +kernel) rfl
theorem e151_29 : amT 151 29 31 (.istore 8) 0 := r151 (len := 2) (by decide +kernel) rfl
theorem e151_31 : amT 151 31 33 (.iload 8) 0 := r151 (len := 2) (by decide +kernel) rfl
theorem e151_33 : amT 151 33 36 (.sipush 1000) 0 := r151 (len := 3) (by decide +kernel) rfl
theorem e151_36 : amT 151 36 39 (.if_icmp .ge 31) 0 := r151 (len := 3) (by decide +kernel) rfl
theorem t151_36 : amTg 36 31 = some 67 := by decide
theorem e151_39 : amT 151 39 41 (.lload 6) 0 := r151 (len := 2) (by decide +kernel) rfl
theorem e151_41 : amT 151 41 42 (.lconst 0) 0 := r151 (len := 1) (by decide +kernel) rfl
theorem e151_42 : amT 151 42 43 (.lcmp) 0 := r151 (len := 1) (by decide +kernel) rfl
theorem e151_43 : amT 151 43 46 (.ifCond .eq 24) 0 := r151 (len := 3) (by decide +kernel) rfl
theorem t151_43 : amTg 43 24 = some 67 := by decide
theorem e151_46 : amT 151 46 48 (.lload 4) 0 := r151 (len := 2) (by decide +kernel) rfl
theorem e151_48 : amT 151 48 50 (.lload 6) 0 := r151 (len := 2) (by decide +kernel) rfl
theorem e151_50 : amT 151 50 51 (.lrem) 0 := r151 (len := 1) (by decide +kernel) rfl
theorem e151_51 : amT 151 51 53 (.lstore 9) 0 := r151 (len := 2) (by decide +kernel) rfl
theorem e151_53 : amT 151 53 55 (.lload 6) 0 := r151 (len := 2) (by decide +kernel) rfl
theorem e151_55 : amT 151 55 57 (.lstore 4) 0 := r151 (len := 2) (by decide +kernel) rfl
theorem e151_57 : amT 151 57 59 (.lload 9) 0 := r151 (len := 2) (by decide +kernel) rfl
theorem e151_59 : amT 151 59 61 (.lstore 6) 0 := r151 (len := 2) (by decide +kernel) rfl
theorem e151_61 : amT 151 61 64 (.iinc 8 1) 0 := r151 (len := 3) (by decide +kernel) rfl
theorem e151_64 : amT 151 64 67 (.goto (-33)) 0 := r151 (len := 3) (by decide +kernel) rfl
theorem t151_64 : amTg 64 (-33) = some 31 := by decide
theorem e151_67 : amT 151 67 69 (.lload 4) 0 := r151 (len := 2) (by decide +kernel) rfl
theorem e151_69 : amT 151 69 70 (.lreturn) 0 := r151 (len := 1) (by decide +kernel) rfl
theorem q152 : amCs.getD 152 [] = amC_152 := rfl
theorem r152 {pc pc' len op : Nat} {i : Instr} (h : amC_152.lookup pc = some (i, len, op)) (h2 : pc + len = pc') : amT 152 pc pc' i op := ⟨len, by unfold amEnt; rw [q152]; exact h, h2⟩
theorem e152_0 : amT 152 0 1 (.lload_n 0) 0 := r152 (len := 1) (by decide +kernel) rfl
theorem e152_1 : amT 152 1 2 (.lload_n 2) 0 := r152 (len := 1) (by decide +kernel) rfl
theorem e152_2 : amT 152 2 3 (.lcmp) 0 := r152 (len := 1) (by decide +kernel) rfl
theorem e152_3 : amT 152 3 6 (.ifCond .lt 14) 0 := r152 (len := 3) (by decide +kernel) rfl
theorem t152_3 : amTg 3 14 = some 17 := by decide
theorem e152_6 : amT 152 6 7 (.lload_n 0) 0 := r152 (len := 1) (by decide +kernel) rfl
theorem e152_7 : amT 152 7 9 (.lload 4) 0 := r152 (len := 2) (by decide +kernel) rfl
theorem e152_9 : amT 152 9 10 (.lcmp) 0 := r152 (len := 1) (by decide +kernel) rfl
theorem e152_10 : amT 152 10 13 (.ifCond .gt 7) 0 := r152 (len := 3) (by decide +kernel) rfl
theorem t152_10 : amTg 10 7 = some 17 := by decide
theorem e152_13 : amT 152 13 14 (.iconst 1) 0 := r152 (len := 1) (by decide +kernel) rfl
theorem e152_14 : amT 152 14 17 (.goto 4) 0 := r152 (len := 3) (by decide +kernel) rfl
theorem t152_14 : amTg 14 4 = some 18 := by decide
theorem e152_17 : amT 152 17 18 (.iconst 0) 0 := r152 (len := 1) (by decide +kernel) rfl
theorem e152_18 : amT 152 18 19 (.ireturn) 0 := r152 (len := 1) (by decide +kernel) rfl
theorem q153 : amCs.getD 153 [] = amC_153 := rfl
theorem r153 {pc pc' len op : Nat} {i : Instr} (h : amC_153.lookup pc = some (i, len, op)) (h2 : pc + len = pc') : amT 153 pc pc' i op := ⟨len, by unfold amEnt; rw [q153]; exact h, h2⟩
theorem e153_0 : amT 153 0 1 (.lload_n 0) 0 := r153 (len := 1) (by decide +kernel) rfl
theorem e153_1 : amT 153 1 2 (.lconst 0) 0 := r153 (len := 1) (by decide +kernel) rfl
theorem e153_2 : amT 153 2 3 (.lcmp) 0 := r153 (len := 1) (by decide +kernel) rfl
theorem e153_3 : amT 153 3 6 (.ifCond .ge 8) 0 := r153 (len := 3) (by decide +kernel) rfl
theorem t153_3 : amTg 3 8 = some 11 := by decide
theorem e153_6 : amT 153 6 7 (.lload_n 0) 0 := r153 (len := 1) (by decide +kernel) rfl
theorem e153_7 : amT 153 7 8 (.lneg) 0 := r153 (len := 1) (by decide +kernel) rfl
theorem e153_8 : amT 153 8 11 (.goto 4) 0 := r153 (len := 3) (by decide +kernel) rfl
theorem t153_8 : amTg 8 4 = some 12 := by decide
theorem e153_11 : amT 153 11 12 (.lload_n 0) 0 := r153 (len := 1) (by decide +kernel) rfl
theorem e153_12 : amT 153 12 13 (.lreturn) 0 := r153 (len := 1) (by decide +kernel) rfl
theorem q154 : amCs.getD 154 [] = amC_154 := rfl
theorem r154 {pc pc' len op : Nat} {i : Instr} (h : amC_154.lookup pc = some (i, len, op)) (h2 : pc + len = pc') : amT 154 pc pc' i op := ⟨len, by unfold amEnt; rw [q154]; exact h, h2⟩
theorem e154_0 : amT 154 0 1 (.lload_n 0) 0 := r154 (len := 1) (by decide +kernel) rfl
theorem e154_1 : amT 154 1 2 (.lconst 0) 0 := r154 (len := 1) (by decide +kernel) rfl
theorem e154_2 : amT 154 2 3 (.lcmp) 0 := r154 (len := 1) (by decide +kernel) rfl
theorem e154_3 : amT 154 3 6 (.ifCond .le 7) 0 := r154 (len := 3) (by decide +kernel) rfl
theorem t154_3 : amTg 3 7 = some 10 := by decide
theorem e154_6 : amT 154 6 7 (.iconst 1) 0 := r154 (len := 1) (by decide +kernel) rfl
theorem e154_7 : amT 154 7 10 (.goto 14) 0 := r154 (len := 3) (by decide +kernel) rfl
theorem t154_7 : amTg 7 14 = some 21 := by decide
theorem e154_10 : amT 154 10 11 (.lload_n 0) 0 := r154 (len := 1) (by decide +kernel) rfl
theorem e154_11 : amT 154 11 12 (.lconst 0) 0 := r154 (len := 1) (by decide +kernel) rfl
theorem e154_12 : amT 154 12 13 (.lcmp) 0 := r154 (len := 1) (by decide +kernel) rfl
theorem e154_13 : amT 154 13 16 (.ifCond .ge 7) 0 := r154 (len := 3) (by decide +kernel) rfl
theorem t154_13 : amTg 13 7 = some 20 := by decide
theorem e154_16 : amT 154 16 17 (.iconst (-1)) 0 := r154 (len := 1) (by decide +kernel) rfl
theorem e154_17 : amT 154 17 20 (.goto 4) 0 := r154 (len := 3) (by decide +kernel) rfl
theorem t154_17 : amTg 17 4 = some 21 := by decide
theorem e154_20 : amT 154 20 21 (.iconst 0) 0 := r154 (len := 1) (by decide +kernel) rfl
theorem e154_21 : amT 154 21 22 (.ireturn) 0 := r154 (len := 1) (by decide +kernel) rfl
theorem q155 : amCs.getD 155 [] = amC_155 := rfl
theorem r155 {pc pc' len op : Nat} {i : Instr} (h : amC_155.lookup pc = some (i, len, op)) (h2 : pc + len = pc') : amT 155 pc pc' i op := ⟨len, by unfold amEnt; rw [q155]; exact h, h2⟩
theorem e155_0 : amT 155 0 1 (.lload_n 0) 0 := r155 (len := 1) (by decide +kernel) rfl
theorem e155_1 : amT 155 1 4 (.invokestatic 9) 153 := r155 (len := 3) (by decide +kernel) rfl
theorem e155_4 : amT 155 4 6 (.lstore 4) 0 := r155 (len := 2) (by decide +kernel) rfl
theorem e155_6 : amT 155 6 7 (.lload_n 2) 0 := r155 (len := 1) (by decide +kernel) rfl
theorem e155_7 : amT 155 7 10 (.invokestatic 9) 153 := r155 (len := 3) (by decide +kernel) rfl
theorem e155_10 : amT 155 10 12 (.lstore 6) 0 := r155 (len := 2) (by decide +kernel) rfl
theorem e155_12 : amT 155 12 14 (.lload 6) 0 := r155 (len := 2) (by decide +kernel) rfl
theorem e155_14 : amT 155 14 15 (.lconst 0) 0 := r155 (len := 1) (by decide +kernel) rfl
theorem e155_15 : amT 155 15 16 (.lcmp) 0 := r155 (len := 1) (by decide +kernel) rfl
theorem e155_16 : amT 155 16 19 (.ifCond .eq 21) 0 := r155 (len := 3) (by decide +kernel) rfl
theorem t155_16 : amTg 16 21 = some 37 := by decide
theorem e155_19 : amT 155 19 21 (.lload 4) 0 := r155 (len := 2) (by decide +kernel) rfl
theorem e155_21 : amT 155 21 23 (.lload 6) 0 := r155 (len := 2) (by decide +kernel) rfl
theorem e155_23 : amT 155 23 24 (.lrem) 0 := r155 (len := 1) (by decide +kernel) rfl
theorem e155_24 : amT 155 24 26 (.lstore 8) 0 := r155 (len := 2) (by decide +kernel) rfl
theorem e155_26 : amT 155 26 28 (.lload 6) 0 := r155 (len := 2) (by decide +kernel) rfl
theorem e155_28 : amT 155 28 30 (.lstore 4) 0 := r155 (len := 2) (by decide +kernel) rfl
theorem e155_30 : amT 155 30 32 (.lload 8) 0 := r155 (len := 2) (by decide +kernel) rfl
theorem e155_32 : amT 155 32 34 (.lstore 6) 0 := r155 (len := 2) (by decide +kernel) rfl
theorem e155_34 : amT 155 34 37 (.goto (-22)) 0 := r155 (len := 3) (by decide +kernel) rfl
theorem t155_34 : amTg 34 (-22) = some 12 := by decide
theorem e155_37 : amT 155 37 39 (.lload 4) 0 := r155 (len := 2) (by decide +kernel) rfl
theorem e155_39 : amT 155 39 40 (.lreturn) 0 := r155 (len := 1) (by decide +kernel) rfl
theorem q157 : amCs.getD 157 [] = amC_157 := rfl
theorem r157 {pc pc' len op : Nat} {i : Instr} (h : amC_157.lookup pc = some (i, len, op)) (h2 : pc + len = pc') : amT 157 pc pc' i op := ⟨len, by unfold amEnt; rw [q157]; exact h, h2⟩
theorem e157_0 : amT 157 0 1 (.iload_n 1) 0 := r157 (len := 1) (by decide +kernel) rfl
theorem e157_1 : amT 157 1 2 (.i2l) 0 := r157 (len := 1) (by decide +kernel) rfl
theorem e157_2 : amT 157 2 3 (.lconst 0) 0 := r157 (len := 1) (by decide +kernel) rfl
theorem e157_3 : amT 157 3 4 (.aload_n 0) 0 := r157 (len := 1) (by decide +kernel) rfl
theorem e157_4 : amT 157 4 7 (.getfield 104) 770 := r157 (len := 3) (by decide +kernel) rfl
theorem e157_7 : amT 157 7 8 (.iconst 1) 0 := r157 (len := 1) (by decide +kernel) rfl
theorem e157_8 : amT 157 8 9 (.isub) 0 := r157 (len := 1) (by decide +kernel) rfl
theorem e157_9 : amT 157 9 10 (.i2l) 0 := r157 (len := 1) (by decide +kernel) rfl
theorem e157_10 : amT 157 10 13 (.invokestatic 107) 152 := r157 (len := 3) (by decide +kernel) rfl
theorem e157_13 : amT 157 13 14 (.ireturn) 0 := r157 (len := 1) (by decide +kernel) rfl
theorem q158 : amCs.getD 158 [] = amC_158 := rfl
theorem r158 {pc pc' len op : Nat} {i : Instr} (h : amC_158.lookup pc = some (i, len, op)) (h2 : pc + len = pc') : amT 158 pc pc' i op := ⟨len, by unfold amEnt; rw [q158]; exact h, h2⟩
theorem e158_0 : amT 158 0 1 (.aload_n 0) 0 := r158 (len := 1) (by decide +kernel) rfl
theorem e158_1 : amT 158 1 4 (.getfield 104) 770 := r158 (len := 3) (by decide +kernel) rfl
theorem e158_4 : amT 158 4 6 (.bipush 8) 0 := r158 (len := 2) (by decide +kernel) rfl
theorem e158_6 : amT 158 6 9 (.if_icmp .eq 10) 0 := r158 (len := 3) (by decide +kernel) rfl
theorem t158_6 : amTg 6 10 = some 16 := by decide
theorem e158_9 : amT 158 9 10 (.aload_n 0) 0 := r158 (len := 1) (by decide +kernel) rfl
theorem e158_10 : amT 158 10 13 (.getfield 111) 777 := r158 (len := 3) (by decide +kernel) rfl
theorem e158_13 : amT 158 13 16 (.ifCond .eq 6) 0 := r158 (len := 3) (by decide +kernel) rfl
theorem t158_13 : amTg 13 6 = some 19 := by decide
theorem e158_16 : amT 158 16 18 (.bipush (-3)) 0 := r158 (len := 2) (by decide +kernel) rfl
theorem e158_18 : amT 158 18 19 (.ireturn) 0 := r158 (len := 1) (by decide +kernel) rfl
theorem e158_19 : amT 158 19 20 (.aload_n 0) 0 := r158 (len := 1) (by decide +kernel) rfl
theorem e158_20 : amT 158 20 23 (.getfield 32) 774 := r158 (len := 3) (by decide +kernel) rfl
theorem e158_23 : amT 158 23 26 (.invokestatic 115) 173 := r158 (len := 3) (by decide +kernel) rfl
theorem e158_26 : amT 158 26 29 (.ifCond .ge 6) 0 := r158 (len := 3) (by decide +kernel) rfl
theorem t158_26 : amTg 26 6 = some 32 := by decide
theorem e158_29 : amT 158 29 31 (.bipush (-2)) 0 := r158 (len := 2) (by decide +kernel) rfl
theorem e158_31 : amT 158 31 32 (.ireturn) 0 := r158 (len := 1) (by decide +kernel) rfl
theorem e158_32 : amT 158 32 33 (.aload_n 0) 0 := r158 (len := 1) (by decide +kernel) rfl
theorem e158_33 : amT 158 33 36 (.getfield 32) 774 := r158 (len := 3) (by decide +kernel) rfl
theorem e158_36 : amT 158 36 39 (.invokestatic 115) 173 := r158 (len := 3) (by decide +kernel) rfl
theorem e158_39 : amT 158 39 40 (.iconst 4) 0 := r158 (len := 1) (by decide +kernel) rfl
theorem e158_40 : amT 158 40 43 (.if_icmp .le 6) 0 := r158 (len := 3) (by decide +kernel) rfl
theorem t158_40 : amTg 40 6 = some 46 := by decide
theorem e158_43 : amT 158 43 45 (.bipush (-3)) 0 := r158 (len := 2) (by decide +kernel) rfl
theorem e158_45 : amT 158 45 46 (.ireturn) 0 := r158 (len := 1) (by decide +kernel) rfl
theorem e158_46 : amT 158 46 47 (.iconst 0) 0 := r158 (len := 1) (by decide +kernel) rfl
theorem e158_47 : amT 158 47 48 (.istore_n 1) 0 := r158 (len := 1) (by decide +kernel) rfl
theorem e158_48 : amT 158 48 49 (.iload_n 1) 0 := r158 (len := 1) (by decide +kernel) rfl
theorem e158_49 : amT 158 49 50 (.iconst 5) 0 := r158 (len := 1) (by decide +kernel) rfl
theorem e158_50 : amT 158 50 53 (.if_icmp .ge 28) 0 := r158 (len := 3) (by decide +kernel) rfl
theorem t158_50 : amTg 50 28 = some 78 := by decide
theorem e158_53 : amT 158 53 54 (.aload_n 0) 0 := r158 (len := 1) (by decide +kernel) rfl
theorem e158_54 : amT 158 54 57 (.getfield 32) 774 := r158 (len := 3) (by decide +kernel) rfl
theorem e158_57 : amT 158 57 58 (.iload_n 1) 0 := r158 (len := 1) (by decide +kernel) rfl
theorem e158_58 : amT 158 58 59 (.laload) 0 := r158 (len := 1) (by decide +kernel) rfl
theorem e158_59 : amT 158 59 62 (.invokestatic 9) 153 := r158 (len := 3) (by decide +kernel) rfl
theorem e158_62 : amT 158 62 65 (.ldc2_w 119) 5 := r158 (len := 3) (by decide +kernel) rfl
theorem e158_65 : amT 158 65 66 (.lcmp) 0 := r158 (len := 1) (by decide +kernel) rfl
theorem e158_66 : amT 158 66 69 (.ifCond .le 6) 0 := r158 (len := 3) (by decide +kernel) rfl
theorem t158_66 : amTg 66 6 = some 72 := by decide
theorem e158_69 : amT 158 69 71 (.bipush (-3)) 0 := r158 (len := 2) (by decide +kernel) rfl
theorem e158_71 : amT 158 71 72 (.ireturn) 0 := r158 (len := 1) (by decide +kernel) rfl
theorem e158_72 : amT 158 72 75 (.iinc 1 1) 0 := r158 (len := 3) (by decide +kernel) rfl
theorem e158_75 : amT 158 75 78 (.goto (-27)) 0 := r158 (len := 3) (by decide +kernel) rfl
theorem t158_75 : amTg 75 (-27) = some 48 := by decide
theorem e158_78 : amT 158 78 79 (.iconst 0) 0 := r158 (len := 1) (by decide +kernel) rfl
theorem e158_79 : amT 158 79 80 (.istore_n 1) 0 := r158 (len := 1) (by decide +kernel) rfl
theorem e158_80 : amT 158 80 81 (.iload_n 1) 0 := r158 (len := 1) (by decide +kernel) rfl
theorem e158_81 : amT 158 81 82 (.iconst 5) 0 := r158 (len := 1) (by decide +kernel) rfl
theorem e158_82 : amT 158 82 85 (.if_icmp .ge 29) 0 := r158 (len := 3) (by decide +kernel) rfl
theorem t158_82 : amTg 82 29 = some 111 := by decide
theorem e158_85 : amT 158 85 86 (.aload_n 0) 0 := r158 (len := 1) (by decide +kernel) rfl
theorem e158_86 : amT 158 86 89 (.getfield 19) 769 := r158 (len := 3) (by decide +kernel) rfl
theorem e158_89 : amT 158 89 90 (.iconst 5) 0 := r158 (len := 1) (by decide +kernel) rfl
theorem e158_90 : amT 158 90 91 (.aload_n 0) 0 := r158 (len := 1) (by decide +kernel) rfl
theorem e158_91 : amT 158 91 94 (.getfield 104) 770 := r158 (len := 3) (by decide +kernel) rfl
theorem e158_94 : amT 158 94 95 (.imul) 0 := r158 (len := 1) (by decide +kernel) rfl
theorem e158_95 : amT 158 95 96 (.iload_n 1) 0 := r158 (len := 1) (by decide +kernel) rfl
theorem e158_96 : amT 158 96 97 (.iadd) 0 := r158 (len := 1) (by decide +kernel) rfl
theorem e158_97 : amT 158 97 98 (.aload_n 0) 0 := r158 (len := 1) (by decide +kernel) rfl
theorem e158_98 : amT 158 98 101 (.getfield 32) 774 := r158 (len := 3) (by decide +kernel) rfl
theorem e158_101 : amT 158 101 102 (.iload_n 1) 0 := r158 (len := 1) (by decide +kernel) rfl
theorem e158_102 : amT 158 102 103 (.laload) 0 := r158 (len := 1) (by decide +kernel) rfl
theorem e158_103 : amT 158 103 104 (.l2i) 0 := r158 (len := 1) (by decide +kernel) rfl
theorem e158_104 : amT 158 104 105 (.iastore) 0 := r158 (len := 1) (by decide +kernel) rfl
theorem e158_105 : amT 158 105 108 (.iinc 1 1) 0 := r158 (len := 3) (by decide +kernel) rfl
theorem e158_108 : amT 158 108 111 (.goto (-28)) 0 := r158 (len := 3) (by decide +kernel) rfl
theorem t158_108 : amTg 108 (-28) = some 80 := by decide
theorem e158_111 : amT 158 111 112 (.aload_n 0) 0 := r158 (len := 1) (by decide +kernel) rfl
theorem e158_112 : amT 158 112 113 (.dup) 0 := r158 (len := 1) (by decide +kernel) rfl
theorem e158_113 : amT 158 113 116 (.getfield 104) 770 := r158 (len := 3) (by decide +kernel) rfl
theorem e158_116 : amT 158 116 117 (.iconst 1) 0 := r158 (len := 1) (by decide +kernel) rfl
theorem e158_117 : amT 158 117 118 (.iadd) 0 := r158 (len := 1) (by decide +kernel) rfl
theorem e158_118 : amT 158 118 121 (.putfield 104) 770 := r158 (len := 3) (by decide +kernel) rfl
theorem e158_121 : amT 158 121 122 (.aload_n 0) 0 := r158 (len := 1) (by decide +kernel) rfl
theorem e158_122 : amT 158 122 125 (.getfield 104) 770 := r158 (len := 3) (by decide +kernel) rfl
theorem e158_125 : amT 158 125 126 (.iconst 1) 0 := r158 (len := 1) (by decide +kernel) rfl
theorem e158_126 : amT 158 126 127 (.isub) 0 := r158 (len := 1) (by decide +kernel) rfl
theorem e158_127 : amT 158 127 128 (.ireturn) 0 := r158 (len := 1) (by decide +kernel) rfl
theorem q159 : amCs.getD 159 [] = amC_159 := rfl
theorem r159 {pc pc' len op : Nat} {i : Instr} (h : amC_159.lookup pc = some (i, len, op)) (h2 : pc + len = pc') : amT 159 pc pc' i op := ⟨len, by unfold amEnt; rw [q159]; exact h, h2⟩
theorem e159_0 : amT 159 0 1 (.iload_n 0) 0 := r159 (len := 1) (by decide +kernel) rfl
theorem e159_1 : amT 159 1 2 (.i2l) 0 := r159 (len := 1) (by decide +kernel) rfl
theorem e159_2 : amT 159 2 5 (.ldc2_w 121) 6 := r159 (len := 3) (by decide +kernel) rfl
theorem e159_5 : amT 159 5 8 (.ldc2_w 119) 5 := r159 (len := 3) (by decide +kernel) rfl
theorem e159_8 : amT 159 8 11 (.invokestatic 107) 152 := r159 (len := 3) (by decide +kernel) rfl
theorem e159_11 : amT 159 11 12 (.ireturn) 0 := r159 (len := 1) (by decide +kernel) rfl
theorem q160 : amCs.getD 160 [] = amC_160 := rfl
theorem r160 {pc pc' len op : Nat} {i : Instr} (h : amC_160.lookup pc = some (i, len, op)) (h2 : pc + len = pc') : amT 160 pc pc' i op := ⟨len, by unfold amEnt; rw [q160]; exact h, h2⟩
theorem e160_0 : amT 160 0 1 (.iload_n 1) 0 := r160 (len := 1) (by decide +kernel) rfl
theorem e160_1 : amT 160 1 4 (.invokestatic 123) 159 := r160 (len := 3) (by decide +kernel) rfl
theorem e160_4 : amT 160 4 7 (.ifCond .eq 33) 0 := r160 (len := 3) (by decide +kernel) rfl
theorem t160_4 : amTg 4 33 = some 37 := by decide
theorem e160_7 : amT 160 7 8 (.iload_n 2) 0 := r160 (len := 1) (by decide +kernel) rfl
theorem e160_8 : amT 160 8 11 (.invokestatic 123) 159 := r160 (len := 3) (by decide +kernel) rfl
theorem e160_11 : amT 160 11 14 (.ifCond .eq 26) 0 := r160 (len := 3) (by decide +kernel) rfl
theorem t160_11 : amTg 11 26 = some 37 := by decide
theorem e160_14 : amT 160 14 15 (.iload_n 3) 0 := r160 (len := 1) (by decide +kernel) rfl
theorem e160_15 : amT 160 15 18 (.invokestatic 123) 159 := r160 (len := 3) (by decide +kernel) rfl
theorem e160_18 : amT 160 18 21 (.ifCond .eq 19) 0 := r160 (len := 3) (by decide +kernel) rfl
theorem t160_18 : amTg 18 19 = some 37 := by decide
theorem e160_21 : amT 160 21 23 (.iload 4) 0 := r160 (len := 2) (by decide +kernel) rfl
theorem e160_23 : amT 160 23 26 (.invokestatic 123) 159 := r160 (len := 3) (by decide +kernel) rfl
theorem e160_26 : amT 160 26 29 (.ifCond .eq 11) 0 := r160 (len := 3) (by decide +kernel) rfl
theorem t160_26 : amTg 26 11 = some 37 := by decide
theorem e160_29 : amT 160 29 31 (.iload 5) 0 := r160 (len := 2) (by decide +kernel) rfl
theorem e160_31 : amT 160 31 34 (.invokestatic 123) 159 := r160 (len := 3) (by decide +kernel) rfl
theorem e160_34 : amT 160 34 37 (.ifCond .ne 5) 0 := r160 (len := 3) (by decide +kernel) rfl
theorem t160_34 : amTg 34 5 = some 39 := by decide
theorem e160_37 : amT 160 37 38 (.iconst (-1)) 0 := r160 (len := 1) (by decide +kernel) rfl
theorem e160_38 : amT 160 38 39 (.ireturn) 0 := r160 (len := 1) (by decide +kernel) rfl
theorem e160_39 : amT 160 39 40 (.aload_n 0) 0 := r160 (len := 1) (by decide +kernel) rfl
theorem e160_40 : amT 160 40 43 (.getfield 32) 774 := r160 (len := 3) (by decide +kernel) rfl
theorem e160_43 : amT 160 43 46 (.invokestatic 127) 171 := r160 (len := 3) (by decide +kernel) rfl
theorem e160_46 : amT 160 46 47 (.aload_n 0) 0 := r160 (len := 1) (by decide +kernel) rfl
theorem e160_47 : amT 160 47 50 (.getfield 32) 774 := r160 (len := 3) (by decide +kernel) rfl
theorem e160_50 : amT 160 50 51 (.iconst 0) 0 := r160 (len := 1) (by decide +kernel) rfl
theorem e160_51 : amT 160 51 52 (.iload_n 1) 0 := r160 (len := 1) (by decide +kernel) rfl
theorem e160_52 : amT 160 52 53 (.i2l) 0 := r160 (len := 1) (by decide +kernel) rfl
theorem e160_53 : amT 160 53 54 (.lastore) 0 := r160 (len := 1) (by decide +kernel) rfl
theorem e160_54 : amT 160 54 55 (.aload_n 0) 0 := r160 (len := 1) (by decide +kernel) rfl
theorem e160_55 : amT 160 55 58 (.getfield 32) 774 := r160 (len := 3) (by decide +kernel) rfl
theorem e160_58 : amT 160 58 59 (.iconst 1) 0 := r160 (len := 1) (by decide +kernel) rfl
theorem e160_59 : amT 160 59 60 (.iload_n 2) 0 := r160 (len := 1) (by decide +kernel) rfl
theorem e160_60 : amT 160 60 61 (.i2l) 0 := r160 (len := 1) (by decide +kernel) rfl
theorem e160_61 : amT 160 61 62 (.lastore) 0 := r160 (len := 1) (by decide +kernel) rfl
theorem e160_62 : amT 160 62 63 (.aload_n 0) 0 := r160 (len := 1) (by decide +kernel) rfl
theorem e160_63 : amT 160 63 66 (.getfield 32) 774 := r160 (len := 3) (by decide +kernel) rfl
theorem e160_66 : amT 160 66 67 (.iconst 2) 0 := r160 (len := 1) (by decide +kernel) rfl
theorem e160_67 : amT 160 67 68 (.iload_n 3) 0 := r160 (len := 1) (by decide +kernel) rfl
theorem e160_68 : amT 160 68 69 (.i2l) 0 := r160 (len := 1) (by decide +kernel) rfl
theorem e160_69 : amT 160 69 70 (.lastore) 0 := r160 (len := 1) (by decide +kernel) rfl
theorem e160_70 : amT 160 70 71 (.aload_n 0) 0 := r160 (len := 1) (by decide +kernel) rfl
theorem e160_71 : amT 160 71 74 (.getfield 32) 774 := r160 (len := 3) (by decide +kernel) rfl
theorem e160_74 : amT 160 74 75 (.iconst 3) 0 := r160 (len := 1) (by decide +kernel) rfl
theorem e160_75 : amT 160 75 77 (.iload 4) 0 := r160 (len := 2) (by decide +kernel) rfl
theorem e160_77 : amT 160 77 78 (.i2l) 0 := r160 (len := 1) (by decide +kernel) rfl
theorem e160_78 : amT 160 78 79 (.lastore) 0 := r160 (len := 1) (by decide +kernel) rfl
theorem e160_79 : amT 160 79 80 (.aload_n 0) 0 := r160 (len := 1) (by decide +kernel) rfl
theorem e160_80 : amT 160 80 83 (.getfield 32) 774 := r160 (len := 3) (by decide +kernel) rfl
theorem e160_83 : amT 160 83 84 (.iconst 4) 0 := r160 (len := 1) (by decide +kernel) rfl
theorem e160_84 : amT 160 84 86 (.iload 5) 0 := r160 (len := 2) (by decide +kernel) rfl
theorem e160_86 : amT 160 86 87 (.i2l) 0 := r160 (len := 1) (by decide +kernel) rfl
theorem e160_87 : amT 160 87 88 (.lastore) 0 := r160 (len := 1) (by decide +kernel) rfl
theorem e160_88 : amT 160 88 89 (.aload_n 0) 0 := r160 (len := 1) (by decide +kernel) rfl
theorem e160_89 : amT 160 89 90 (.iconst 0) 0 := r160 (len := 1) (by decide +kernel) rfl
theorem e160_90 : amT 160 90 93 (.putfield 111) 777 := r160 (len := 3) (by decide +kernel) rfl
theorem e160_93 : amT 160 93 94 (.aload_n 0) 0 := r160 (len := 1) (by decide +kernel) rfl
theorem e160_94 : amT 160 94 97 (.invokevirtual 131) 158 := r160 (len := 3) (by decide +kernel) rfl
theorem e160_97 : amT 160 97 98 (.ireturn) 0 := r160 (len := 1) (by decide +kernel) rfl
theorem q161 : amCs.getD 161 [] = amC_161 := rfl
theorem r161 {pc pc' len op : Nat} {i : Instr} (h : amC_161.lookup pc = some (i, len, op)) (h2 : pc + len = pc') : amT 161 pc pc' i op := ⟨len, by unfold amEnt; rw [q161]; exact h, h2⟩
theorem e161_0 : amT 161 0 1 (.aload_n 0) 0 := r161 (len := 1) (by decide +kernel) rfl
theorem e161_1 : amT 161 1 4 (.getfield 104) 770 := r161 (len := 3) (by decide +kernel) rfl
theorem e161_4 : amT 161 4 7 (.ifCond .ne 6) 0 := r161 (len := 3) (by decide +kernel) rfl
theorem t161_4 : amTg 4 6 = some 10 := by decide
theorem e161_7 : amT 161 7 9 (.bipush (-6)) 0 := r161 (len := 2) (by decide +kernel) rfl
theorem e161_9 : amT 161 9 10 (.ireturn) 0 := r161 (len := 1) (by decide +kernel) rfl
theorem e161_10 : amT 161 10 11 (.aload_n 0) 0 := r161 (len := 1) (by decide +kernel) rfl
theorem e161_11 : amT 161 11 12 (.dup) 0 := r161 (len := 1) (by decide +kernel) rfl
theorem e161_12 : amT 161 12 15 (.getfield 104) 770 := r161 (len := 3) (by decide +kernel) rfl
theorem e161_15 : amT 161 15 16 (.iconst 1) 0 := r161 (len := 1) (by decide +kernel) rfl
theorem e161_16 : amT 161 16 17 (.isub) 0 := r161 (len := 1) (by decide +kernel) rfl
theorem e161_17 : amT 161 17 20 (.putfield 104) 770 := r161 (len := 3) (by decide +kernel) rfl
theorem e161_20 : amT 161 20 21 (.aload_n 0) 0 := r161 (len := 1) (by decide +kernel) rfl
theorem e161_21 : amT 161 21 24 (.getfield 104) 770 := r161 (len := 3) (by decide +kernel) rfl
theorem e161_24 : amT 161 24 25 (.ireturn) 0 := r161 (len := 1) (by decide +kernel) rfl
theorem q162 : amCs.getD 162 [] = amC_162 := rfl
theorem r162 {pc pc' len op : Nat} {i : Instr} (h : amC_162.lookup pc = some (i, len, op)) (h2 : pc + len = pc') : amT 162 pc pc' i op := ⟨len, by unfold amEnt; rw [q162]; exact h, h2⟩
theorem e162_0 : amT 162 0 1 (.aload_n 0) 0 := r162 (len := 1) (by decide +kernel) rfl
theorem e162_1 : amT 162 1 2 (.iload_n 1) 0 := r162 (len := 1) (by decide +kernel) rfl
theorem e162_2 : amT 162 2 5 (.invokevirtual 135) 157 := r162 (len := 3) (by decide +kernel) rfl
theorem e162_5 : amT 162 5 8 (.ifCond .eq 29) 0 := r162 (len := 3) (by decide +kernel) rfl
theorem t162_5 : amTg 5 29 = some 34 := by decide
theorem e162_8 : amT 162 8 9 (.iload_n 2) 0 := r162 (len := 1) (by decide +kernel) rfl
theorem e162_9 : amT 162 9 10 (.i2l) 0 := r162 (len := 1) (by decide +kernel) rfl
theorem e162_10 : amT 162 10 11 (.lconst 0) 0 := r162 (len := 1) (by decide +kernel) rfl
theorem e162_11 : amT 162 11 14 (.ldc2_w 138) 7 := r162 (len := 3) (by decide +kernel) rfl
theorem e162_14 : amT 162 14 17 (.invokestatic 107) 152 := r162 (len := 3) (by decide +kernel) rfl
theorem e162_17 : amT 162 17 20 (.ifCond .eq 17) 0 := r162 (len := 3) (by decide +kernel) rfl
theorem t162_17 : amTg 17 17 = some 34 := by decide
theorem e162_20 : amT 162 20 21 (.aload_n 0) 0 := r162 (len := 1) (by decide +kernel) rfl
theorem e162_21 : amT 162 21 24 (.getfield 19) 769 := r162 (len := 3) (by decide +kernel) rfl
theorem e162_24 : amT 162 24 25 (.iconst 5) 0 := r162 (len := 1) (by decide +kernel) rfl
theorem e162_25 : amT 162 25 26 (.iload_n 1) 0 := r162 (len := 1) (by decide +kernel) rfl
theorem e162_26 : amT 162 26 27 (.imul) 0 := r162 (len := 1) (by decide +kernel) rfl
theorem e162_27 : amT 162 27 28 (.iload_n 2) 0 := r162 (len := 1) (by decide +kernel) rfl
theorem e162_28 : amT 162 28 29 (.iadd) 0 := r162 (len := 1) (by decide +kernel) rfl
theorem e162_29 : amT 162 29 30 (.iaload) 0 := r162 (len := 1) (by decide +kernel) rfl
theorem e162_30 : amT 162 30 31 (.i2l) 0 := r162 (len := 1) (by decide +kernel) rfl
theorem e162_31 : amT 162 31 34 (.goto 6) 0 := r162 (len := 3) (by decide +kernel) rfl
theorem t162_31 : amTg 31 6 = some 37 := by decide
theorem e162_34 : amT 162 34 37 (.ldc2_w 140) 4 := r162 (len := 3) (by decide +kernel) rfl
theorem e162_37 : amT 162 37 38 (.lreturn) 0 := r162 (len := 1) (by decide +kernel) rfl
theorem q163 : amCs.getD 163 [] = amC_163 := rfl
theorem r163 {pc pc' len op : Nat} {i : Instr} (h : amC_163.lookup pc = some (i, len, op)) (h2 : pc + len = pc') : amT 163 pc pc' i op := ⟨len, by unfold amEnt; rw [q163]; exact h, h2⟩
theorem e163_0 : amT 163 0 1 (.aload_n 2) 0 := r163 (len := 1) (by decide +kernel) rfl
theorem e163_1 : amT 163 1 4 (.invokestatic 127) 171 := r163 (len := 3) (by decide +kernel) rfl
theorem e163_4 : amT 163 4 5 (.iconst 0) 0 := r163 (len := 1) (by decide +kernel) rfl
theorem e163_5 : amT 163 5 6 (.istore_n 3) 0 := r163 (len := 1) (by decide +kernel) rfl
theorem e163_6 : amT 163 6 7 (.iload_n 3) 0 := r163 (len := 1) (by decide +kernel) rfl
theorem e163_7 : amT 163 7 8 (.iconst 5) 0 := r163 (len := 1) (by decide +kernel) rfl
theorem e163_8 : amT 163 8 11 (.if_icmp .ge 23) 0 := r163 (len := 3) (by decide +kernel) rfl
theorem t163_8 : amTg 8 23 = some 31 := by decide
theorem e163_11 : amT 163 11 12 (.aload_n 2) 0 := r163 (len := 1) (by decide +kernel) rfl
theorem e163_12 : amT 163 12 13 (.iload_n 3) 0 := r163 (len := 1) (by decide +kernel) rfl
theorem e163_13 : amT 163 13 14 (.aload_n 0) 0 := r163 (len := 1) (by decide +kernel) rfl
theorem e163_14 : amT 163 14 17 (.getfield 19) 769 := r163 (len := 3) (by decide +kernel) rfl
theorem e163_17 : amT 163 17 18 (.iconst 5) 0 := r163 (len := 1) (by decide +kernel) rfl
theorem e163_18 : amT 163 18 19 (.iload_n 1) 0 := r163 (len := 1) (by decide +kernel) rfl
theorem e163_19 : amT 163 19 20 (.imul) 0 := r163 (len := 1) (by decide +kernel) rfl
theorem e163_20 : amT 163 20 21 (.iload_n 3) 0 := r163 (len := 1) (by decide +kernel) rfl
theorem e163_21 : amT 163 21 22 (.iadd) 0 := r163 (len := 1) (by decide +kernel) rfl
theorem e163_22 : amT 163 22 23 (.iaload) 0 := r163 (len := 1) (by decide +kernel) rfl
theorem e163_23 : amT 163 23 24 (.i2l) 0 := r163 (len := 1) (by decide +kernel) rfl
theorem e163_24 : amT 163 24 25 (.lastore) 0 := r163 (len := 1) (by decide +kernel) rfl
theorem e163_25 : amT 163 25 28 (.iinc 3 1) 0 := r163 (len := 3) (by decide +kernel) rfl
theorem e163_28 : amT 163 28 31 (.goto (-22)) 0 := r163 (len := 3) (by decide +kernel) rfl
theorem t163_28 : amTg 28 (-22) = some 6 := by decide
theorem e163_31 : amT 163 31 32 (.return_) 0 := r163 (len := 1) (by decide +kernel) rfl
theorem q164 : amCs.getD 164 [] = amC_164 := rfl
theorem r164 {pc pc' len op : Nat} {i : Instr} (h : amC_164.lookup pc = some (i, len, op)) (h2 : pc + len = pc') : amT 164 pc pc' i op := ⟨len, by unfold amEnt; rw [q164]; exact h, h2⟩
theorem e164_0 : amT 164 0 1 (.iconst 0) 0 := r164 (len := 1) (by decide +kernel) rfl
theorem e164_1 : amT 164 1 2 (.istore_n 1) 0 := r164 (len := 1) (by decide +kernel) rfl
theorem e164_2 : amT 164 2 3 (.iconst 0) 0 := r164 (len := 1) (by decide +kernel) rfl
theorem e164_3 : amT 164 3 4 (.istore_n 2) 0 := r164 (len := 1) (by decide +kernel) rfl
theorem e164_4 : amT 164 4 5 (.iconst 0) 0 := r164 (len := 1) (by decide +kernel) rfl
theorem e164_5 : amT 164 5 6 (.istore_n 3) 0 := r164 (len := 1) (by decide +kernel) rfl
theorem e164_6 : amT 164 6 7 (.iload_n 3) 0 := r164 (len := 1) (by decide +kernel) rfl
theorem e164_7 : amT 164 7 8 (.iconst 5) 0 := r164 (len := 1) (by decide +kernel) rfl
theorem e164_8 : amT 164 8 11 (.if_icmp .ge 55) 0 := r164 (len := 3) (by decide +kernel) rfl
theorem t164_8 : amTg 8 55 = some 63 := by decide
theorem e164_11 : amT 164 11 12 (.aload_n 0) 0 := r164 (len := 1) (by decide +kernel) rfl
theorem e164_12 : amT 164 12 15 (.getfield 36) 775 := r164 (len := 3) (by decide +kernel) rfl
theorem e164_15 : amT 164 15 16 (.iload_n 3) 0 := r164 (len := 1) (by decide +kernel) rfl
theorem e164_16 : amT 164 16 17 (.laload) 0 := r164 (len := 1) (by decide +kernel) rfl
theorem e164_17 : amT 164 17 20 (.invokestatic 142) 154 := r164 (len := 3) (by decide +kernel) rfl
theorem e164_20 : amT 164 20 22 (.istore 4) 0 := r164 (len := 2) (by decide +kernel) rfl
theorem e164_22 : amT 164 22 23 (.iload_n 1) 0 := r164 (len := 1) (by decide +kernel) rfl
theorem e164_23 : amT 164 23 25 (.iload 4) 0 := r164 (len := 2) (by decide +kernel) rfl
theorem e164_25 : amT 164 25 28 (.ifCond .eq 17) 0 := r164 (len := 3) (by decide +kernel) rfl
theorem t164_25 : amTg 25 17 = some 42 := by decide
theorem e164_28 : amT 164 28 29 (.iload_n 2) 0 := r164 (len := 1) (by decide +kernel) rfl
theorem e164_29 : amT 164 29 32 (.ifCond .eq 13) 0 := r164 (len := 3) (by decide +kernel) rfl
theorem t164_29 : amTg 29 13 = some 42 := by decide
theorem e164_32 : amT 164 32 34 (.iload 4) 0 := r164 (len := 2) (by decide +kernel) rfl
theorem e164_34 : amT 164 34 35 (.iload_n 2) 0 := r164 (len := 1) (by decide +kernel) rfl
theorem e164_35 : amT 164 35 38 (.if_icmp .eq 7) 0 := r164 (len := 3) (by decide +kernel) rfl
theorem t164_35 : amTg 35 7 = some 42 := by decide
theorem e164_38 : amT 164 38 39 (.iconst 1) 0 := r164 (len := 1) (by decide +kernel) rfl
theorem e164_39 : amT 164 39 42 (.goto 4) 0 := r164 (len := 3) (by decide +kernel) rfl
theorem t164_39 : amTg 39 4 = some 43 := by decide
theorem e164_42 : amT 164 42 43 (.iconst 0) 0 := r164 (len := 1) (by decide +kernel) rfl
theorem e164_43 : amT 164 43 44 (.iadd) 0 := r164 (len := 1) (by decide +kernel) rfl
theorem e164_44 : amT 164 44 45 (.istore_n 1) 0 := r164 (len := 1) (by decide +kernel) rfl
theorem e164_45 : amT 164 45 47 (.iload 4) 0 := r164 (len := 2) (by decide +kernel) rfl
theorem e164_47 : amT 164 47 50 (.ifCond .eq 8) 0 := r164 (len := 3) (by decide +kernel) rfl
theorem t164_47 : amTg 47 8 = some 55 := by decide
theorem e164_50 : amT 164 50 52 (.iload 4) 0 := r164 (len := 2) (by decide +kernel) rfl
theorem e164_52 : amT 164 52 55 (.goto 4) 0 := r164 (len := 3) (by decide +kernel) rfl
theorem t164_52 : amTg 52 4 = some 56 := by decide
theorem e164_55 : amT 164 55 56 (.iload_n 2) 0 := r164 (len := 1) (by decide +kernel) rfl
theorem e164_56 : amT 164 56 57 (.istore_n 2) 0 := r164 (len := 1) (by decide +kernel) rfl
theorem e164_57 : amT 164 57 60 (.iinc 3 1) 0 := r164 (len := 3) (by decide +kernel) rfl
theorem e164_60 : amT 164 60 63 (.goto (-54)) 0 := r164 (len := 3) (by decide +kernel) rfl
theorem t164_60 : amTg 60 (-54) = some 6 := by decide
theorem e164_63 : amT 164 63 64 (.iload_n 1) 0 := r164 (len := 1) (by decide +kernel) rfl
theorem e164_64 : amT 164 64 65 (.ireturn) 0 := r164 (len := 1) (by decide +kernel) rfl
theorem q165 : amCs.getD 165 [] = amC_165 := rfl
theorem r165 {pc pc' len op : Nat} {i : Instr} (h : amC_165.lookup pc = some (i, len, op)) (h2 : pc + len = pc') : amT 165 pc pc' i op := ⟨len, by unfold amEnt; rw [q165]; exact h, h2⟩
theorem e165_0 : amT 165 0 1 (.iconst 0) 0 := r165 (len := 1) (by decide +kernel) rfl
theorem e165_1 : amT 165 1 2 (.istore_n 2) 0 := r165 (len := 1) (by decide +kernel) rfl
theorem e165_2 : amT 165 2 3 (.iconst 0) 0 := r165 (len := 1) (by decide +kernel) rfl
theorem e165_3 : amT 165 3 4 (.istore_n 3) 0 := r165 (len := 1) (by decide +kernel) rfl
theorem e165_4 : amT 165 4 5 (.iload_n 3) 0 := r165 (len := 1) (by decide +kernel) rfl
theorem e165_5 : amT 165 5 6 (.aload_n 0) 0 := r165 (len := 1) (by decide +kernel) rfl
theorem e165_6 : amT 165 6 9 (.getfield 104) 770 := r165 (len := 3) (by decide +kernel) rfl
theorem e165_9 : amT 165 9 12 (.if_icmp .ge 77) 0 := r165 (len := 3) (by decide +kernel) rfl
theorem t165_9 : amTg 9 77 = some 86 := by decide
theorem e165_12 : amT 165 12 13 (.iconst 1) 0 := r165 (len := 1) (by decide +kernel) rfl
theorem e165_13 : amT 165 13 15 (.istore 4) 0 := r165 (len := 2) (by decide +kernel) rfl
theorem e165_15 : amT 165 15 16 (.iconst 0) 0 := r165 (len := 1) (by decide +kernel) rfl
theorem e165_16 : amT 165 16 18 (.istore 5) 0 := r165 (len := 2) (by decide +kernel) rfl
theorem e165_18 : amT 165 18 20 (.iload 5) 0 := r165 (len := 2) (by decide +kernel) rfl
theorem e165_20 : amT 165 20 21 (.iconst 5) 0 := r165 (len := 1) (by decide +kernel) rfl
theorem e165_21 : amT 165 21 24 (.if_icmp .ge 46) 0 := r165 (len := 3) (by decide +kernel) rfl
theorem t165_21 : amTg 21 46 = some 67 := by decide
theorem e165_24 : amT 165 24 26 (.iload 4) 0 := r165 (len := 2) (by decide +kernel) rfl
theorem e165_26 : amT 165 26 29 (.ifCond .eq 32) 0 := r165 (len := 3) (by decide +kernel) rfl
theorem t165_26 : amTg 26 32 = some 58 := by decide
theorem e165_29 : amT 165 29 30 (.aload_n 0) 0 := r165 (len := 1) (by decide +kernel) rfl
theorem e165_30 : amT 165 30 33 (.getfield 19) 769 := r165 (len := 3) (by decide +kernel) rfl
theorem e165_33 : amT 165 33 34 (.iconst 5) 0 := r165 (len := 1) (by decide +kernel) rfl
theorem e165_34 : amT 165 34 35 (.iload_n 1) 0 := r165 (len := 1) (by decide +kernel) rfl
theorem e165_35 : amT 165 35 36 (.imul) 0 := r165 (len := 1) (by decide +kernel) rfl
theorem e165_36 : amT 165 36 38 (.iload 5) 0 := r165 (len := 2) (by decide +kernel) rfl
theorem e165_38 : amT 165 38 39 (.iadd) 0 := r165 (len := 1) (by decide +kernel) rfl
theorem e165_39 : amT 165 39 40 (.iaload) 0 := r165 (len := 1) (by decide +kernel) rfl
theorem e165_40 : amT 165 40 41 (.aload_n 0) 0 := r165 (len := 1) (by decide +kernel) rfl
theorem e165_41 : amT 165 41 44 (.getfield 19) 769 := r165 (len := 3) (by decide +kernel) rfl
theorem e165_44 : amT 165 44 45 (.iconst 5) 0 := r165 (len := 1) (by decide +kernel) rfl
theorem e165_45 : amT 165 45 46 (.iload_n 3) 0 := r165 (len := 1) (by decide +kernel) rfl
theorem e165_46 : amT 165 46 47 (.imul) 0 := r165 (len := 1) (by decide +kernel) rfl
theorem e165_47 : amT 165 47 49 (.iload 5) 0 := r165 (len := 2) (by decide +kernel) rfl
theorem e165_49 : amT 165 49 50 (.iadd) 0 := r165 (len := 1) (by decide +kernel) rfl
theorem e165_50 : amT 165 50 51 (.iaload) 0 := r165 (len := 1) (by decide +kernel) rfl
theorem e165_51 : amT 165 51 54 (.if_icmp .ne 7) 0 := r165 (len := 3) (by decide +kernel) rfl
theorem t165_51 : amTg 51 7 = some 58 := by decide
theorem e165_54 : amT 165 54 55 (.iconst 1) 0 := r165 (len := 1) (by decide +kernel) rfl
theorem e165_55 : amT 165 55 58 (.goto 4) 0 := r165 (len := 3) (by decide +kernel) rfl
theorem t165_55 : amTg 55 4 = some 59 := by decide
theorem e165_58 : amT 165 58 59 (.iconst 0) 0 := r165 (len := 1) (by decide +kernel) rfl
theorem e165_59 : amT 165 59 61 (.istore 4) 0 := r165 (len := 2) (by decide +kernel) rfl
theorem e165_61 : amT 165 61 64 (.iinc 5 1) 0 := r165 (len := 3) (by decide +kernel) rfl
theorem e165_64 : amT 165 64 67 (.goto (-46)) 0 := r165 (len := 3) (by decide +kernel) rfl
theorem t165_64 : amTg 64 (-46) = some 18 := by decide
theorem e165_67 : amT 165 67 68 (.iload_n 2) 0 := r165 (len := 1) (by decide +kernel) rfl
theorem e165_68 : amT 165 68 70 (.iload 4) 0 := r165 (len := 2) (by decide +kernel) rfl
theorem e165_70 : amT 165 70 73 (.ifCond .eq 7) 0 := r165 (len := 3) (by decide +kernel) rfl
theorem t165_70 : amTg 70 7 = some 77 := by decide
theorem e165_73 : amT 165 73 74 (.iconst 1) 0 := r165 (len := 1) (by decide +kernel) rfl
theorem e165_74 : amT 165 74 77 (.goto 4) 0 := r165 (len := 3) (by decide +kernel) rfl
theorem t165_74 : amTg 74 4 = some 78 := by decide
theorem e165_77 : amT 165 77 78 (.iconst 0) 0 := r165 (len := 1) (by decide +kernel) rfl
theorem e165_78 : amT 165 78 79 (.iadd) 0 := r165 (len := 1) (by decide +kernel) rfl
theorem e165_79 : amT 165 79 80 (.istore_n 2) 0 := r165 (len := 1) (by decide +kernel) rfl
theorem e165_80 : amT 165 80 83 (.iinc 3 1) 0 := r165 (len := 3) (by decide +kernel) rfl
theorem e165_83 : amT 165 83 86 (.goto (-79)) 0 := r165 (len := 3) (by decide +kernel) rfl
theorem t165_83 : amTg 83 (-79) = some 4 := by decide
theorem e165_86 : amT 165 86 87 (.iload_n 2) 0 := r165 (len := 1) (by decide +kernel) rfl
theorem e165_87 : amT 165 87 88 (.ireturn) 0 := r165 (len := 1) (by decide +kernel) rfl
theorem q166 : amCs.getD 166 [] = amC_166 := rfl
theorem r166 {pc pc' len op : Nat} {i : Instr} (h : amC_166.lookup pc = some (i, len, op)) (h2 : pc + len = pc') : amT 166 pc pc' i op := ⟨len, by unfold amEnt; rw [q166]; exact h, h2⟩
theorem e166_0 : amT 166 0 1 (.aload_n 0) 0 := r166 (len := 1) (by decide +kernel) rfl
theorem e166_1 : amT 166 1 2 (.iload_n 1) 0 := r166 (len := 1) (by decide +kernel) rfl
theorem e166_2 : amT 166 2 5 (.invokevirtual 135) 157 := r166 (len := 3) (by decide +kernel) rfl
theorem e166_5 : amT 166 5 8 (.ifCond .eq 15) 0 := r166 (len := 3) (by decide +kernel) rfl
theorem t166_5 : amTg 5 15 = some 20 := by decide
theorem e166_8 : amT 166 8 9 (.iload_n 2) 0 := r166 (len := 1) (by decide +kernel) rfl
theorem e166_9 : amT 166 9 10 (.i2l) 0 := r166 (len := 1) (by decide +kernel) rfl
theorem e166_10 : amT 166 10 11 (.lconst 0) 0 := r166 (len := 1) (by decide +kernel) rfl
theorem e166_11 : amT 166 11 14 (.ldc2_w 146) 3 := r166 (len := 3) (by decide +kernel) rfl
theorem e166_14 : amT 166 14 17 (.invokestatic 107) 152 := r166 (len := 3) (by decide +kernel) rfl
theorem e166_17 : amT 166 17 20 (.ifCond .ne 5) 0 := r166 (len := 3) (by decide +kernel) rfl
theorem t166_17 : amTg 17 5 = some 22 := by decide
theorem e166_20 : amT 166 20 21 (.iconst (-1)) 0 := r166 (len := 1) (by decide +kernel) rfl
theorem e166_21 : amT 166 21 22 (.ireturn) 0 := r166 (len := 1) (by decide +kernel) rfl
theorem e166_22 : amT 166 22 23 (.aload_n 0) 0 := r166 (len := 1) (by decide +kernel) rfl
theorem e166_23 : amT 166 23 24 (.iload_n 1) 0 := r166 (len := 1) (by decide +kernel) rfl
theorem e166_24 : amT 166 24 25 (.aload_n 0) 0 := r166 (len := 1) (by decide +kernel) rfl
theorem e166_25 : amT 166 25 28 (.getfield 36) 775 := r166 (len := 3) (by decide +kernel) rfl
theorem e166_28 : amT 166 28 31 (.invokevirtual 148) 163 := r166 (len := 3) (by decide +kernel) rfl
theorem e166_31 : amT 166 31 32 (.iload_n 2) 0 := r166 (len := 1) (by decide +kernel) rfl
theorem e166_32 : amT 166 32 35 (.ifCond .ne 13) 0 := r166 (len := 3) (by decide +kernel) rfl
theorem t166_32 : amTg 32 13 = some 45 := by decide
theorem e166_35 : amT 166 35 36 (.aload_n 0) 0 := r166 (len := 1) (by decide +kernel) rfl
theorem e166_36 : amT 166 36 39 (.getfield 36) 775 := r166 (len := 3) (by decide +kernel) rfl
theorem e166_39 : amT 166 39 42 (.invokestatic 115) 173 := r166 (len := 3) (by decide +kernel) rfl
theorem e166_42 : amT 166 42 45 (.goto 20) 0 := r166 (len := 3) (by decide +kernel) rfl
theorem t166_42 : amTg 42 20 = some 62 := by decide
theorem e166_45 : amT 166 45 46 (.iload_n 2) 0 := r166 (len := 1) (by decide +kernel) rfl
theorem e166_46 : amT 166 46 47 (.iconst 1) 0 := r166 (len := 1) (by decide +kernel) rfl
theorem e166_47 : amT 166 47 50 (.if_icmp .ne 10) 0 := r166 (len := 3) (by decide +kernel) rfl
theorem t166_47 : amTg 47 10 = some 57 := by decide
theorem e166_50 : amT 166 50 51 (.aload_n 0) 0 := r166 (len := 1) (by decide +kernel) rfl
theorem e166_51 : amT 166 51 54 (.invokevirtual 152) 164 := r166 (len := 3) (by decide +kernel) rfl
theorem e166_54 : amT 166 54 57 (.goto 8) 0 := r166 (len := 3) (by decide +kernel) rfl
theorem t166_54 : amTg 54 8 = some 62 := by decide
theorem e166_57 : amT 166 57 58 (.aload_n 0) 0 := r166 (len := 1) (by decide +kernel) rfl
theorem e166_58 : amT 166 58 59 (.iload_n 1) 0 := r166 (len := 1) (by decide +kernel) rfl
theorem e166_59 : amT 166 59 62 (.invokevirtual 155) 165 := r166 (len := 3) (by decide +kernel) rfl
theorem e166_62 : amT 166 62 63 (.ireturn) 0 := r166 (len := 1) (by decide +kernel) rfl
theorem q167 : amCs.getD 167 [] = amC_167 := rfl
theorem r167 {pc pc' len op : Nat} {i : Instr} (h : amC_167.lookup pc = some (i, len, op)) (h2 : pc + len = pc') : amT 167 pc pc' i op := ⟨len, by unfold amEnt; rw [q167]; exact h, h2⟩
theorem e167_0 : amT 167 0 1 (.iload_n 1) 0 := r167 (len := 1) (by decide +kernel) rfl
theorem e167_1 : amT 167 1 2 (.i2l) 0 := r167 (len := 1) (by decide +kernel) rfl
theorem e167_2 : amT 167 2 3 (.lconst 1) 0 := r167 (len := 1) (by decide +kernel) rfl
theorem e167_3 : amT 167 3 6 (.ldc2_w 159) 8 := r167 (len := 3) (by decide +kernel) rfl
theorem e167_6 : amT 167 6 9 (.invokestatic 107) 152 := r167 (len := 3) (by decide +kernel) rfl
theorem e167_9 : amT 167 9 12 (.ifCond .eq 21) 0 := r167 (len := 3) (by decide +kernel) rfl
theorem t167_9 : amTg 9 21 = some 30 := by decide
theorem e167_12 : amT 167 12 13 (.iload_n 0) 0 := r167 (len := 1) (by decide +kernel) rfl
theorem e167_13 : amT 167 13 14 (.i2l) 0 := r167 (len := 1) (by decide +kernel) rfl
theorem e167_14 : amT 167 14 17 (.ldc2_w 161) 9 := r167 (len := 3) (by decide +kernel) rfl
theorem e167_17 : amT 167 17 20 (.ldc2_w 159) 8 := r167 (len := 3) (by decide +kernel) rfl
theorem e167_20 : amT 167 20 23 (.invokestatic 107) 152 := r167 (len := 3) (by decide +kernel) rfl
theorem e167_23 : amT 167 23 26 (.ifCond .eq 7) 0 := r167 (len := 3) (by decide +kernel) rfl
theorem t167_23 : amTg 23 7 = some 30 := by decide
theorem e167_26 : amT 167 26 27 (.iconst 1) 0 := r167 (len := 1) (by decide +kernel) rfl
theorem e167_27 : amT 167 27 30 (.goto 4) 0 := r167 (len := 3) (by decide +kernel) rfl
theorem t167_27 : amTg 27 4 = some 31 := by decide
theorem e167_30 : amT 167 30 31 (.iconst 0) 0 := r167 (len := 1) (by decide +kernel) rfl
theorem e167_31 : amT 167 31 32 (.ireturn) 0 := r167 (len := 1) (by decide +kernel) rfl
theorem q168 : amCs.getD 168 [] = amC_168 := rfl
theorem r168 {pc pc' len op : Nat} {i : Instr} (h : amC_168.lookup pc = some (i, len, op)) (h2 : pc + len = pc') : amT 168 pc pc' i op := ⟨len, by unfold amEnt; rw [q168]; exact h, h2⟩
theorem e168_0 : amT 168 0 1 (.lconst 1) 0 := r168 (len := 1) (by decide +kernel) rfl
theorem e168_1 : amT 168 1 2 (.lstore_n 3) 0 := r168 (len := 1) (by decide +kernel) rfl
theorem e168_2 : amT 168 2 3 (.iconst 0) 0 := r168 (len := 1) (by decide +kernel) rfl
theorem e168_3 : amT 168 3 5 (.istore 5) 0 := r168 (len := 2) (by decide +kernel) rfl
theorem e168_5 : amT 168 5 7 (.iload 5) 0 := r168 (len := 2) (by decide +kernel) rfl
theorem e168_7 : amT 168 7 8 (.iload_n 2) 0 := r168 (len := 1) (by decide +kernel) rfl
theorem e168_8 : amT 168 8 11 (.if_icmp .ge 13) 0 := r168 (len := 3) (by decide +kernel) rfl
theorem t168_8 : amTg 8 13 = some 21 := by decide
theorem e168_11 : amT 168 11 12 (.lload_n 3) 0 := r168 (len := 1) (by decide +kernel) rfl
theorem e168_12 : amT 168 12 13 (.lload_n 0) 0 := r168 (len := 1) (by decide +kernel) rfl
theorem e168_13 : amT 168 13 14 (.lmul) 0 := r168 (len := 1) (by decide +kernel) rfl
theorem e168_14 : amT 168 14 15 (.lstore_n 3) 0 := r168 (len := 1) (by decide +kernel) rfl
theorem e168_15 : amT 168 15 18 (.iinc 5 1) 0 := r168 (len := 3) (by decide +kernel) rfl
theorem e168_18 : amT 168 18 21 (.goto (-13)) 0 := r168 (len := 3) (by decide +kernel) rfl
theorem t168_18 : amTg 18 (-13) = some 5 := by decide
theorem e168_21 : amT 168 21 22 (.lload_n 3) 0 := r168 (len := 1) (by decide +kernel) rfl
theorem e168_22 : amT 168 22 23 (.lreturn) 0 := r168 (len := 1) (by decide +kernel) rfl
theorem q169 : amCs.getD 169 [] = amC_169 := rfl
theorem r169 {pc pc' len op : Nat} {i : Instr} (h : amC_169.lookup pc = some (i, len, op)) (h2 : pc + len = pc') : amT 169 pc pc' i op := ⟨len, by unfold amEnt; rw [q169]; exact h, h2⟩
theorem e169_0 : amT 169 0 1 (.aload_n 0) 0 := r169 (len := 1) (by decide +kernel) rfl
theorem e169_1 : amT 169 1 4 (.invokestatic 115) 173 := r169 (len := 3) (by decide +kernel) rfl
theorem e169_4 : amT 169 4 6 (.istore 5) 0 := r169 (len := 2) (by decide +kernel) rfl
theorem e169_6 : amT 169 6 7 (.lconst 0) 0 := r169 (len := 1) (by decide +kernel) rfl
theorem e169_7 : amT 169 7 9 (.lstore 6) 0 := r169 (len := 2) (by decide +kernel) rfl
theorem e169_9 : amT 169 9 10 (.iconst 0) 0 := r169 (len := 1) (by decide +kernel) rfl
theorem e169_10 : amT 169 10 12 (.istore 8) 0 := r169 (len := 2) (by decide +kernel) rfl
theorem e169_12 : amT 169 12 14 (.iload 8) 0 := r169 (len := 2) (by decide +kernel) rfl
theorem e169_14 : amT 169 14 16 (.iload 5) 0 := r169 (len := 2) (by decide +kernel) rfl
theorem e169_16 : amT 169 16 19 (.if_icmp .gt 35) 0 := r169 (len := 3) (by decide +kernel) rfl
theorem t169_16 : amTg 16 35 = some 51 := by decide
theorem e169_19 : amT 169 19 21 (.lload 6) 0 := r169 (len := 2) (by decide +kernel) rfl
theorem e169_21 : amT 169 21 22 (.aload_n 0) 0 := r169 (len := 1) (by decide +kernel) rfl
theorem e169_22 : amT 169 22 24 (.iload 8) 0 := r169 (len := 2) (by decide +kernel) rfl
theorem e169_24 : amT 169 24 25 (.laload) 0 := r169 (len := 1) (by decide +kernel) rfl
theorem e169_25 : amT 169 25 26 (.lload_n 1) 0 := r169 (len := 1) (by decide +kernel) rfl
theorem e169_26 : amT 169 26 28 (.iload 8) 0 := r169 (len := 2) (by decide +kernel) rfl
theorem e169_28 : amT 169 28 31 (.invokestatic 163) 168 := r169 (len := 3) (by decide +kernel) rfl
theorem e169_31 : amT 169 31 32 (.lmul) 0 := r169 (len := 1) (by decide +kernel) rfl
theorem e169_32 : amT 169 32 33 (.lload_n 3) 0 := r169 (len := 1) (by decide +kernel) rfl
theorem e169_33 : amT 169 33 35 (.iload 5) 0 := r169 (len := 2) (by decide +kernel) rfl
theorem e169_35 : amT 169 35 37 (.iload 8) 0 := r169 (len := 2) (by decide +kernel) rfl
theorem e169_37 : amT 169 37 38 (.isub) 0 := r169 (len := 1) (by decide +kernel) rfl
theorem e169_38 : amT 169 38 41 (.invokestatic 163) 168 := r169 (len := 3) (by decide +kernel) rfl
theorem e169_41 : amT 169 41 42 (.lmul) 0 := r169 (len := 1) (by decide +kernel) rfl
theorem e169_42 : amT 169 42 43 (.ladd) 0 := r169 (len := 1) (by decide +kernel) rfl
theorem e169_43 : amT 169 43 45 (.lstore 6) 0 := r169 (len := 2) (by decide +kernel) rfl
theorem e169_45 : amT 169 45 48 (.iinc 8 1) 0 := r169 (len := 3) (by decide +kernel) rfl
theorem e169_48 : amT 169 48 51 (.goto (-36)) 0 := r169 (len := 3) (by decide +kernel) rfl
theorem t169_48 : amTg 48 (-36) = some 12 := by decide
theorem e169_51 : amT 169 51 53 (.lload 6) 0 := r169 (len := 2) (by decide +kernel) rfl
theorem e169_53 : amT 169 53 54 (.lreturn) 0 := r169 (len := 1) (by decide +kernel) rfl
theorem q170 : amCs.getD 170 [] = amC_170 := rfl
theorem r170 {pc pc' len op : Nat} {i : Instr} (h : amC_170.lookup pc = some (i, len, op)) (h2 : pc + len = pc') : amT 170 pc pc' i op := ⟨len, by unfold amEnt; rw [q170]; exact h, h2⟩
theorem e170_0 : amT 170 0 1 (.aload_n 0) 0 := r170 (len := 1) (by decide +kernel) rfl
theorem e170_1 : amT 170 1 2 (.iload_n 1) 0 := r170 (len := 1) (by decide +kernel) rfl
theorem e170_2 : amT 170 2 5 (.invokevirtual 135) 157 := r170 (len := 3) (by decide +kernel) rfl
theorem e170_5 : amT 170 5 8 (.ifCond .eq 11) 0 := r170 (len := 3) (by decide +kernel) rfl
theorem t170_5 : amTg 5 11 = some 16 := by decide
theorem e170_8 : amT 170 8 9 (.iload_n 2) 0 := r170 (len := 1) (by decide +kernel) rfl
theorem e170_9 : amT 170 9 10 (.iload_n 3) 0 := r170 (len := 1) (by decide +kernel) rfl
theorem e170_10 : amT 170 10 13 (.invokestatic 167) 167 := r170 (len := 3) (by decide +kernel) rfl
theorem e170_13 : amT 170 13 16 (.ifCond .ne 7) 0 := r170 (len := 3) (by decide +kernel) rfl
theorem t170_13 : amTg 13 7 = some 20 := by decide
theorem e170_16 : amT 170 16 19 (.ldc2_w 140) 4 := r170 (len := 3) (by decide +kernel) rfl
theorem e170_19 : amT 170 19 20 (.lreturn) 0 := r170 (len := 1) (by decide +kernel) rfl
theorem e170_20 : amT 170 20 21 (.aload_n 0) 0 := r170 (len := 1) (by decide +kernel) rfl
theorem e170_21 : amT 170 21 22 (.iload_n 1) 0 := r170 (len := 1) (by decide +kernel) rfl
theorem e170_22 : amT 170 22 23 (.aload_n 0) 0 := r170 (len := 1) (by decide +kernel) rfl
theorem e170_23 : amT 170 23 26 (.getfield 36) 775 := r170 (len := 3) (by decide +kernel) rfl
theorem e170_26 : amT 170 26 29 (.invokevirtual 148) 163 := r170 (len := 3) (by decide +kernel) rfl
theorem e170_29 : amT 170 29 30 (.aload_n 0) 0 := r170 (len := 1) (by decide +kernel) rfl
theorem e170_30 : amT 170 30 33 (.getfield 36) 775 := r170 (len := 3) (by decide +kernel) rfl
theorem e170_33 : amT 170 33 34 (.iload_n 2) 0 := r170 (len := 1) (by decide +kernel) rfl
theorem e170_34 : amT 170 34 35 (.i2l) 0 := r170 (len := 1) (by decide +kernel) rfl
theorem e170_35 : amT 170 35 36 (.iload_n 3) 0 := r170 (len := 1) (by decide +kernel) rfl
theorem e170_36 : amT 170 36 37 (.i2l) 0 := r170 (len := 1) (by decide +kernel) rfl
theorem e170_37 : amT 170 37 40 (.invokestatic 171) 169 := r170 (len := 3) (by decide +kernel) rfl
theorem e170_40 : amT 170 40 41 (.lreturn) 0 := r170 (len := 1) (by decide +kernel) rfl
theorem q171 : amCs.getD 171 [] = amC_171 := rfl
theorem r171 {pc pc' len op : Nat} {i : Instr} (h : amC_171.lookup pc = some (i, len, op)) (h2 : pc + len = pc') : amT 171 pc pc' i op := ⟨len, by unfold amEnt; rw [q171]; exact h, h2⟩
theorem e171_0 : amT 171 0 1 (.iconst 0) 0 := r171 (len := 1) (by decide +kernel) rfl
theorem e171_1 : amT 171 1 2 (.istore_n 1) 0 := r171 (len := 1) (by decide +kernel) rfl
theorem e171_2 : amT 171 2 3 (.iload_n 1) 0 := r171 (len := 1) (by decide +kernel) rfl
theorem e171_3 : amT 171 3 5 (.bipush 9) 0 := r171 (len := 2) (by decide +kernel) rfl
theorem e171_5 : amT 171 5 8 (.if_icmp .ge 13) 0 := r171 (len := 3) (by decide +kernel) rfl
theorem t171_5 : amTg 5 13 = some 18 := by decide
theorem e171_8 : amT 171 8 9 (.aload_n 0) 0 := r171 (len := 1) (by decide +kernel) rfl
theorem e171_9 : amT 171 9 10 (.iload_n 1) 0 := r171 (len := 1) (by decide +kernel) rfl
theorem e171_10 : amT 171 10 11 (.lconst 0) 0 := r171 (len := 1) (by decide +kernel) rfl
theorem e171_11 : amT 171 11 12 (.lastore) 0 := r171 (len := 1) (by decide +kernel) rfl
theorem e171_12 : amT 171 12 15 (.iinc 1 1) 0 := r171 (len := 3) (by decide +kernel) rfl
theorem e171_15 : amT 171 15 18 (.goto (-13)) 0 := r171 (len := 3) (by decide +kernel) rfl
theorem t171_15 : amTg 15 (-13) = some 2 := by decide
theorem e171_18 : amT 171 18 19 (.return_) 0 := r171 (len := 1) (by decide +kernel) rfl
theorem q172 : amCs.getD 172 [] = amC_172 := rfl
theorem r172 {pc pc' len op : Nat} {i : Instr} (h : amC_172.lookup pc = some (i, len, op)) (h2 : pc + len = pc') : amT 172 pc pc' i op := ⟨len, by unfold amEnt; rw [q172]; exact h, h2⟩
theorem e172_0 : amT 172 0 1 (.iconst 0) 0 := r172 (len := 1) (by decide +kernel) rfl
theorem e172_1 : amT 172 1 2 (.istore_n 2) 0 := r172 (len := 1) (by decide +kernel) rfl
theorem e172_2 : amT 172 2 3 (.iload_n 2) 0 := r172 (len := 1) (by decide +kernel) rfl
theorem e172_3 : amT 172 3 5 (.bipush 9) 0 := r172 (len := 2) (by decide +kernel) rfl
theorem e172_5 : amT 172 5 8 (.if_icmp .ge 15) 0 := r172 (len := 3) (by decide +kernel) rfl
theorem t172_5 : amTg 5 15 = some 20 := by decide
theorem e172_8 : amT 172 8 9 (.aload_n 1) 0 := r172 (len := 1) (by decide +kernel) rfl
theorem e172_9 : amT 172 9 10 (.iload_n 2) 0 := r172 (len := 1) (by decide +kernel) rfl
theorem e172_10 : amT 172 10 11 (.aload_n 0) 0 := r172 (len := 1) (by decide +kernel) rfl
theorem e172_11 : amT 172 11 12 (.iload_n 2) 0 := r172 (len := 1) (by decide +kernel) rfl
theorem e172_12 : amT 172 12 13 (.laload) 0 := r172 (len := 1) (by decide +kernel) rfl
theorem e172_13 : amT 172 13 14 (.lastore) 0 := r172 (len := 1) (by decide +kernel) rfl
theorem e172_14 : amT 172 14 17 (.iinc 2 1) 0 := r172 (len := 3) (by decide +kernel) rfl
theorem e172_17 : amT 172 17 20 (.goto (-15)) 0 := r172 (len := 3) (by decide +kernel) rfl
theorem t172_17 : amTg 17 (-15) = some 2 := by decide
theorem e172_20 : amT 172 20 21 (.return_) 0 := r172 (len := 1) (by decide +kernel) rfl
theorem q173 : amCs.getD 173 [] = amC_173 := rfl
theorem r173 {pc pc' len op : Nat} {i : Instr} (h : amC_173.lookup pc = some (i, len, op)) (h2 : pc + len = pc') : amT 173 pc pc' i op := ⟨len, by unfold amEnt; rw [q173]; exact h, h2⟩
theorem e173_0 : amT 173 0 2 (.bipush 8) 0 := r173 (len := 2) (by decide +kernel) rfl
theorem e173_2 : amT 173 2 3 (.istore_n 1) 0 := r173 (len := 1) (by decide +kernel) rfl
theorem e173_3 : amT 173 3 4 (.iload_n 1) 0 := r173 (len := 1) (by decide +kernel) rfl
theorem e173_4 : amT 173 4 7 (.ifCond .lt 17) 0 := r173 (len := 3) (by decide +kernel) rfl
theorem t173_4 : amTg 4 17 = some 21 := by decide
theorem e173_7 : amT 173 7 8 (.aload_n 0) 0 := r173 (len := 1) (by decide +kernel) rfl
theorem e173_8 : amT 173 8 9 (.iload_n 1) 0 := r173 (len := 1) (by decide +kernel) rfl
theorem e173_9 : amT 173 9 10 (.laload) 0 := r173 (len := 1) (by decide +kernel) rfl
theorem e173_10 : amT 173 10 11 (.lconst 0) 0 := r173 (len := 1) (by decide +kernel) rfl
theorem e173_11 : amT 173 11 12 (.lcmp) 0 := r173 (len := 1) (by decide +kernel) rfl
theorem e173_12 : amT 173 12 15 (.ifCond .ne 9) 0 := r173 (len := 3) (by decide +kernel) rfl
theorem t173_12 : amTg 12 9 = some 21 := by decide
theorem e173_15 : amT 173 15 18 (.iinc 1 (-1)) 0 := r173 (len := 3) (by decide +kernel) rfl
theorem e173_18 : amT 173 18 21 (.goto (-15)) 0 := r173 (len := 3) (by decide +kernel) rfl
theorem t173_18 : amTg 18 (-15) = some 3 := by decide
theorem e173_21 : amT 173 21 22 (.iload_n 1) 0 := r173 (len := 1) (by decide +kernel) rfl
theorem e173_22 : amT 173 22 23 (.ireturn) 0 := r173 (len := 1) (by decide +kernel) rfl
theorem q174 : amCs.getD 174 [] = amC_174 := rfl
theorem r174 {pc pc' len op : Nat} {i : Instr} (h : amC_174.lookup pc = some (i, len, op)) (h2 : pc + len = pc') : amT 174 pc pc' i op := ⟨len, by unfold amEnt; rw [q174]; exact h, h2⟩
theorem e174_0 : amT 174 0 1 (.aload_n 0) 0 := r174 (len := 1) (by decide +kernel) rfl
theorem e174_1 : amT 174 1 2 (.aload_n 0) 0 := r174 (len := 1) (by decide +kernel) rfl
theorem e174_2 : amT 174 2 5 (.invokestatic 115) 173 := r174 (len := 3) (by decide +kernel) rfl
theorem e174_5 : amT 174 5 6 (.laload) 0 := r174 (len := 1) (by decide +kernel) rfl
theorem e174_6 : amT 174 6 7 (.lreturn) 0 := r174 (len := 1) (by decide +kernel) rfl
theorem q175 : amCs.getD 175 [] = amC_175 := rfl
theorem r175 {pc pc' len op : Nat} {i : Instr} (h : amC_175.lookup pc = some (i, len, op)) (h2 : pc + len = pc') : amT 175 pc pc' i op := ⟨len, by unfold amEnt; rw [q175]; exact h, h2⟩
theorem e175_0 : amT 175 0 1 (.lconst 0) 0 := r175 (len := 1) (by decide +kernel) rfl
theorem e175_1 : amT 175 1 2 (.lstore_n 2) 0 := r175 (len := 1) (by decide +kernel) rfl
theorem e175_2 : amT 175 2 3 (.iconst 0) 0 := r175 (len := 1) (by decide +kernel) rfl
theorem e175_3 : amT 175 3 5 (.istore 4) 0 := r175 (len := 2) (by decide +kernel) rfl
theorem e175_5 : amT 175 5 7 (.iload 4) 0 := r175 (len := 2) (by decide +kernel) rfl
theorem e175_7 : amT 175 7 9 (.bipush 9) 0 := r175 (len := 2) (by decide +kernel) rfl
theorem e175_9 : amT 175 9 12 (.if_icmp .ge 18) 0 := r175 (len := 3) (by decide +kernel) rfl
theorem t175_9 : amTg 9 18 = some 27 := by decide
theorem e175_12 : amT 175 12 13 (.lload_n 2) 0 := r175 (len := 1) (by decide +kernel) rfl
theorem e175_13 : amT 175 13 14 (.aload_n 1) 0 := r175 (len := 1) (by decide +kernel) rfl
theorem e175_14 : amT 175 14 16 (.iload 4) 0 := r175 (len := 2) (by decide +kernel) rfl
theorem e175_16 : amT 175 16 17 (.laload) 0 := r175 (len := 1) (by decide +kernel) rfl
theorem e175_17 : amT 175 17 20 (.invokestatic 175) 155 := r175 (len := 3) (by decide +kernel) rfl
theorem e175_20 : amT 175 20 21 (.lstore_n 2) 0 := r175 (len := 1) (by decide +kernel) rfl
theorem e175_21 : amT 175 21 24 (.iinc 4 1) 0 := r175 (len := 3) (by decide +kernel) rfl
theorem e175_24 : amT 175 24 27 (.goto (-19)) 0 := r175 (len := 3) (by decide +kernel) rfl
theorem t175_24 : amTg 24 (-19) = some 5 := by decide
theorem e175_27 : amT 175 27 28 (.lload_n 2) 0 := r175 (len := 1) (by decide +kernel) rfl
theorem e175_28 : amT 175 28 29 (.lconst 0) 0 := r175 (len := 1) (by decide +kernel) rfl
theorem e175_29 : amT 175 29 30 (.lcmp) 0 := r175 (len := 1) (by decide +kernel) rfl
theorem e175_30 : amT 175 30 33 (.ifCond .ne 4) 0 := r175 (len := 3) (by decide +kernel) rfl
theorem t175_30 : amTg 30 4 = some 34 := by decide
theorem e175_33 : amT 175 33 34 (.return_) 0 := r175 (len := 1) (by decide +kernel) rfl
theorem e175_34 : amT 175 34 35 (.iconst 0) 0 := r175 (len := 1) (by decide +kernel) rfl
theorem e175_35 : amT 175 35 37 (.istore 4) 0 := r175 (len := 2) (by decide +kernel) rfl
theorem e175_37 : amT 175 37 39 (.iload 4) 0 := r175 (len := 2) (by decide +kernel) rfl
theorem e175_39 : amT 175 39 41 (.bipush 9) 0 := r175 (len := 2) (by decide +kernel) rfl
theorem e175_41 : amT 175 41 44 (.if_icmp .ge 47) 0 := r175 (len := 3) (by decide +kernel) rfl
theorem t175_41 : amTg 41 47 = some 88 := by decide
theorem e175_44 : amT 175 44 45 (.aload_n 1) 0 := r175 (len := 1) (by decide +kernel) rfl
theorem e175_45 : amT 175 45 47 (.iload 4) 0 := r175 (len := 2) (by decide +kernel) rfl
theorem e175_47 : amT 175 47 48 (.dup2) 0 := r175 (len := 1) (by decide +kernel) rfl
theorem e175_48 : amT 175 48 49 (.laload) 0 := r175 (len := 1) (by decide +kernel) rfl
theorem e175_49 : amT 175 49 50 (.lload_n 2) 0 := r175 (len := 1) (by decide +kernel) rfl
theorem e175_50 : amT 175 50 51 (.ldiv) 0 := r175 (len := 1) (by decide +kernel) rfl
theorem e175_51 : amT 175 51 52 (.lastore) 0 := r175 (len := 1) (by decide +kernel) rfl
theorem e175_52 : amT 175 52 53 (.aload_n 0) 0 := r175 (len := 1) (by decide +kernel) rfl
theorem e175_53 : amT 175 53 54 (.aload_n 0) 0 := r175 (len := 1) (by decide +kernel) rfl
theorem e175_54 : amT 175 54 57 (.getfield 111) 777 := r175 (len := 3) (by decide +kernel) rfl
theorem e175_57 : amT 175 57 60 (.ifCond .ne 17) 0 := r175 (len := 3) (by decide +kernel) rfl
theorem t175_57 : amTg 57 17 = some 74 := by decide
theorem e175_60 : amT 175 60 61 (.aload_n 1) 0 := r175 (len := 1) (by decide +kernel) rfl
theorem e175_61 : amT 175 61 63 (.iload 4) 0 := r175 (len := 2) (by decide +kernel) rfl
theorem e175_63 : amT 175 63 64 (.laload) 0 := r175 (len := 1) (by decide +kernel) rfl
theorem e175_64 : amT 175 64 67 (.invokestatic 9) 153 := r175 (len := 3) (by decide +kernel) rfl
theorem e175_67 : amT 175 67 70 (.ldc2_w 179) 1 := r175 (len := 3) (by decide +kernel) rfl
theorem e175_70 : amT 175 70 71 (.lcmp) 0 := r175 (len := 1) (by decide +kernel) rfl
theorem e175_71 : amT 175 71 74 (.ifCond .le 7) 0 := r175 (len := 3) (by decide +kernel) rfl
theorem t175_71 : amTg 71 7 = some 78 := by decide
theorem e175_74 : amT 175 74 75 (.iconst 1) 0 := r175 (len := 1) (by decide +kernel) rfl
theorem e175_75 : amT 175 75 78 (.goto 4) 0 := r175 (len := 3) (by decide +kernel) rfl
theorem t175_75 : amTg 75 4 = some 79 := by decide
theorem e175_78 : amT 175 78 79 (.iconst 0) 0 := r175 (len := 1) (by decide +kernel) rfl
theorem e175_79 : amT 175 79 82 (.putfield 111) 777 := r175 (len := 3) (by decide +kernel) rfl
theorem e175_82 : amT 175 82 85 (.iinc 4 1) 0 := r175 (len := 3) (by decide +kernel) rfl
theorem e175_85 : amT 175 85 88 (.goto (-48)) 0 := r175 (len := 3) (by decide +kernel) rfl
theorem t175_85 : amTg 85 (-48) = some 37 := by decide
theorem e175_88 : amT 175 88 89 (.return_) 0 := r175 (len := 1) (by decide +kernel) rfl
theorem q176 : amCs.getD 176 [] = amC_176 := rfl
theorem r176 {pc pc' len op : Nat} {i : Instr} (h : amC_176.lookup pc = some (i, len, op)) (h2 : pc + len = pc') : amT 176 pc pc' i op := ⟨len, by unfold amEnt; rw [q176]; exact h, h2⟩
theorem e176_0 : amT 176 0 1 (.iconst 0) 0 := r176 (len := 1) (by decide +kernel) rfl
theorem e176_1 : amT 176 1 2 (.istore_n 1) 0 := r176 (len := 1) (by decide +kernel) rfl
theorem e176_2 : amT 176 2 3 (.iload_n 1) 0 := r176 (len := 1) (by decide +kernel) rfl
theorem e176_3 : amT 176 3 5 (.bipush 9) 0 := r176 (len := 2) (by decide +kernel) rfl
theorem e176_5 : amT 176 5 8 (.if_icmp .ge 16) 0 := r176 (len := 3) (by decide +kernel) rfl
theorem t176_5 : amTg 5 16 = some 21 := by decide
theorem e176_8 : amT 176 8 9 (.aload_n 0) 0 := r176 (len := 1) (by decide +kernel) rfl
theorem e176_9 : amT 176 9 10 (.iload_n 1) 0 := r176 (len := 1) (by decide +kernel) rfl
theorem e176_10 : amT 176 10 11 (.aload_n 0) 0 := r176 (len := 1) (by decide +kernel) rfl
theorem e176_11 : amT 176 11 12 (.iload_n 1) 0 := r176 (len := 1) (by decide +kernel) rfl
theorem e176_12 : amT 176 12 13 (.laload) 0 := r176 (len := 1) (by decide +kernel) rfl
theorem e176_13 : amT 176 13 14 (.lneg) 0 := r176 (len := 1) (by decide +kernel) rfl
theorem e176_14 : amT 176 14 15 (.lastore) 0 := r176 (len := 1) (by decide +kernel) rfl
theorem e176_15 : amT 176 15 18 (.iinc 1 1) 0 := r176 (len := 3) (by decide +kernel) rfl
theorem e176_18 : amT 176 18 21 (.goto (-16)) 0 := r176 (len := 3) (by decide +kernel) rfl
theorem t176_18 : amTg 18 (-16) = some 2 := by decide
theorem e176_21 : amT 176 21 22 (.return_) 0 := r176 (len := 1) (by decide +kernel) rfl
theorem q177 : amCs.getD 177 [] = amC_177 := rfl
theorem r177 {pc pc' len op : Nat} {i : Instr} (h : amC_177.lookup pc = some (i, len, op)) (h2 : pc + len = pc') : amT 177 pc pc' i op := ⟨len, by unfold amEnt; rw [q177]; exact h, h2⟩
theorem e177_0 : amT 177 0 1 (.aload_n 0) 0 := r177 (len := 1) (by decide +kernel) rfl
theorem e177_1 : amT 177 1 4 (.invokestatic 115) 173 := r177 (len := 3) (by decide +kernel) rfl
theorem e177_4 : amT 177 4 7 (.ifCond .lt 16) 0 := r177 (len := 3) (by decide +kernel) rfl
theorem t177_4 : amTg 4 16 = some 20 := by decide
theorem e177_7 : amT 177 7 8 (.aload_n 0) 0 := r177 (len := 1) (by decide +kernel) rfl
theorem e177_8 : amT 177 8 11 (.invokestatic 181) 174 := r177 (len := 3) (by decide +kernel) rfl
theorem e177_11 : amT 177 11 12 (.lconst 0) 0 := r177 (len := 1) (by decide +kernel) rfl
theorem e177_12 : amT 177 12 13 (.lcmp) 0 := r177 (len := 1) (by decide +kernel) rfl
theorem e177_13 : amT 177 13 16 (.ifCond .ge 7) 0 := r177 (len := 3) (by decide +kernel) rfl
theorem t177_13 : amTg 13 7 = some 20 := by decide
theorem e177_16 : amT 177 16 17 (.aload_n 0) 0 := r177 (len := 1) (by decide +kernel) rfl
theorem e177_17 : amT 177 17 20 (.invokestatic 185) 176 := r177 (len := 3) (by decide +kernel) rfl
theorem e177_20 : amT 177 20 21 (.return_) 0 := r177 (len := 1) (by decide +kernel) rfl
theorem q178 : amCs.getD 178 [] = amC_178 := rfl
theorem r178 {pc pc' len op : Nat} {i : Instr} (h : amC_178.lookup pc = some (i, len, op)) (h2 : pc + len = pc') : amT 178 pc pc' i op := ⟨len, by unfold amEnt; rw [q178]; exact h, h2⟩
theorem e178_0 : amT 178 0 1 (.iconst 0) 0 := r178 (len := 1) (by decide +kernel) rfl
theorem e178_1 : amT 178 1 2 (.istore_n 2) 0 := r178 (len := 1) (by decide +kernel) rfl
theorem e178_2 : amT 178 2 3 (.iload_n 2) 0 := r178 (len := 1) (by decide +kernel) rfl
theorem e178_3 : amT 178 3 5 (.bipush 9) 0 := r178 (len := 2) (by decide +kernel) rfl
theorem e178_5 : amT 178 5 8 (.if_icmp .ge 34) 0 := r178 (len := 3) (by decide +kernel) rfl
theorem t178_5 : amTg 5 34 = some 39 := by decide
theorem e178_8 : amT 178 8 9 (.aload_n 1) 0 := r178 (len := 1) (by decide +kernel) rfl
theorem e178_9 : amT 178 9 10 (.iload_n 2) 0 := r178 (len := 1) (by decide +kernel) rfl
theorem e178_10 : amT 178 10 11 (.iload_n 2) 0 := r178 (len := 1) (by decide +kernel) rfl
theorem e178_11 : amT 178 11 12 (.iconst 1) 0 := r178 (len := 1) (by decide +kernel) rfl
theorem e178_12 : amT 178 12 13 (.iadd) 0 := r178 (len := 1) (by decide +kernel) rfl
theorem e178_13 : amT 178 13 15 (.bipush 9) 0 := r178 (len := 2) (by decide +kernel) rfl
theorem e178_15 : amT 178 15 18 (.if_icmp .ge 16) 0 := r178 (len := 3) (by decide +kernel) rfl
theorem t178_15 : amTg 15 16 = some 31 := by decide
theorem e178_18 : amT 178 18 19 (.iload_n 2) 0 := r178 (len := 1) (by decide +kernel) rfl
theorem e178_19 : amT 178 19 20 (.iconst 1) 0 := r178 (len := 1) (by decide +kernel) rfl
theorem e178_20 : amT 178 20 21 (.iadd) 0 := r178 (len := 1) (by decide +kernel) rfl
theorem e178_21 : amT 178 21 22 (.i2l) 0 := r178 (len := 1) (by decide +kernel) rfl
theorem e178_22 : amT 178 22 23 (.aload_n 0) 0 := r178 (len := 1) (by decide +kernel) rfl
theorem e178_23 : amT 178 23 24 (.iload_n 2) 0 := r178 (len := 1) (by decide +kernel) rfl
theorem e178_24 : amT 178 24 25 (.iconst 1) 0 := r178 (len := 1) (by decide +kernel) rfl
theorem e178_25 : amT 178 25 26 (.iadd) 0 := r178 (len := 1) (by decide +kernel) rfl
theorem e178_26 : amT 178 26 27 (.laload) 0 := r178 (len := 1) (by decide +kernel) rfl
theorem e178_27 : amT 178 27 28 (.lmul) 0 := r178 (len := 1) (by decide +kernel) rfl
theorem e178_28 : amT 178 28 31 (.goto 4) 0 := r178 (len := 3) (by decide +kernel) rfl
theorem t178_28 : amTg 28 4 = some 32 := by decide
theorem e178_31 : amT 178 31 32 (.lconst 0) 0 := r178 (len := 1) (by decide +kernel) rfl
theorem e178_32 : amT 178 32 33 (.lastore) 0 := r178 (len := 1) (by decide +kernel) rfl
theorem e178_33 : amT 178 33 36 (.iinc 2 1) 0 := r178 (len := 3) (by decide +kernel) rfl
theorem e178_36 : amT 178 36 39 (.goto (-34)) 0 := r178 (len := 3) (by decide +kernel) rfl
theorem t178_36 : amTg 36 (-34) = some 2 := by decide
theorem e178_39 : amT 178 39 40 (.return_) 0 := r178 (len := 1) (by decide +kernel) rfl
theorem q179 : amCs.getD 179 [] = amC_179 := rfl
theorem r179 {pc pc' len op : Nat} {i : Instr} (h : amC_179.lookup pc = some (i, len, op)) (h2 : pc + len = pc') : amT 179 pc pc' i op := ⟨len, by unfold amEnt; rw [q179]; exact h, h2⟩
theorem e179_0 : amT 179 0 1 (.aload_n 1) 0 := r179 (len := 1) (by decide +kernel) rfl
theorem e179_1 : amT 179 1 2 (.aload_n 3) 0 := r179 (len := 1) (by decide +kernel) rfl
theorem e179_2 : amT 179 2 5 (.invokestatic 188) 172 := r179 (len := 3) (by decide +kernel) rfl
theorem e179_5 : amT 179 5 6 (.aload_n 0) 0 := r179 (len := 1) (by decide +kernel) rfl
theorem e179_6 : amT 179 6 7 (.aload_n 3) 0 := r179 (len := 1) (by decide +kernel) rfl
theorem e179_7 : amT 179 7 10 (.invokevirtual 192) 175 := r179 (len := 3) (by decide +kernel) rfl
theorem e179_10 : amT 179 10 11 (.aload_n 2) 0 := r179 (len := 1) (by decide +kernel) rfl
theorem e179_11 : amT 179 11 14 (.invokestatic 115) 173 := r179 (len := 3) (by decide +kernel) rfl
theorem e179_14 : amT 179 14 16 (.istore 4) 0 := r179 (len := 2) (by decide +kernel) rfl
theorem e179_16 : amT 179 16 17 (.aload_n 2) 0 := r179 (len := 1) (by decide +kernel) rfl
theorem e179_17 : amT 179 17 20 (.invokestatic 181) 174 := r179 (len := 3) (by decide +kernel) rfl
theorem e179_20 : amT 179 20 22 (.lstore 5) 0 := r179 (len := 2) (by decide +kernel) rfl
theorem e179_22 : amT 179 22 23 (.aload_n 0) 0 := r179 (len := 1) (by decide +kernel) rfl
theorem e179_23 : amT 179 23 26 (.getfield 111) 777 := r179 (len := 3) (by decide +kernel) rfl
theorem e179_26 : amT 179 26 29 (.ifCond .ne 103) 0 := r179 (len := 3) (by decide +kernel) rfl
theorem t179_26 : amTg 26 103 = some 129 := by decide
theorem e179_29 : amT 179 29 30 (.aload_n 3) 0 := r179 (len := 1) (by decide +kernel) rfl
theorem e179_30 : amT 179 30 33 (.invokestatic 115) 173 := r179 (len := 3) (by decide +kernel) rfl
theorem e179_33 : amT 179 33 35 (.iload 4) 0 := r179 (len := 2) (by decide +kernel) rfl
theorem e179_35 : amT 179 35 38 (.if_icmp .lt 94) 0 := r179 (len := 3) (by decide +kernel) rfl
theorem t179_35 : amTg 35 94 = some 129 := by decide
theorem e179_38 : amT 179 38 39 (.aload_n 3) 0 := r179 (len := 1) (by decide +kernel) rfl
theorem e179_39 : amT 179 39 42 (.invokestatic 115) 173 := r179 (len := 3) (by decide +kernel) rfl
theorem e179_42 : amT 179 42 44 (.istore 7) 0 := r179 (len := 2) (by decide +kernel) rfl
theorem e179_44 : amT 179 44 45 (.aload_n 3) 0 := r179 (len := 1) (by decide +kernel) rfl
theorem e179_45 : amT 179 45 47 (.iload 7) 0 := r179 (len := 2) (by decide +kernel) rfl
theorem e179_47 : amT 179 47 48 (.laload) 0 := r179 (len := 1) (by decide +kernel) rfl
theorem e179_48 : amT 179 48 50 (.lload 5) 0 := r179 (len := 2) (by decide +kernel) rfl
theorem e179_50 : amT 179 50 53 (.invokestatic 142) 154 := r179 (len := 3) (by decide +kernel) rfl
theorem e179_53 : amT 179 53 54 (.i2l) 0 := r179 (len := 1) (by decide +kernel) rfl
theorem e179_54 : amT 179 54 55 (.lmul) 0 := r179 (len := 1) (by decide +kernel) rfl
theorem e179_55 : amT 179 55 57 (.lstore 8) 0 := r179 (len := 2) (by decide +kernel) rfl
theorem e179_57 : amT 179 57 58 (.iconst 0) 0 := r179 (len := 1) (by decide +kernel) rfl
theorem e179_58 : amT 179 58 60 (.istore 10) 0 := r179 (len := 2) (by decide +kernel) rfl
theorem e179_60 : amT 179 60 62 (.iload 10) 0 := r179 (len := 2) (by decide +kernel) rfl
theorem e179_62 : amT 179 62 64 (.bipush 9) 0 := r179 (len := 2) (by decide +kernel) rfl
theorem e179_64 : amT 179 64 67 (.if_icmp .ge 21) 0 := r179 (len := 3) (by decide +kernel) rfl
theorem t179_64 : amTg 64 21 = some 85 := by decide
theorem e179_67 : amT 179 67 68 (.aload_n 3) 0 := r179 (len := 1) (by decide +kernel) rfl
theorem e179_68 : amT 179 68 70 (.iload 10) 0 := r179 (len := 2) (by decide +kernel) rfl
theorem e179_70 : amT 179 70 71 (.dup2) 0 := r179 (len := 1) (by decide +kernel) rfl
theorem e179_71 : amT 179 71 72 (.laload) 0 := r179 (len := 1) (by decide +kernel) rfl
theorem e179_72 : amT 179 72 74 (.lload 5) 0 := r179 (len := 2) (by decide +kernel) rfl
theorem e179_74 : amT 179 74 77 (.invokestatic 9) 153 := r179 (len := 3) (by decide +kernel) rfl
theorem e179_77 : amT 179 77 78 (.lmul) 0 := r179 (len := 1) (by decide +kernel) rfl
theorem e179_78 : amT 179 78 79 (.lastore) 0 := r179 (len := 1) (by decide +kernel) rfl
theorem e179_79 : amT 179 79 82 (.iinc 10 1) 0 := r179 (len := 3) (by decide +kernel) rfl
theorem e179_82 : amT 179 82 85 (.goto (-22)) 0 := r179 (len := 3) (by decide +kernel) rfl
theorem t179_82 : amTg 82 (-22) = some 60 := by decide
theorem e179_85 : amT 179 85 86 (.iconst 0) 0 := r179 (len := 1) (by decide +kernel) rfl
theorem e179_86 : amT 179 86 88 (.istore 10) 0 := r179 (len := 2) (by decide +kernel) rfl
theorem e179_88 : amT 179 88 90 (.iload 10) 0 := r179 (len := 2) (by decide +kernel) rfl
theorem e179_90 : amT 179 90 92 (.iload 4) 0 := r179 (len := 2) (by decide +kernel) rfl
theorem e179_92 : amT 179 92 95 (.if_icmp .gt 29) 0 := r179 (len := 3) (by decide +kernel) rfl
theorem t179_92 : amTg 92 29 = some 121 := by decide
theorem e179_95 : amT 179 95 96 (.aload_n 3) 0 := r179 (len := 1) (by decide +kernel) rfl
theorem e179_96 : amT 179 96 98 (.iload 10) 0 := r179 (len := 2) (by decide +kernel) rfl
theorem e179_98 : amT 179 98 100 (.iload 7) 0 := r179 (len := 2) (by decide +kernel) rfl
theorem e179_100 : amT 179 100 101 (.iadd) 0 := r179 (len := 1) (by decide +kernel) rfl
theorem e179_101 : amT 179 101 103 (.iload 4) 0 := r179 (len := 2) (by decide +kernel) rfl
theorem e179_103 : amT 179 103 104 (.isub) 0 := r179 (len := 1) (by decide +kernel) rfl
theorem e179_104 : amT 179 104 105 (.dup2) 0 := r179 (len := 1) (by decide +kernel) rfl
theorem e179_105 : amT 179 105 106 (.laload) 0 := r179 (len := 1) (by decide +kernel) rfl
theorem e179_106 : amT 179 106 107 (.aload_n 2) 0 := r179 (len := 1) (by decide +kernel) rfl
theorem e179_107 : amT 179 107 109 (.iload 10) 0 := r179 (len := 2) (by decide +kernel) rfl
theorem e179_109 : amT 179 109 110 (.laload) 0 := r179 (len := 1) (by decide +kernel) rfl
theorem e179_110 : amT 179 110 112 (.lload 8) 0 := r179 (len := 2) (by decide +kernel) rfl
theorem e179_112 : amT 179 112 113 (.lmul) 0 := r179 (len := 1) (by decide +kernel) rfl
theorem e179_113 : amT 179 113 114 (.lsub) 0 := r179 (len := 1) (by decide +kernel) rfl
theorem e179_114 : amT 179 114 115 (.lastore) 0 := r179 (len := 1) (by decide +kernel) rfl
theorem e179_115 : amT 179 115 118 (.iinc 10 1) 0 := r179 (len := 3) (by decide +kernel) rfl
theorem e179_118 : amT 179 118 121 (.goto (-30)) 0 := r179 (len := 3) (by decide +kernel) rfl
theorem t179_118 : amTg 118 (-30) = some 88 := by decide
theorem e179_121 : amT 179 121 122 (.aload_n 0) 0 := r179 (len := 1) (by decide +kernel) rfl
theorem e179_122 : amT 179 122 123 (.aload_n 3) 0 := r179 (len := 1) (by decide +kernel) rfl
theorem e179_123 : amT 179 123 126 (.invokevirtual 192) 175 := r179 (len := 3) (by decide +kernel) rfl
theorem e179_126 : amT 179 126 129 (.goto (-104)) 0 := r179 (len := 3) (by decide +kernel) rfl
theorem t179_126 : amTg 126 (-104) = some 22 := by decide
theorem e179_129 : amT 179 129 130 (.return_) 0 := r179 (len := 1) (by decide +kernel) rfl
theorem q180 : amCs.getD 180 [] = amC_180 := rfl
theorem r180 {pc pc' len op : Nat} {i : Instr} (h : amC_180.lookup pc = some (i, len, op)) (h2 : pc + len = pc') : amT 180 pc pc' i op := ⟨len, by unfold amEnt; rw [q180]; exact h, h2⟩
theorem e180_0 : amT 180 0 1 (.aload_n 1) 0 := r180 (len := 1) (by decide +kernel) rfl
theorem e180_1 : amT 180 1 2 (.aload_n 0) 0 := r180 (len := 1) (by decide +kernel) rfl
theorem e180_2 : amT 180 2 5 (.getfield 42) 778 := r180 (len := 3) (by decide +kernel) rfl
theorem e180_5 : amT 180 5 8 (.invokestatic 188) 172 := r180 (len := 3) (by decide +kernel) rfl
theorem e180_8 : amT 180 8 9 (.aload_n 2) 0 := r180 (len := 1) (by decide +kernel) rfl
theorem e180_9 : amT 180 9 10 (.aload_n 0) 0 := r180 (len := 1) (by decide +kernel) rfl
theorem e180_10 : amT 180 10 13 (.getfield 45) 779 := r180 (len := 3) (by decide +kernel) rfl
theorem e180_13 : amT 180 13 16 (.invokestatic 188) 172 := r180 (len := 3) (by decide +kernel) rfl
theorem e180_16 : amT 180 16 17 (.aload_n 0) 0 := r180 (len := 1) (by decide +kernel) rfl
theorem e180_17 : amT 180 17 18 (.aload_n 0) 0 := r180 (len := 1) (by decide +kernel) rfl
theorem e180_18 : amT 180 18 21 (.getfield 42) 778 := r180 (len := 3) (by decide +kernel) rfl
theorem e180_21 : amT 180 21 24 (.invokevirtual 192) 175 := r180 (len := 3) (by decide +kernel) rfl
theorem e180_24 : amT 180 24 25 (.aload_n 0) 0 := r180 (len := 1) (by decide +kernel) rfl
theorem e180_25 : amT 180 25 26 (.aload_n 0) 0 := r180 (len := 1) (by decide +kernel) rfl
theorem e180_26 : amT 180 26 29 (.getfield 45) 779 := r180 (len := 3) (by decide +kernel) rfl
theorem e180_29 : amT 180 29 32 (.invokevirtual 192) 175 := r180 (len := 3) (by decide +kernel) rfl
theorem e180_32 : amT 180 32 33 (.aload_n 0) 0 := r180 (len := 1) (by decide +kernel) rfl
theorem e180_33 : amT 180 33 36 (.getfield 111) 777 := r180 (len := 3) (by decide +kernel) rfl
theorem e180_36 : amT 180 36 39 (.ifCond .ne 54) 0 := r180 (len := 3) (by decide +kernel) rfl
theorem t180_36 : amTg 36 54 = some 90 := by decide
theorem e180_39 : amT 180 39 40 (.aload_n 0) 0 := r180 (len := 1) (by decide +kernel) rfl
theorem e180_40 : amT 180 40 43 (.getfield 45) 779 := r180 (len := 3) (by decide +kernel) rfl
theorem e180_43 : amT 180 43 46 (.invokestatic 115) 173 := r180 (len := 3) (by decide +kernel) rfl
theorem e180_46 : amT 180 46 49 (.ifCond .lt 44) 0 := r180 (len := 3) (by decide +kernel) rfl
theorem t180_46 : amTg 46 44 = some 90 := by decide
theorem e180_49 : amT 180 49 50 (.aload_n 0) 0 := r180 (len := 1) (by decide +kernel) rfl
theorem e180_50 : amT 180 50 51 (.aload_n 0) 0 := r180 (len := 1) (by decide +kernel) rfl
theorem e180_51 : amT 180 51 54 (.getfield 42) 778 := r180 (len := 3) (by decide +kernel) rfl
theorem e180_54 : amT 180 54 55 (.aload_n 0) 0 := r180 (len := 1) (by decide +kernel) rfl
theorem e180_55 : amT 180 55 58 (.getfield 45) 779 := r180 (len := 3) (by decide +kernel) rfl
theorem e180_58 : amT 180 58 59 (.aload_n 0) 0 := r180 (len := 1) (by decide +kernel) rfl
theorem e180_59 : amT 180 59 62 (.getfield 48) 780 := r180 (len := 3) (by decide +kernel) rfl
theorem e180_62 : amT 180 62 65 (.invokevirtual 195) 179 := r180 (len := 3) (by decide +kernel) rfl
theorem e180_65 : amT 180 65 66 (.aload_n 0) 0 := r180 (len := 1) (by decide +kernel) rfl
theorem e180_66 : amT 180 66 69 (.getfield 45) 779 := r180 (len := 3) (by decide +kernel) rfl
theorem e180_69 : amT 180 69 70 (.aload_n 0) 0 := r180 (len := 1) (by decide +kernel) rfl
theorem e180_70 : amT 180 70 73 (.getfield 42) 778 := r180 (len := 3) (by decide +kernel) rfl
theorem e180_73 : amT 180 73 76 (.invokestatic 188) 172 := r180 (len := 3) (by decide +kernel) rfl
theorem e180_76 : amT 180 76 77 (.aload_n 0) 0 := r180 (len := 1) (by decide +kernel) rfl
theorem e180_77 : amT 180 77 80 (.getfield 48) 780 := r180 (len := 3) (by decide +kernel) rfl
theorem e180_80 : amT 180 80 81 (.aload_n 0) 0 := r180 (len := 1) (by decide +kernel) rfl
theorem e180_81 : amT 180 81 84 (.getfield 45) 779 := r180 (len := 3) (by decide +kernel) rfl
theorem e180_84 : amT 180 84 87 (.invokestatic 188) 172 := r180 (len := 3) (by decide +kernel) rfl
theorem e180_87 : amT 180 87 90 (.goto (-55)) 0 := r180 (len := 3) (by decide +kernel) rfl
theorem t180_87 : amTg 87 (-55) = some 32 := by decide
theorem e180_90 : amT 180 90 91 (.aload_n 0) 0 := r180 (len := 1) (by decide +kernel) rfl
theorem e180_91 : amT 180 91 94 (.getfield 42) 778 := r180 (len := 3) (by decide +kernel) rfl
theorem e180_94 : amT 180 94 95 (.aload_n 3) 0 := r180 (len := 1) (by decide +kernel) rfl
theorem e180_95 : amT 180 95 98 (.invokestatic 188) 172 := r180 (len := 3) (by decide +kernel) rfl
theorem e180_98 : amT 180 98 99 (.aload_n 3) 0 := r180 (len := 1) (by decide +kernel) rfl
theorem e180_99 : amT 180 99 102 (.invokestatic 199) 177 := r180 (len := 3) (by decide +kernel) rfl
theorem e180_102 : amT 180 102 103 (.return_) 0 := r180 (len := 1) (by decide +kernel) rfl
theorem q181 : amCs.getD 181 [] = amC_181 := rfl
theorem r181 {pc pc' len op : Nat} {i : Instr} (h : amC_181.lookup pc = some (i, len, op)) (h2 : pc + len = pc') : amT 181 pc pc' i op := ⟨len, by unfold amEnt; rw [q181]; exact h, h2⟩
theorem e181_0 : amT 181 0 1 (.aload_n 1) 0 := r181 (len := 1) (by decide +kernel) rfl
theorem e181_1 : amT 181 1 2 (.aload_n 0) 0 := r181 (len := 1) (by decide +kernel) rfl
theorem e181_2 : amT 181 2 5 (.getfield 51) 781 := r181 (len := 3) (by decide +kernel) rfl
theorem e181_5 : amT 181 5 8 (.invokestatic 188) 172 := r181 (len := 3) (by decide +kernel) rfl
theorem e181_8 : amT 181 8 9 (.aload_n 2) 0 := r181 (len := 1) (by decide +kernel) rfl
theorem e181_9 : amT 181 9 12 (.invokestatic 115) 173 := r181 (len := 3) (by decide +kernel) rfl
theorem e181_12 : amT 181 12 14 (.istore 4) 0 := r181 (len := 2) (by decide +kernel) rfl
theorem e181_14 : amT 181 14 15 (.aload_n 0) 0 := r181 (len := 1) (by decide +kernel) rfl
theorem e181_15 : amT 181 15 18 (.getfield 51) 781 := r181 (len := 3) (by decide +kernel) rfl
theorem e181_18 : amT 181 18 21 (.invokestatic 115) 173 := r181 (len := 3) (by decide +kernel) rfl
theorem e181_21 : amT 181 21 23 (.istore 5) 0 := r181 (len := 2) (by decide +kernel) rfl
theorem e181_23 : amT 181 23 24 (.aload_n 3) 0 := r181 (len := 1) (by decide +kernel) rfl
theorem e181_24 : amT 181 24 27 (.invokestatic 127) 171 := r181 (len := 3) (by decide +kernel) rfl
theorem e181_27 : amT 181 27 29 (.iload 5) 0 := r181 (len := 2) (by decide +kernel) rfl
theorem e181_29 : amT 181 29 31 (.iload 4) 0 := r181 (len := 2) (by decide +kernel) rfl
theorem e181_31 : amT 181 31 32 (.isub) 0 := r181 (len := 1) (by decide +kernel) rfl
theorem e181_32 : amT 181 32 34 (.istore 6) 0 := r181 (len := 2) (by decide +kernel) rfl
theorem e181_34 : amT 181 34 36 (.iload 6) 0 := r181 (len := 2) (by decide +kernel) rfl
theorem e181_36 : amT 181 36 39 (.ifCond .lt 68) 0 := r181 (len := 3) (by decide +kernel) rfl
theorem t181_36 : amTg 36 68 = some 104 := by decide
theorem e181_39 : amT 181 39 40 (.aload_n 0) 0 := r181 (len := 1) (by decide +kernel) rfl
theorem e181_40 : amT 181 40 43 (.getfield 51) 781 := r181 (len := 3) (by decide +kernel) rfl
theorem e181_43 : amT 181 43 45 (.iload 6) 0 := r181 (len := 2) (by decide +kernel) rfl
theorem e181_45 : amT 181 45 47 (.iload 4) 0 := r181 (len := 2) (by decide +kernel) rfl
theorem e181_47 : amT 181 47 48 (.iadd) 0 := r181 (len := 1) (by decide +kernel) rfl
theorem e181_48 : amT 181 48 49 (.laload) 0 := r181 (len := 1) (by decide +kernel) rfl
theorem e181_49 : amT 181 49 50 (.aload_n 2) 0 := r181 (len := 1) (by decide +kernel) rfl
theorem e181_50 : amT 181 50 52 (.iload 4) 0 := r181 (len := 2) (by decide +kernel) rfl
theorem e181_52 : amT 181 52 53 (.laload) 0 := r181 (len := 1) (by decide +kernel) rfl
theorem e181_53 : amT 181 53 54 (.ldiv) 0 := r181 (len := 1) (by decide +kernel) rfl
theorem e181_54 : amT 181 54 56 (.lstore 7) 0 := r181 (len := 2) (by decide +kernel) rfl
theorem e181_56 : amT 181 56 57 (.aload_n 3) 0 := r181 (len := 1) (by decide +kernel) rfl
theorem e181_57 : amT 181 57 59 (.iload 6) 0 := r181 (len := 2) (by decide +kernel) rfl
theorem e181_59 : amT 181 59 61 (.lload 7) 0 := r181 (len := 2) (by decide +kernel) rfl
theorem e181_61 : amT 181 61 62 (.lastore) 0 := r181 (len := 1) (by decide +kernel) rfl
theorem e181_62 : amT 181 62 63 (.iconst 0) 0 := r181 (len := 1) (by decide +kernel) rfl
theorem e181_63 : amT 181 63 65 (.istore 9) 0 := r181 (len := 2) (by decide +kernel) rfl
theorem e181_65 : amT 181 65 67 (.iload 9) 0 := r181 (len := 2) (by decide +kernel) rfl
theorem e181_67 : amT 181 67 69 (.iload 4) 0 := r181 (len := 2) (by decide +kernel) rfl
theorem e181_69 : amT 181 69 72 (.if_icmp .gt 29) 0 := r181 (len := 3) (by decide +kernel) rfl
theorem t181_69 : amTg 69 29 = some 98 := by decide
theorem e181_72 : amT 181 72 73 (.aload_n 0) 0 := r181 (len := 1) (by decide +kernel) rfl
theorem e181_73 : amT 181 73 76 (.getfield 51) 781 := r181 (len := 3) (by decide +kernel) rfl
theorem e181_76 : amT 181 76 78 (.iload 9) 0 := r181 (len := 2) (by decide +kernel) rfl
theorem e181_78 : amT 181 78 80 (.iload 6) 0 := r181 (len := 2) (by decide +kernel) rfl
theorem e181_80 : amT 181 80 81 (.iadd) 0 := r181 (len := 1) (by decide +kernel) rfl
theorem e181_81 : amT 181 81 82 (.dup2) 0 := r181 (len := 1) (by decide +kernel) rfl
theorem e181_82 : amT 181 82 83 (.laload) 0 := r181 (len := 1) (by decide +kernel) rfl
theorem e181_83 : amT 181 83 85 (.lload 7) 0 := r181 (len := 2) (by decide +kernel) rfl
theorem e181_85 : amT 181 85 86 (.aload_n 2) 0 := r181 (len := 1) (by decide +kernel) rfl
theorem e181_86 : amT 181 86 88 (.iload 9) 0 := r181 (len := 2) (by decide +kernel) rfl
theorem e181_88 : amT 181 88 89 (.laload) 0 := r181 (len := 1) (by decide +kernel) rfl
theorem e181_89 : amT 181 89 90 (.lmul) 0 := r181 (len := 1) (by decide +kernel) rfl
theorem e181_90 : amT 181 90 91 (.lsub) 0 := r181 (len := 1) (by decide +kernel) rfl
theorem e181_91 : amT 181 91 92 (.lastore) 0 := r181 (len := 1) (by decide +kernel) rfl
theorem e181_92 : amT 181 92 95 (.iinc 9 1) 0 := r181 (len := 3) (by decide +kernel) rfl
theorem e181_95 : amT 181 95 98 (.goto (-30)) 0 := r181 (len := 3) (by decide +kernel) rfl
theorem t181_95 : amTg 95 (-30) = some 65 := by decide
theorem e181_98 : amT 181 98 101 (.iinc 6 (-1)) 0 := r181 (len := 3) (by decide +kernel) rfl
theorem e181_101 : amT 181 101 104 (.goto (-67)) 0 := r181 (len := 3) (by decide +kernel) rfl
theorem t181_101 : amTg 101 (-67) = some 34 := by decide
theorem e181_104 : amT 181 104 105 (.return_) 0 := r181 (len := 1) (by decide +kernel) rfl
theorem q182 : amCs.getD 182 [] = amC_182 := rfl
theorem r182 {pc pc' len op : Nat} {i : Instr} (h : amC_182.lookup pc = some (i, len, op)) (h2 : pc + len = pc') : amT 182 pc pc' i op := ⟨len, by unfold amEnt; rw [q182]; exact h, h2⟩
theorem e182_0 : amT 182 0 1 (.aload_n 1) 0 := r182 (len := 1) (by decide +kernel) rfl
theorem e182_1 : amT 182 1 2 (.aload_n 0) 0 := r182 (len := 1) (by decide +kernel) rfl
theorem e182_2 : amT 182 2 5 (.getfield 54) 782 := r182 (len := 3) (by decide +kernel) rfl
theorem e182_5 : amT 182 5 8 (.invokestatic 188) 172 := r182 (len := 3) (by decide +kernel) rfl
theorem e182_8 : amT 182 8 9 (.aload_n 0) 0 := r182 (len := 1) (by decide +kernel) rfl
theorem e182_9 : amT 182 9 10 (.aload_n 0) 0 := r182 (len := 1) (by decide +kernel) rfl
theorem e182_10 : amT 182 10 13 (.getfield 54) 782 := r182 (len := 3) (by decide +kernel) rfl
theorem e182_13 : amT 182 13 16 (.invokevirtual 192) 175 := r182 (len := 3) (by decide +kernel) rfl
theorem e182_16 : amT 182 16 17 (.aload_n 0) 0 := r182 (len := 1) (by decide +kernel) rfl
theorem e182_17 : amT 182 17 20 (.getfield 54) 782 := r182 (len := 3) (by decide +kernel) rfl
theorem e182_20 : amT 182 20 21 (.aload_n 0) 0 := r182 (len := 1) (by decide +kernel) rfl
theorem e182_21 : amT 182 21 24 (.getfield 57) 783 := r182 (len := 3) (by decide +kernel) rfl
theorem e182_24 : amT 182 24 27 (.invokestatic 202) 178 := r182 (len := 3) (by decide +kernel) rfl
theorem e182_27 : amT 182 27 28 (.aload_n 0) 0 := r182 (len := 1) (by decide +kernel) rfl
theorem e182_28 : amT 182 28 31 (.getfield 57) 783 := r182 (len := 3) (by decide +kernel) rfl
theorem e182_31 : amT 182 31 34 (.invokestatic 115) 173 := r182 (len := 3) (by decide +kernel) rfl
theorem e182_34 : amT 182 34 37 (.ifCond .ge 14) 0 := r182 (len := 3) (by decide +kernel) rfl
theorem t182_34 : amTg 34 14 = some 48 := by decide
theorem e182_37 : amT 182 37 38 (.aload_n 0) 0 := r182 (len := 1) (by decide +kernel) rfl
theorem e182_38 : amT 182 38 41 (.getfield 54) 782 := r182 (len := 3) (by decide +kernel) rfl
theorem e182_41 : amT 182 41 42 (.aload_n 2) 0 := r182 (len := 1) (by decide +kernel) rfl
theorem e182_42 : amT 182 42 45 (.invokestatic 188) 172 := r182 (len := 3) (by decide +kernel) rfl
theorem e182_45 : amT 182 45 48 (.goto 40) 0 := r182 (len := 3) (by decide +kernel) rfl
theorem t182_45 : amTg 45 40 = some 85 := by decide
theorem e182_48 : amT 182 48 49 (.aload_n 0) 0 := r182 (len := 1) (by decide +kernel) rfl
theorem e182_49 : amT 182 49 50 (.aload_n 0) 0 := r182 (len := 1) (by decide +kernel) rfl
theorem e182_50 : amT 182 50 53 (.getfield 54) 782 := r182 (len := 3) (by decide +kernel) rfl
theorem e182_53 : amT 182 53 54 (.aload_n 0) 0 := r182 (len := 1) (by decide +kernel) rfl
theorem e182_54 : amT 182 54 57 (.getfield 57) 783 := r182 (len := 3) (by decide +kernel) rfl
theorem e182_57 : amT 182 57 58 (.aload_n 0) 0 := r182 (len := 1) (by decide +kernel) rfl
theorem e182_58 : amT 182 58 61 (.getfield 57) 783 := r182 (len := 3) (by decide +kernel) rfl
theorem e182_61 : amT 182 61 64 (.invokevirtual 205) 180 := r182 (len := 3) (by decide +kernel) rfl
theorem e182_64 : amT 182 64 65 (.aload_n 0) 0 := r182 (len := 1) (by decide +kernel) rfl
theorem e182_65 : amT 182 65 68 (.getfield 111) 777 := r182 (len := 3) (by decide +kernel) rfl
theorem e182_68 : amT 182 68 71 (.ifCond .eq 4) 0 := r182 (len := 3) (by decide +kernel) rfl
theorem t182_68 : amTg 68 4 = some 72 := by decide
theorem e182_71 : amT 182 71 72 (.return_) 0 := r182 (len := 1) (by decide +kernel) rfl
theorem e182_72 : amT 182 72 73 (.aload_n 0) 0 := r182 (len := 1) (by decide +kernel) rfl
theorem e182_73 : amT 182 73 74 (.aload_n 0) 0 := r182 (len := 1) (by decide +kernel) rfl
theorem e182_74 : amT 182 74 77 (.getfield 54) 782 := r182 (len := 3) (by decide +kernel) rfl
theorem e182_77 : amT 182 77 78 (.aload_n 0) 0 := r182 (len := 1) (by decide +kernel) rfl
theorem e182_78 : amT 182 78 81 (.getfield 57) 783 := r182 (len := 3) (by decide +kernel) rfl
theorem e182_81 : amT 182 81 82 (.aload_n 2) 0 := r182 (len := 1) (by decide +kernel) rfl
theorem e182_82 : amT 182 82 85 (.invokevirtual 208) 181 := r182 (len := 3) (by decide +kernel) rfl
theorem e182_85 : amT 182 85 86 (.aload_n 0) 0 := r182 (len := 1) (by decide +kernel) rfl
theorem e182_86 : amT 182 86 87 (.aload_n 2) 0 := r182 (len := 1) (by decide +kernel) rfl
theorem e182_87 : amT 182 87 90 (.invokevirtual 192) 175 := r182 (len := 3) (by decide +kernel) rfl
theorem e182_90 : amT 182 90 91 (.aload_n 2) 0 := r182 (len := 1) (by decide +kernel) rfl
theorem e182_91 : amT 182 91 94 (.invokestatic 199) 177 := r182 (len := 3) (by decide +kernel) rfl
theorem e182_94 : amT 182 94 95 (.return_) 0 := r182 (len := 1) (by decide +kernel) rfl
theorem q183 : amCs.getD 183 [] = amC_183 := rfl
theorem r183 {pc pc' len op : Nat} {i : Instr} (h : amC_183.lookup pc = some (i, len, op)) (h2 : pc + len = pc') : amT 183 pc pc' i op := ⟨len, by unfold amEnt; rw [q183]; exact h, h2⟩
theorem e183_0 : amT 183 0 2 (.bipush 6) 0 := r183 (len := 2) (by decide +kernel) rfl
theorem e183_2 : amT 183 2 3 (.iload_n 1) 0 := r183 (len := 1) (by decide +kernel) rfl
theorem e183_3 : amT 183 3 4 (.imul) 0 := r183 (len := 1) (by decide +kernel) rfl
theorem e183_4 : amT 183 4 5 (.istore_n 2) 0 := r183 (len := 1) (by decide +kernel) rfl
theorem e183_5 : amT 183 5 6 (.aload_n 0) 0 := r183 (len := 1) (by decide +kernel) rfl
theorem e183_6 : amT 183 6 9 (.getfield 111) 777 := r183 (len := 3) (by decide +kernel) rfl
theorem e183_9 : amT 183 9 12 (.ifCond .ne 88) 0 := r183 (len := 3) (by decide +kernel) rfl
theorem t183_9 : amTg 9 88 = some 97 := by decide
theorem e183_12 : amT 183 12 13 (.aload_n 0) 0 := r183 (len := 1) (by decide +kernel) rfl
theorem e183_13 : amT 183 13 16 (.getfield 65) 785 := r183 (len := 3) (by decide +kernel) rfl
theorem e183_16 : amT 183 16 17 (.iload_n 1) 0 := r183 (len := 1) (by decide +kernel) rfl
theorem e183_17 : amT 183 17 18 (.iaload) 0 := r183 (len := 1) (by decide +kernel) rfl
theorem e183_18 : amT 183 18 19 (.istore_n 3) 0 := r183 (len := 1) (by decide +kernel) rfl
theorem e183_19 : amT 183 19 20 (.aload_n 0) 0 := r183 (len := 1) (by decide +kernel) rfl
theorem e183_20 : amT 183 20 21 (.aload_n 0) 0 := r183 (len := 1) (by decide +kernel) rfl
theorem e183_21 : amT 183 21 24 (.getfield 62) 784 := r183 (len := 3) (by decide +kernel) rfl
theorem e183_24 : amT 183 24 25 (.iload_n 2) 0 := r183 (len := 1) (by decide +kernel) rfl
theorem e183_25 : amT 183 25 26 (.iload_n 3) 0 := r183 (len := 1) (by decide +kernel) rfl
theorem e183_26 : amT 183 26 27 (.iadd) 0 := r183 (len := 1) (by decide +kernel) rfl
theorem e183_27 : amT 183 27 28 (.iconst 2) 0 := r183 (len := 1) (by decide +kernel) rfl
theorem e183_28 : amT 183 28 29 (.isub) 0 := r183 (len := 1) (by decide +kernel) rfl
theorem e183_29 : amT 183 29 30 (.aaload) 0 := r183 (len := 1) (by decide +kernel) rfl
theorem e183_30 : amT 183 30 31 (.aload_n 0) 0 := r183 (len := 1) (by decide +kernel) rfl
theorem e183_31 : amT 183 31 34 (.getfield 62) 784 := r183 (len := 3) (by decide +kernel) rfl
theorem e183_34 : amT 183 34 35 (.iload_n 2) 0 := r183 (len := 1) (by decide +kernel) rfl
theorem e183_35 : amT 183 35 36 (.iload_n 3) 0 := r183 (len := 1) (by decide +kernel) rfl
theorem e183_36 : amT 183 36 37 (.iadd) 0 := r183 (len := 1) (by decide +kernel) rfl
theorem e183_37 : amT 183 37 38 (.iconst 1) 0 := r183 (len := 1) (by decide +kernel) rfl
theorem e183_38 : amT 183 38 39 (.isub) 0 := r183 (len := 1) (by decide +kernel) rfl
theorem e183_39 : amT 183 39 40 (.aaload) 0 := r183 (len := 1) (by decide +kernel) rfl
theorem e183_40 : amT 183 40 41 (.aload_n 0) 0 := r183 (len := 1) (by decide +kernel) rfl
theorem e183_41 : amT 183 41 44 (.getfield 62) 784 := r183 (len := 3) (by decide +kernel) rfl
theorem e183_44 : amT 183 44 45 (.iload_n 2) 0 := r183 (len := 1) (by decide +kernel) rfl
theorem e183_45 : amT 183 45 46 (.iload_n 3) 0 := r183 (len := 1) (by decide +kernel) rfl
theorem e183_46 : amT 183 46 47 (.iadd) 0 := r183 (len := 1) (by decide +kernel) rfl
theorem e183_47 : amT 183 47 48 (.aaload) 0 := r183 (len := 1) (by decide +kernel) rfl
theorem e183_48 : amT 183 48 51 (.invokevirtual 195) 179 := r183 (len := 3) (by decide +kernel) rfl
theorem e183_51 : amT 183 51 52 (.aload_n 0) 0 := r183 (len := 1) (by decide +kernel) rfl
theorem e183_52 : amT 183 52 55 (.getfield 111) 777 := r183 (len := 3) (by decide +kernel) rfl
theorem e183_55 : amT 183 55 58 (.ifCond .ne 17) 0 := r183 (len := 3) (by decide +kernel) rfl
theorem t183_55 : amTg 55 17 = some 72 := by decide
theorem e183_58 : amT 183 58 59 (.aload_n 0) 0 := r183 (len := 1) (by decide +kernel) rfl
theorem e183_59 : amT 183 59 62 (.getfield 62) 784 := r183 (len := 3) (by decide +kernel) rfl
theorem e183_62 : amT 183 62 63 (.iload_n 2) 0 := r183 (len := 1) (by decide +kernel) rfl
theorem e183_63 : amT 183 63 64 (.iload_n 3) 0 := r183 (len := 1) (by decide +kernel) rfl
theorem e183_64 : amT 183 64 65 (.iadd) 0 := r183 (len := 1) (by decide +kernel) rfl
theorem e183_65 : amT 183 65 66 (.aaload) 0 := r183 (len := 1) (by decide +kernel) rfl
theorem e183_66 : amT 183 66 69 (.invokestatic 115) 173 := r183 (len := 3) (by decide +kernel) rfl
theorem e183_69 : amT 183 69 72 (.ifCond .ge 4) 0 := r183 (len := 3) (by decide +kernel) rfl
theorem t183_69 : amTg 69 4 = some 73 := by decide
theorem e183_72 : amT 183 72 73 (.return_) 0 := r183 (len := 1) (by decide +kernel) rfl
theorem e183_73 : amT 183 73 74 (.aload_n 0) 0 := r183 (len := 1) (by decide +kernel) rfl
theorem e183_74 : amT 183 74 77 (.getfield 62) 784 := r183 (len := 3) (by decide +kernel) rfl
theorem e183_77 : amT 183 77 78 (.iload_n 2) 0 := r183 (len := 1) (by decide +kernel) rfl
theorem e183_78 : amT 183 78 79 (.iload_n 3) 0 := r183 (len := 1) (by decide +kernel) rfl
theorem e183_79 : amT 183 79 80 (.iadd) 0 := r183 (len := 1) (by decide +kernel) rfl
theorem e183_80 : amT 183 80 81 (.aaload) 0 := r183 (len := 1) (by decide +kernel) rfl
theorem e183_81 : amT 183 81 84 (.invokestatic 185) 176 := r183 (len := 3) (by decide +kernel) rfl
theorem e183_84 : amT 183 84 85 (.aload_n 0) 0 := r183 (len := 1) (by decide +kernel) rfl
theorem e183_85 : amT 183 85 88 (.getfield 65) 785 := r183 (len := 3) (by decide +kernel) rfl
theorem e183_88 : amT 183 88 89 (.iload_n 1) 0 := r183 (len := 1) (by decide +kernel) rfl
theorem e183_89 : amT 183 89 90 (.dup2) 0 := r183 (len := 1) (by decide +kernel) rfl
theorem e183_90 : amT 183 90 91 (.iaload) 0 := r183 (len := 1) (by decide +kernel) rfl
theorem e183_91 : amT 183 91 92 (.iconst 1) 0 := r183 (len := 1) (by decide +kernel) rfl
theorem e183_92 : amT 183 92 93 (.iadd) 0 := r183 (len := 1) (by decide +kernel) rfl
theorem e183_93 : amT 183 93 94 (.iastore) 0 := r183 (len := 1) (by decide +kernel) rfl
theorem e183_94 : amT 183 94 97 (.goto (-89)) 0 := r183 (len := 3) (by decide +kernel) rfl
theorem t183_94 : amTg 94 (-89) = some 5 := by decide
theorem e183_97 : amT 183 97 98 (.return_) 0 := r183 (len := 1) (by decide +kernel) rfl
theorem q184 : amCs.getD 184 [] = amC_184 := rfl
theorem r184 {pc pc' len op : Nat} {i : Instr} (h : amC_184.lookup pc = some (i, len, op)) (h2 : pc + len = pc') : amT 184 pc pc' i op := ⟨len, by unfold amEnt; rw [q184]; exact h, h2⟩
theorem e184_0 : amT 184 0 2 (.bipush 6) 0 := r184 (len := 2) (by decide +kernel) rfl
theorem e184_2 : amT 184 2 3 (.iload_n 1) 0 := r184 (len := 1) (by decide +kernel) rfl
theorem e184_3 : amT 184 3 4 (.imul) 0 := r184 (len := 1) (by decide +kernel) rfl
theorem e184_4 : amT 184 4 5 (.istore_n 3) 0 := r184 (len := 1) (by decide +kernel) rfl
theorem e184_5 : amT 184 5 6 (.aload_n 0) 0 := r184 (len := 1) (by decide +kernel) rfl
theorem e184_6 : amT 184 6 9 (.getfield 65) 785 := r184 (len := 3) (by decide +kernel) rfl
theorem e184_9 : amT 184 9 10 (.iload_n 1) 0 := r184 (len := 1) (by decide +kernel) rfl
theorem e184_10 : amT 184 10 11 (.iconst 1) 0 := r184 (len := 1) (by decide +kernel) rfl
theorem e184_11 : amT 184 11 12 (.iastore) 0 := r184 (len := 1) (by decide +kernel) rfl
theorem e184_12 : amT 184 12 13 (.aload_n 0) 0 := r184 (len := 1) (by decide +kernel) rfl
theorem e184_13 : amT 184 13 14 (.aload_n 2) 0 := r184 (len := 1) (by decide +kernel) rfl
theorem e184_14 : amT 184 14 15 (.aload_n 0) 0 := r184 (len := 1) (by decide +kernel) rfl
theorem e184_15 : amT 184 15 18 (.getfield 62) 784 := r184 (len := 3) (by decide +kernel) rfl
theorem e184_18 : amT 184 18 19 (.iload_n 3) 0 := r184 (len := 1) (by decide +kernel) rfl
theorem e184_19 : amT 184 19 20 (.aaload) 0 := r184 (len := 1) (by decide +kernel) rfl
theorem e184_20 : amT 184 20 23 (.invokevirtual 211) 182 := r184 (len := 3) (by decide +kernel) rfl
theorem e184_23 : amT 184 23 24 (.aload_n 0) 0 := r184 (len := 1) (by decide +kernel) rfl
theorem e184_24 : amT 184 24 27 (.getfield 111) 777 := r184 (len := 3) (by decide +kernel) rfl
theorem e184_27 : amT 184 27 30 (.ifCond .ne 16) 0 := r184 (len := 3) (by decide +kernel) rfl
theorem t184_27 : amTg 27 16 = some 43 := by decide
theorem e184_30 : amT 184 30 31 (.aload_n 0) 0 := r184 (len := 1) (by decide +kernel) rfl
theorem e184_31 : amT 184 31 34 (.getfield 62) 784 := r184 (len := 3) (by decide +kernel) rfl
theorem e184_34 : amT 184 34 35 (.iload_n 3) 0 := r184 (len := 1) (by decide +kernel) rfl
theorem e184_35 : amT 184 35 36 (.aaload) 0 := r184 (len := 1) (by decide +kernel) rfl
theorem e184_36 : amT 184 36 39 (.invokestatic 115) 173 := r184 (len := 3) (by decide +kernel) rfl
theorem e184_39 : amT 184 39 40 (.iconst 1) 0 := r184 (len := 1) (by decide +kernel) rfl
theorem e184_40 : amT 184 40 43 (.if_icmp .ge 4) 0 := r184 (len := 3) (by decide +kernel) rfl
theorem t184_40 : amTg 40 4 = some 44 := by decide
theorem e184_43 : amT 184 43 44 (.return_) 0 := r184 (len := 1) (by decide +kernel) rfl
theorem e184_44 : amT 184 44 45 (.aload_n 0) 0 := r184 (len := 1) (by decide +kernel) rfl
theorem e184_45 : amT 184 45 48 (.getfield 62) 784 := r184 (len := 3) (by decide +kernel) rfl
theorem e184_48 : amT 184 48 49 (.iload_n 3) 0 := r184 (len := 1) (by decide +kernel) rfl
theorem e184_49 : amT 184 49 50 (.aaload) 0 := r184 (len := 1) (by decide +kernel) rfl
theorem e184_50 : amT 184 50 51 (.aload_n 0) 0 := r184 (len := 1) (by decide +kernel) rfl
theorem e184_51 : amT 184 51 54 (.getfield 62) 784 := r184 (len := 3) (by decide +kernel) rfl
theorem e184_54 : amT 184 54 55 (.iload_n 3) 0 := r184 (len := 1) (by decide +kernel) rfl
theorem e184_55 : amT 184 55 56 (.iconst 1) 0 := r184 (len := 1) (by decide +kernel) rfl
theorem e184_56 : amT 184 56 57 (.iadd) 0 := r184 (len := 1) (by decide +kernel) rfl
theorem e184_57 : amT 184 57 58 (.aaload) 0 := r184 (len := 1) (by decide +kernel) rfl
theorem e184_58 : amT 184 58 61 (.invokestatic 202) 178 := r184 (len := 3) (by decide +kernel) rfl
theorem e184_61 : amT 184 61 62 (.aload_n 0) 0 := r184 (len := 1) (by decide +kernel) rfl
theorem e184_62 : amT 184 62 63 (.aload_n 0) 0 := r184 (len := 1) (by decide +kernel) rfl
theorem e184_63 : amT 184 63 66 (.getfield 62) 784 := r184 (len := 3) (by decide +kernel) rfl
theorem e184_66 : amT 184 66 67 (.iload_n 3) 0 := r184 (len := 1) (by decide +kernel) rfl
theorem e184_67 : amT 184 67 68 (.iconst 1) 0 := r184 (len := 1) (by decide +kernel) rfl
theorem e184_68 : amT 184 68 69 (.iadd) 0 := r184 (len := 1) (by decide +kernel) rfl
theorem e184_69 : amT 184 69 70 (.aaload) 0 := r184 (len := 1) (by decide +kernel) rfl
theorem e184_70 : amT 184 70 73 (.invokevirtual 192) 175 := r184 (len := 3) (by decide +kernel) rfl
theorem e184_73 : amT 184 73 74 (.aload_n 0) 0 := r184 (len := 1) (by decide +kernel) rfl
theorem e184_74 : amT 184 74 77 (.getfield 65) 785 := r184 (len := 3) (by decide +kernel) rfl
theorem e184_77 : amT 184 77 78 (.iload_n 1) 0 := r184 (len := 1) (by decide +kernel) rfl
theorem e184_78 : amT 184 78 79 (.iconst 2) 0 := r184 (len := 1) (by decide +kernel) rfl
theorem e184_79 : amT 184 79 80 (.iastore) 0 := r184 (len := 1) (by decide +kernel) rfl
theorem e184_80 : amT 184 80 81 (.aload_n 0) 0 := r184 (len := 1) (by decide +kernel) rfl
theorem e184_81 : amT 184 81 82 (.iload_n 1) 0 := r184 (len := 1) (by decide +kernel) rfl
theorem e184_82 : amT 184 82 85 (.invokevirtual 214) 183 := r184 (len := 3) (by decide +kernel) rfl
theorem e184_85 : amT 184 85 86 (.return_) 0 := r184 (len := 1) (by decide +kernel) rfl
theorem q185 : amCs.getD 185 [] = amC_185 := rfl
theorem r185 {pc pc' len op : Nat} {i : Instr} (h : amC_185.lookup pc = some (i, len, op)) (h2 : pc + len = pc') : amT 185 pc pc' i op := ⟨len, by unfold amEnt; rw [q185]; exact h, h2⟩
theorem e185_0 : amT 185 0 1 (.aload_n 0) 0 := r185 (len := 1) (by decide +kernel) rfl
theorem e185_1 : amT 185 1 2 (.iload_n 2) 0 := r185 (len := 1) (by decide +kernel) rfl
theorem e185_2 : amT 185 2 3 (.aload_n 0) 0 := r185 (len := 1) (by decide +kernel) rfl
theorem e185_3 : amT 185 3 6 (.getfield 36) 775 := r185 (len := 3) (by decide +kernel) rfl
theorem e185_6 : amT 185 6 9 (.invokevirtual 148) 163 := r185 (len := 3) (by decide +kernel) rfl
theorem e185_9 : amT 185 9 10 (.aload_n 0) 0 := r185 (len := 1) (by decide +kernel) rfl
theorem e185_10 : amT 185 10 11 (.iload_n 1) 0 := r185 (len := 1) (by decide +kernel) rfl
theorem e185_11 : amT 185 11 12 (.aload_n 0) 0 := r185 (len := 1) (by decide +kernel) rfl
theorem e185_12 : amT 185 12 15 (.getfield 36) 775 := r185 (len := 3) (by decide +kernel) rfl
theorem e185_15 : amT 185 15 18 (.invokevirtual 218) 184 := r185 (len := 3) (by decide +kernel) rfl
theorem e185_18 : amT 185 18 19 (.return_) 0 := r185 (len := 1) (by decide +kernel) rfl
theorem q186 : amCs.getD 186 [] = amC_186 := rfl
theorem r186 {pc pc' len op : Nat} {i : Instr} (h : amC_186.lookup pc = some (i, len, op)) (h2 : pc + len = pc') : amT 186 pc pc' i op := ⟨len, by unfold amEnt; rw [q186]; exact h, h2⟩
theorem e186_0 : amT 186 0 1 (.iconst 0) 0 := r186 (len := 1) (by decide +kernel) rfl
theorem e186_1 : amT 186 1 3 (.istore 6) 0 := r186 (len := 2) (by decide +kernel) rfl
theorem e186_3 : amT 186 3 4 (.iconst 0) 0 := r186 (len := 1) (by decide +kernel) rfl
theorem e186_4 : amT 186 4 6 (.istore 7) 0 := r186 (len := 2) (by decide +kernel) rfl
theorem e186_6 : amT 186 6 7 (.iconst 0) 0 := r186 (len := 1) (by decide +kernel) rfl
theorem e186_7 : amT 186 7 9 (.istore 8) 0 := r186 (len := 2) (by decide +kernel) rfl
theorem e186_9 : amT 186 9 11 (.iload 8) 0 := r186 (len := 2) (by decide +kernel) rfl
theorem e186_11 : amT 186 11 12 (.aload_n 0) 0 := r186 (len := 1) (by decide +kernel) rfl
theorem e186_12 : amT 186 12 15 (.getfield 65) 785 := r186 (len := 3) (by decide +kernel) rfl
theorem e186_15 : amT 186 15 16 (.iload_n 1) 0 := r186 (len := 1) (by decide +kernel) rfl
theorem e186_16 : amT 186 16 17 (.iaload) 0 := r186 (len := 1) (by decide +kernel) rfl
theorem e186_17 : amT 186 17 20 (.if_icmp .ge 73) 0 := r186 (len := 3) (by decide +kernel) rfl
theorem t186_17 : amTg 17 73 = some 90 := by decide
theorem e186_20 : amT 186 20 21 (.aload_n 0) 0 := r186 (len := 1) (by decide +kernel) rfl
theorem e186_21 : amT 186 21 24 (.getfield 62) 784 := r186 (len := 3) (by decide +kernel) rfl
theorem e186_24 : amT 186 24 26 (.bipush 6) 0 := r186 (len := 2) (by decide +kernel) rfl
theorem e186_26 : amT 186 26 27 (.iload_n 1) 0 := r186 (len := 1) (by decide +kernel) rfl
theorem e186_27 : amT 186 27 28 (.imul) 0 := r186 (len := 1) (by decide +kernel) rfl
theorem e186_28 : amT 186 28 30 (.iload 8) 0 := r186 (len := 2) (by decide +kernel) rfl
theorem e186_30 : amT 186 30 31 (.iadd) 0 := r186 (len := 1) (by decide +kernel) rfl
theorem e186_31 : amT 186 31 32 (.aaload) 0 := r186 (len := 1) (by decide +kernel) rfl
theorem e186_32 : amT 186 32 33 (.lload_n 2) 0 := r186 (len := 1) (by decide +kernel) rfl
theorem e186_33 : amT 186 33 35 (.lload 4) 0 := r186 (len := 2) (by decide +kernel) rfl
theorem e186_35 : amT 186 35 38 (.invokestatic 171) 169 := r186 (len := 3) (by decide +kernel) rfl
theorem e186_38 : amT 186 38 41 (.invokestatic 142) 154 := r186 (len := 3) (by decide +kernel) rfl
theorem e186_41 : amT 186 41 43 (.istore 9) 0 := r186 (len := 2) (by decide +kernel) rfl
theorem e186_43 : amT 186 43 45 (.iload 6) 0 := r186 (len := 2) (by decide +kernel) rfl
theorem e186_45 : amT 186 45 47 (.iload 9) 0 := r186 (len := 2) (by decide +kernel) rfl
theorem e186_47 : amT 186 47 50 (.ifCond .eq 19) 0 := r186 (len := 3) (by decide +kernel) rfl
theorem t186_47 : amTg 47 19 = some 66 := by decide
theorem e186_50 : amT 186 50 52 (.iload 7) 0 := r186 (len := 2) (by decide +kernel) rfl
theorem e186_52 : amT 186 52 55 (.ifCond .eq 14) 0 := r186 (len := 3) (by decide +kernel) rfl
theorem t186_52 : amTg 52 14 = some 66 := by decide
theorem e186_55 : amT 186 55 57 (.iload 9) 0 := r186 (len := 2) (by decide +kernel) rfl
theorem e186_57 : amT 186 57 59 (.iload 7) 0 := r186 (len := 2) (by decide +kernel) rfl
theorem e186_59 : amT 186 59 62 (.if_icmp .eq 7) 0 := r186 (len := 3) (by decide +kernel) rfl
theorem t186_59 : amTg 59 7 = some 66 := by decide
theorem e186_62 : amT 186 62 63 (.iconst 1) 0 := r186 (len := 1) (by decide +kernel) rfl
theorem e186_63 : amT 186 63 66 (.goto 4) 0 := r186 (len := 3) (by decide +kernel) rfl
theorem t186_63 : amTg 63 4 = some 67 := by decide
theorem e186_66 : amT 186 66 67 (.iconst 0) 0 := r186 (len := 1) (by decide +kernel) rfl
theorem e186_67 : amT 186 67 68 (.iadd) 0 := r186 (len := 1) (by decide +kernel) rfl
theorem e186_68 : amT 186 68 70 (.istore 6) 0 := r186 (len := 2) (by decide +kernel) rfl
theorem e186_70 : amT 186 70 72 (.iload 9) 0 := r186 (len := 2) (by decide +kernel) rfl
theorem e186_72 : amT 186 72 75 (.ifCond .eq 8) 0 := r186 (len := 3) (by decide +kernel) rfl
theorem t186_72 : amTg 72 8 = some 80 := by decide
theorem e186_75 : amT 186 75 77 (.iload 9) 0 := r186 (len := 2) (by decide +kernel) rfl
theorem e186_77 : amT 186 77 80 (.goto 5) 0 := r186 (len := 3) (by decide +kernel) rfl
theorem t186_77 : amTg 77 5 = some 82 := by decide
theorem e186_80 : amT 186 80 82 (.iload 7) 0 := r186 (len := 2) (by decide +kernel) rfl
theorem e186_82 : amT 186 82 84 (.istore 7) 0 := r186 (len := 2) (by decide +kernel) rfl
theorem e186_84 : amT 186 84 87 (.iinc 8 1) 0 := r186 (len := 3) (by decide +kernel) rfl
theorem e186_87 : amT 186 87 90 (.goto (-78)) 0 := r186 (len := 3) (by decide +kernel) rfl
theorem t186_87 : amTg 87 (-78) = some 9 := by decide
theorem e186_90 : amT 186 90 92 (.iload 6) 0 := r186 (len := 2) (by decide +kernel) rfl
theorem e186_92 : amT 186 92 93 (.ireturn) 0 := r186 (len := 1) (by decide +kernel) rfl
theorem q187 : amCs.getD 187 [] = amC_187 := rfl
theorem r187 {pc pc' len op : Nat} {i : Instr} (h : amC_187.lookup pc = some (i, len, op)) (h2 : pc + len = pc') : amT 187 pc pc' i op := ⟨len, by unfold amEnt; rw [q187]; exact h, h2⟩
theorem e187_0 : amT 187 0 1 (.iconst 0) 0 := r187 (len := 1) (by decide +kernel) rfl
theorem e187_1 : amT 187 1 2 (.istore_n 3) 0 := r187 (len := 1) (by decide +kernel) rfl
theorem e187_2 : amT 187 2 3 (.iconst 0) 0 := r187 (len := 1) (by decide +kernel) rfl
theorem e187_3 : amT 187 3 5 (.istore 4) 0 := r187 (len := 2) (by decide +kernel) rfl
theorem e187_5 : amT 187 5 6 (.iconst 0) 0 := r187 (len := 1) (by decide +kernel) rfl
theorem e187_6 : amT 187 6 8 (.istore 5) 0 := r187 (len := 2) (by decide +kernel) rfl
theorem e187_8 : amT 187 8 10 (.iload 5) 0 := r187 (len := 2) (by decide +kernel) rfl
theorem e187_10 : amT 187 10 11 (.aload_n 0) 0 := r187 (len := 1) (by decide +kernel) rfl
theorem e187_11 : amT 187 11 14 (.getfield 65) 785 := r187 (len := 3) (by decide +kernel) rfl
theorem e187_14 : amT 187 14 15 (.iload_n 1) 0 := r187 (len := 1) (by decide +kernel) rfl
theorem e187_15 : amT 187 15 16 (.iaload) 0 := r187 (len := 1) (by decide +kernel) rfl
theorem e187_16 : amT 187 16 19 (.if_icmp .ge 78) 0 := r187 (len := 3) (by decide +kernel) rfl
theorem t187_16 : amTg 16 78 = some 94 := by decide
theorem e187_19 : amT 187 19 20 (.aload_n 0) 0 := r187 (len := 1) (by decide +kernel) rfl
theorem e187_20 : amT 187 20 23 (.getfield 62) 784 := r187 (len := 3) (by decide +kernel) rfl
theorem e187_23 : amT 187 23 25 (.bipush 6) 0 := r187 (len := 2) (by decide +kernel) rfl
theorem e187_25 : amT 187 25 26 (.iload_n 1) 0 := r187 (len := 1) (by decide +kernel) rfl
theorem e187_26 : amT 187 26 27 (.imul) 0 := r187 (len := 1) (by decide +kernel) rfl
theorem e187_27 : amT 187 27 29 (.iload 5) 0 := r187 (len := 2) (by decide +kernel) rfl
theorem e187_29 : amT 187 29 30 (.iadd) 0 := r187 (len := 1) (by decide +kernel) rfl
theorem e187_30 : amT 187 30 31 (.aaload) 0 := r187 (len := 1) (by decide +kernel) rfl
theorem e187_31 : amT 187 31 33 (.astore 6) 0 := r187 (len := 2) (by decide +kernel) rfl
theorem e187_33 : amT 187 33 35 (.aload 6) 0 := r187 (len := 2) (by decide +kernel) rfl
theorem e187_35 : amT 187 35 38 (.invokestatic 181) 174 := r187 (len := 3) (by decide +kernel) rfl
theorem e187_38 : amT 187 38 41 (.invokestatic 142) 154 := r187 (len := 3) (by decide +kernel) rfl
theorem e187_41 : amT 187 41 42 (.iload_n 2) 0 := r187 (len := 1) (by decide +kernel) rfl
theorem e187_42 : amT 187 42 45 (.ifCond .ge 18) 0 := r187 (len := 3) (by decide +kernel) rfl
theorem t187_42 : amTg 42 18 = some 60 := by decide
theorem e187_45 : amT 187 45 47 (.aload 6) 0 := r187 (len := 2) (by decide +kernel) rfl
theorem e187_47 : amT 187 47 50 (.invokestatic 115) 173 := r187 (len := 3) (by decide +kernel) rfl
theorem e187_50 : amT 187 50 51 (.iconst 2) 0 := r187 (len := 1) (by decide +kernel) rfl
theorem e187_51 : amT 187 51 52 (.irem) 0 := r187 (len := 1) (by decide +kernel) rfl
theorem e187_52 : amT 187 52 53 (.iconst 1) 0 := r187 (len := 1) (by decide +kernel) rfl
theorem e187_53 : amT 187 53 56 (.if_icmp .ne 7) 0 := r187 (len := 3) (by decide +kernel) rfl
theorem t187_53 : amTg 53 7 = some 60 := by decide
theorem e187_56 : amT 187 56 57 (.iconst (-1)) 0 := r187 (len := 1) (by decide +kernel) rfl
theorem e187_57 : amT 187 57 60 (.goto 4) 0 := r187 (len := 3) (by decide +kernel) rfl
theorem t187_57 : amTg 57 4 = some 61 := by decide
theorem e187_60 : amT 187 60 61 (.iconst 1) 0 := r187 (len := 1) (by decide +kernel) rfl
theorem e187_61 : amT 187 61 62 (.imul) 0 := r187 (len := 1) (by decide +kernel) rfl
theorem e187_62 : amT 187 62 64 (.istore 7) 0 := r187 (len := 2) (by decide +kernel) rfl
theorem e187_64 : amT 187 64 65 (.iload_n 3) 0 := r187 (len := 1) (by decide +kernel) rfl
theorem e187_65 : amT 187 65 67 (.iload 4) 0 := r187 (len := 2) (by decide +kernel) rfl
theorem e187_67 : amT 187 67 70 (.ifCond .eq 14) 0 := r187 (len := 3) (by decide +kernel) rfl
theorem t187_67 : amTg 67 14 = some 81 := by decide
theorem e187_70 : amT 187 70 72 (.iload 7) 0 := r187 (len := 2) (by decide +kernel) rfl
theorem e187_72 : amT 187 72 74 (.iload 4) 0 := r187 (len := 2) (by decide +kernel) rfl
theorem e187_74 : amT 187 74 77 (.if_icmp .eq 7) 0 := r187 (len := 3) (by decide +kernel) rfl
theorem t187_74 : amTg 74 7 = some 81 := by decide
theorem e187_77 : amT 187 77 78 (.iconst 1) 0 := r187 (len := 1) (by decide +kernel) rfl
theorem e187_78 : amT 187 78 81 (.goto 4) 0 := r187 (len := 3) (by decide +kernel) rfl
theorem t187_78 : amTg 78 4 = some 82 := by decide
theorem e187_81 : amT 187 81 82 (.iconst 0) 0 := r187 (len := 1) (by decide +kernel) rfl
theorem e187_82 : amT 187 82 83 (.iadd) 0 := r187 (len := 1) (by decide +kernel) rfl
theorem e187_83 : amT 187 83 84 (.istore_n 3) 0 := r187 (len := 1) (by decide +kernel) rfl
theorem e187_84 : amT 187 84 86 (.iload 7) 0 := r187 (len := 2) (by decide +kernel) rfl
theorem e187_86 : amT 187 86 88 (.istore 4) 0 := r187 (len := 2) (by decide +kernel) rfl
theorem e187_88 : amT 187 88 91 (.iinc 5 1) 0 := r187 (len := 3) (by decide +kernel) rfl
theorem e187_91 : amT 187 91 94 (.goto (-83)) 0 := r187 (len := 3) (by decide +kernel) rfl
theorem t187_91 : amTg 91 (-83) = some 8 := by decide
theorem e187_94 : amT 187 94 95 (.iload_n 3) 0 := r187 (len := 1) (by decide +kernel) rfl
theorem e187_95 : amT 187 95 96 (.ireturn) 0 := r187 (len := 1) (by decide +kernel) rfl
theorem q188 : amCs.getD 188 [] = amC_188 := rfl
theorem r188 {pc pc' len op : Nat} {i : Instr} (h : amC_188.lookup pc = some (i, len, op)) (h2 : pc + len = pc') : amT 188 pc pc' i op := ⟨len, by unfold amEnt; rw [q188]; exact h, h2⟩
theorem e188_0 : amT 188 0 1 (.aload_n 0) 0 := r188 (len := 1) (by decide +kernel) rfl
theorem e188_1 : amT 188 1 2 (.iload_n 1) 0 := r188 (len := 1) (by decide +kernel) rfl
theorem e188_2 : amT 188 2 3 (.iconst (-1)) 0 := r188 (len := 1) (by decide +kernel) rfl
theorem e188_3 : amT 188 3 6 (.invokevirtual 221) 187 := r188 (len := 3) (by decide +kernel) rfl
theorem e188_6 : amT 188 6 7 (.aload_n 0) 0 := r188 (len := 1) (by decide +kernel) rfl
theorem e188_7 : amT 188 7 8 (.iload_n 1) 0 := r188 (len := 1) (by decide +kernel) rfl
theorem e188_8 : amT 188 8 9 (.iconst 1) 0 := r188 (len := 1) (by decide +kernel) rfl
theorem e188_9 : amT 188 9 12 (.invokevirtual 221) 187 := r188 (len := 3) (by decide +kernel) rfl
theorem e188_12 : amT 188 12 13 (.isub) 0 := r188 (len := 1) (by decide +kernel) rfl
theorem e188_13 : amT 188 13 14 (.ireturn) 0 := r188 (len := 1) (by decide +kernel) rfl
theorem q189 : amCs.getD 189 [] = amC_189 := rfl
theorem r189 {pc pc' len op : Nat} {i : Instr} (h : amC_189.lookup pc = some (i, len, op)) (h2 : pc + len = pc') : amT 189 pc pc' i op := ⟨len, by unfold amEnt; rw [q189]; exact h, h2⟩
theorem e189_0 : amT 189 0 1 (.aload_n 0) 0 := r189 (len := 1) (by decide +kernel) rfl
theorem e189_1 : amT 189 1 2 (.iconst 0) 0 := r189 (len := 1) (by decide +kernel) rfl
theorem e189_2 : amT 189 2 5 (.putfield 111) 777 := r189 (len := 3) (by decide +kernel) rfl
theorem e189_5 : amT 189 5 6 (.return_) 0 := r189 (len := 1) (by decide +kernel) rfl
theorem q190 : amCs.getD 190 [] = amC_190 := rfl
theorem r190 {pc pc' len op : Nat} {i : Instr} (h : amC_190.lookup pc = some (i, len, op)) (h2 : pc + len = pc') : amT 190 pc pc' i op := ⟨len, by unfold amEnt; rw [q190]; exact h, h2⟩
theorem e190_0 : amT 190 0 1 (.aload_n 0) 0 := r190 (len := 1) (by decide +kernel) rfl
theorem e190_1 : amT 190 1 2 (.iload_n 1) 0 := r190 (len := 1) (by decide +kernel) rfl
theorem e190_2 : amT 190 2 5 (.invokevirtual 135) 157 := r190 (len := 3) (by decide +kernel) rfl
theorem e190_5 : amT 190 5 8 (.ifCond .eq 24) 0 := r190 (len := 3) (by decide +kernel) rfl
theorem t190_5 : amTg 5 24 = some 29 := by decide
theorem e190_8 : amT 190 8 9 (.iload_n 2) 0 := r190 (len := 1) (by decide +kernel) rfl
theorem e190_9 : amT 190 9 10 (.iconst (-1)) 0 := r190 (len := 1) (by decide +kernel) rfl
theorem e190_10 : amT 190 10 13 (.if_icmp .lt 19) 0 := r190 (len := 3) (by decide +kernel) rfl
theorem t190_10 : amTg 10 19 = some 29 := by decide
theorem e190_13 : amT 190 13 14 (.iload_n 2) 0 := r190 (len := 1) (by decide +kernel) rfl
theorem e190_14 : amT 190 14 17 (.ifCond .lt 19) 0 := r190 (len := 3) (by decide +kernel) rfl
theorem t190_14 : amTg 14 19 = some 33 := by decide
theorem e190_17 : amT 190 17 18 (.iload_n 3) 0 := r190 (len := 1) (by decide +kernel) rfl
theorem e190_18 : amT 190 18 19 (.i2l) 0 := r190 (len := 1) (by decide +kernel) rfl
theorem e190_19 : amT 190 19 20 (.lconst 0) 0 := r190 (len := 1) (by decide +kernel) rfl
theorem e190_20 : amT 190 20 23 (.ldc2_w 138) 7 := r190 (len := 3) (by decide +kernel) rfl
theorem e190_23 : amT 190 23 26 (.invokestatic 107) 152 := r190 (len := 3) (by decide +kernel) rfl
theorem e190_26 : amT 190 26 29 (.ifCond .ne 7) 0 := r190 (len := 3) (by decide +kernel) rfl
theorem t190_26 : amTg 26 7 = some 33 := by decide
theorem e190_29 : amT 190 29 32 (.ldc2_w 140) 4 := r190 (len := 3) (by decide +kernel) rfl
theorem e190_32 : amT 190 32 33 (.lreturn) 0 := r190 (len := 1) (by decide +kernel) rfl
theorem e190_33 : amT 190 33 34 (.aload_n 0) 0 := r190 (len := 1) (by decide +kernel) rfl
theorem e190_34 : amT 190 34 37 (.invokevirtual 225) 189 := r190 (len := 3) (by decide +kernel) rfl
theorem e190_37 : amT 190 37 38 (.aload_n 0) 0 := r190 (len := 1) (by decide +kernel) rfl
theorem e190_38 : amT 190 38 39 (.iconst 0) 0 := r190 (len := 1) (by decide +kernel) rfl
theorem e190_39 : amT 190 39 40 (.iload_n 1) 0 := r190 (len := 1) (by decide +kernel) rfl
theorem e190_40 : amT 190 40 43 (.invokevirtual 228) 185 := r190 (len := 3) (by decide +kernel) rfl
theorem e190_43 : amT 190 43 44 (.aload_n 0) 0 := r190 (len := 1) (by decide +kernel) rfl
theorem e190_44 : amT 190 44 47 (.getfield 111) 777 := r190 (len := 3) (by decide +kernel) rfl
theorem e190_47 : amT 190 47 50 (.ifCond .ne 13) 0 := r190 (len := 3) (by decide +kernel) rfl
theorem t190_47 : amTg 47 13 = some 60 := by decide
theorem e190_50 : amT 190 50 51 (.iload_n 2) 0 := r190 (len := 1) (by decide +kernel) rfl
theorem e190_51 : amT 190 51 52 (.aload_n 0) 0 := r190 (len := 1) (by decide +kernel) rfl
theorem e190_52 : amT 190 52 55 (.getfield 65) 785 := r190 (len := 3) (by decide +kernel) rfl
theorem e190_55 : amT 190 55 56 (.iconst 0) 0 := r190 (len := 1) (by decide +kernel) rfl
theorem e190_56 : amT 190 56 57 (.iaload) 0 := r190 (len := 1) (by decide +kernel) rfl
theorem e190_57 : amT 190 57 60 (.if_icmp .lt 7) 0 := r190 (len := 3) (by decide +kernel) rfl
theorem t190_57 : amTg 57 7 = some 64 := by decide
theorem e190_60 : amT 190 60 63 (.ldc2_w 140) 4 := r190 (len := 3) (by decide +kernel) rfl
theorem e190_63 : amT 190 63 64 (.lreturn) 0 := r190 (len := 1) (by decide +kernel) rfl
theorem e190_64 : amT 190 64 65 (.iload_n 2) 0 := r190 (len := 1) (by decide +kernel) rfl
theorem e190_65 : amT 190 65 68 (.ifCond .ge 13) 0 := r190 (len := 3) (by decide +kernel) rfl
theorem t190_65 : amTg 65 13 = some 78 := by decide
theorem e190_68 : amT 190 68 69 (.aload_n 0) 0 := r190 (len := 1) (by decide +kernel) rfl
theorem e190_69 : amT 190 69 72 (.getfield 65) 785 := r190 (len := 3) (by decide +kernel) rfl
theorem e190_72 : amT 190 72 73 (.iconst 0) 0 := r190 (len := 1) (by decide +kernel) rfl
theorem e190_73 : amT 190 73 74 (.iaload) 0 := r190 (len := 1) (by decide +kernel) rfl
theorem e190_74 : amT 190 74 75 (.i2l) 0 := r190 (len := 1) (by decide +kernel) rfl
theorem e190_75 : amT 190 75 78 (.goto 11) 0 := r190 (len := 3) (by decide +kernel) rfl
theorem t190_75 : amTg 75 11 = some 86 := by decide
theorem e190_78 : amT 190 78 79 (.aload_n 0) 0 := r190 (len := 1) (by decide +kernel) rfl
theorem e190_79 : amT 190 79 82 (.getfield 62) 784 := r190 (len := 3) (by decide +kernel) rfl
theorem e190_82 : amT 190 82 83 (.iload_n 2) 0 := r190 (len := 1) (by decide +kernel) rfl
theorem e190_83 : amT 190 83 84 (.aaload) 0 := r190 (len := 1) (by decide +kernel) rfl
theorem e190_84 : amT 190 84 85 (.iload_n 3) 0 := r190 (len := 1) (by decide +kernel) rfl
theorem e190_85 : amT 190 85 86 (.laload) 0 := r190 (len := 1) (by decide +kernel) rfl
theorem e190_86 : amT 190 86 87 (.lreturn) 0 := r190 (len := 1) (by decide +kernel) rfl
theorem q191 : amCs.getD 191 [] = amC_191 := rfl
theorem r191 {pc pc' len op : Nat} {i : Instr} (h : amC_191.lookup pc = some (i, len, op)) (h2 : pc + len = pc') : amT 191 pc pc' i op := ⟨len, by unfold amEnt; rw [q191]; exact h, h2⟩
theorem e191_0 : amT 191 0 1 (.aload_n 0) 0 := r191 (len := 1) (by decide +kernel) rfl
theorem e191_1 : amT 191 1 2 (.iload_n 1) 0 := r191 (len := 1) (by decide +kernel) rfl
theorem e191_2 : amT 191 2 5 (.invokevirtual 135) 157 := r191 (len := 3) (by decide +kernel) rfl
theorem e191_5 : amT 191 5 8 (.ifCond .eq 11) 0 := r191 (len := 3) (by decide +kernel) rfl
theorem t191_5 : amTg 5 11 = some 16 := by decide
theorem e191_8 : amT 191 8 9 (.iload_n 2) 0 := r191 (len := 1) (by decide +kernel) rfl
theorem e191_9 : amT 191 9 10 (.iload_n 3) 0 := r191 (len := 1) (by decide +kernel) rfl
theorem e191_10 : amT 191 10 13 (.invokestatic 167) 167 := r191 (len := 3) (by decide +kernel) rfl
theorem e191_13 : amT 191 13 16 (.ifCond .ne 5) 0 := r191 (len := 3) (by decide +kernel) rfl
theorem t191_13 : amTg 13 5 = some 18 := by decide
theorem e191_16 : amT 191 16 17 (.iconst (-1)) 0 := r191 (len := 1) (by decide +kernel) rfl
theorem e191_17 : amT 191 17 18 (.ireturn) 0 := r191 (len := 1) (by decide +kernel) rfl
theorem e191_18 : amT 191 18 19 (.aload_n 0) 0 := r191 (len := 1) (by decide +kernel) rfl
theorem e191_19 : amT 191 19 22 (.invokevirtual 225) 189 := r191 (len := 3) (by decide +kernel) rfl
theorem e191_22 : amT 191 22 23 (.aload_n 0) 0 := r191 (len := 1) (by decide +kernel) rfl
theorem e191_23 : amT 191 23 24 (.iconst 0) 0 := r191 (len := 1) (by decide +kernel) rfl
theorem e191_24 : amT 191 24 25 (.iload_n 1) 0 := r191 (len := 1) (by decide +kernel) rfl
theorem e191_25 : amT 191 25 28 (.invokevirtual 228) 185 := r191 (len := 3) (by decide +kernel) rfl
theorem e191_28 : amT 191 28 29 (.aload_n 0) 0 := r191 (len := 1) (by decide +kernel) rfl
theorem e191_29 : amT 191 29 32 (.getfield 111) 777 := r191 (len := 3) (by decide +kernel) rfl
theorem e191_32 : amT 191 32 35 (.ifCond .eq 8) 0 := r191 (len := 3) (by decide +kernel) rfl
theorem t191_32 : amTg 32 8 = some 40 := by decide
theorem e191_35 : amT 191 35 37 (.bipush (-3)) 0 := r191 (len := 2) (by decide +kernel) rfl
theorem e191_37 : amT 191 37 40 (.goto 12) 0 := r191 (len := 3) (by decide +kernel) rfl
theorem t191_37 : amTg 37 12 = some 49 := by decide
theorem e191_40 : amT 191 40 41 (.aload_n 0) 0 := r191 (len := 1) (by decide +kernel) rfl
theorem e191_41 : amT 191 41 42 (.iconst 0) 0 := r191 (len := 1) (by decide +kernel) rfl
theorem e191_42 : amT 191 42 43 (.iload_n 2) 0 := r191 (len := 1) (by decide +kernel) rfl
theorem e191_43 : amT 191 43 44 (.i2l) 0 := r191 (len := 1) (by decide +kernel) rfl
theorem e191_44 : amT 191 44 45 (.iload_n 3) 0 := r191 (len := 1) (by decide +kernel) rfl
theorem e191_45 : amT 191 45 46 (.i2l) 0 := r191 (len := 1) (by decide +kernel) rfl
theorem e191_46 : amT 191 46 49 (.invokevirtual 232) 186 := r191 (len := 3) (by decide +kernel) rfl
theorem e191_49 : amT 191 49 50 (.ireturn) 0 := r191 (len := 1) (by decide +kernel) rfl
theorem q192 : amCs.getD 192 [] = amC_192 := rfl
theorem r192 {pc pc' len op : Nat} {i : Instr} (h : amC_192.lookup pc = some (i, len, op)) (h2 : pc + len = pc') : amT 192 pc pc' i op := ⟨len, by unfold amEnt; rw [q192]; exact h, h2⟩
theorem e192_0 : amT 192 0 1 (.aload_n 0) 0 := r192 (len := 1) (by decide +kernel) rfl
theorem e192_1 : amT 192 1 2 (.iload_n 1) 0 := r192 (len := 1) (by decide +kernel) rfl
theorem e192_2 : amT 192 2 5 (.invokevirtual 135) 157 := r192 (len := 3) (by decide +kernel) rfl
theorem e192_5 : amT 192 5 8 (.ifCond .ne 5) 0 := r192 (len := 3) (by decide +kernel) rfl
theorem t192_5 : amTg 5 5 = some 10 := by decide
theorem e192_8 : amT 192 8 9 (.iconst (-1)) 0 := r192 (len := 1) (by decide +kernel) rfl
theorem e192_9 : amT 192 9 10 (.ireturn) 0 := r192 (len := 1) (by decide +kernel) rfl
theorem e192_10 : amT 192 10 11 (.aload_n 0) 0 := r192 (len := 1) (by decide +kernel) rfl
theorem e192_11 : amT 192 11 14 (.invokevirtual 225) 189 := r192 (len := 3) (by decide +kernel) rfl
theorem e192_14 : amT 192 14 15 (.aload_n 0) 0 := r192 (len := 1) (by decide +kernel) rfl
theorem e192_15 : amT 192 15 16 (.iconst 0) 0 := r192 (len := 1) (by decide +kernel) rfl
theorem e192_16 : amT 192 16 17 (.iload_n 1) 0 := r192 (len := 1) (by decide +kernel) rfl
theorem e192_17 : amT 192 17 20 (.invokevirtual 228) 185 := r192 (len := 3) (by decide +kernel) rfl
theorem e192_20 : amT 192 20 21 (.aload_n 0) 0 := r192 (len := 1) (by decide +kernel) rfl
theorem e192_21 : amT 192 21 24 (.getfield 111) 777 := r192 (len := 3) (by decide +kernel) rfl
theorem e192_24 : amT 192 24 27 (.ifCond .eq 8) 0 := r192 (len := 3) (by decide +kernel) rfl
theorem t192_24 : amTg 24 8 = some 32 := by decide
theorem e192_27 : amT 192 27 29 (.bipush (-3)) 0 := r192 (len := 2) (by decide +kernel) rfl
theorem e192_29 : amT 192 29 32 (.goto 8) 0 := r192 (len := 3) (by decide +kernel) rfl
theorem t192_29 : amTg 29 8 = some 37 := by decide
theorem e192_32 : amT 192 32 33 (.aload_n 0) 0 := r192 (len := 1) (by decide +kernel) rfl
theorem e192_33 : amT 192 33 34 (.iconst 0) 0 := r192 (len := 1) (by decide +kernel) rfl
theorem e192_34 : amT 192 34 37 (.invokevirtual 236) 188 := r192 (len := 3) (by decide +kernel) rfl
theorem e192_37 : amT 192 37 38 (.ireturn) 0 := r192 (len := 1) (by decide +kernel) rfl
theorem q193 : amCs.getD 193 [] = amC_193 := rfl
theorem r193 {pc pc' len op : Nat} {i : Instr} (h : amC_193.lookup pc = some (i, len, op)) (h2 : pc + len = pc') : amT 193 pc pc' i op := ⟨len, by unfold amEnt; rw [q193]; exact h, h2⟩
theorem e193_0 : amT 193 0 1 (.aload_n 0) 0 := r193 (len := 1) (by decide +kernel) rfl
theorem e193_1 : amT 193 1 2 (.iload_n 1) 0 := r193 (len := 1) (by decide +kernel) rfl
theorem e193_2 : amT 193 2 5 (.invokevirtual 135) 157 := r193 (len := 3) (by decide +kernel) rfl
theorem e193_5 : amT 193 5 8 (.ifCond .eq 37) 0 := r193 (len := 3) (by decide +kernel) rfl
theorem t193_5 : amTg 5 37 = some 42 := by decide
theorem e193_8 : amT 193 8 9 (.iload_n 2) 0 := r193 (len := 1) (by decide +kernel) rfl
theorem e193_9 : amT 193 9 10 (.iload_n 3) 0 := r193 (len := 1) (by decide +kernel) rfl
theorem e193_10 : amT 193 10 13 (.invokestatic 167) 167 := r193 (len := 3) (by decide +kernel) rfl
theorem e193_13 : amT 193 13 16 (.ifCond .eq 29) 0 := r193 (len := 3) (by decide +kernel) rfl
theorem t193_13 : amTg 13 29 = some 42 := by decide
theorem e193_16 : amT 193 16 18 (.iload 4) 0 := r193 (len := 2) (by decide +kernel) rfl
theorem e193_18 : amT 193 18 20 (.iload 5) 0 := r193 (len := 2) (by decide +kernel) rfl
theorem e193_20 : amT 193 20 23 (.invokestatic 167) 167 := r193 (len := 3) (by decide +kernel) rfl
theorem e193_23 : amT 193 23 26 (.ifCond .eq 19) 0 := r193 (len := 3) (by decide +kernel) rfl
theorem t193_23 : amTg 23 19 = some 42 := by decide
theorem e193_26 : amT 193 26 27 (.iload_n 2) 0 := r193 (len := 1) (by decide +kernel) rfl
theorem e193_27 : amT 193 27 28 (.i2l) 0 := r193 (len := 1) (by decide +kernel) rfl
theorem e193_28 : amT 193 28 30 (.iload 5) 0 := r193 (len := 2) (by decide +kernel) rfl
theorem e193_30 : amT 193 30 31 (.i2l) 0 := r193 (len := 1) (by decide +kernel) rfl
theorem e193_31 : amT 193 31 32 (.lmul) 0 := r193 (len := 1) (by decide +kernel) rfl
theorem e193_32 : amT 193 32 34 (.iload 4) 0 := r193 (len := 2) (by decide +kernel) rfl
theorem e193_34 : amT 193 34 35 (.i2l) 0 := r193 (len := 1) (by decide +kernel) rfl
theorem e193_35 : amT 193 35 36 (.iload_n 3) 0 := r193 (len := 1) (by decide +kernel) rfl
theorem e193_36 : amT 193 36 37 (.i2l) 0 := r193 (len := 1) (by decide +kernel) rfl
theorem e193_37 : amT 193 37 38 (.lmul) 0 := r193 (len := 1) (by decide +kernel) rfl
theorem e193_38 : amT 193 38 39 (.lcmp) 0 := r193 (len := 1) (by decide +kernel) rfl
theorem e193_39 : amT 193 39 42 (.ifCond .lt 5) 0 := r193 (len := 3) (by decide +kernel) rfl
theorem t193_39 : amTg 39 5 = some 44 := by decide
theorem e193_42 : amT 193 42 43 (.iconst (-1)) 0 := r193 (len := 1) (by decide +kernel) rfl
theorem e193_43 : amT 193 43 44 (.ireturn) 0 := r193 (len := 1) (by decide +kernel) rfl
theorem e193_44 : amT 193 44 45 (.aload_n 0) 0 := r193 (len := 1) (by decide +kernel) rfl
theorem e193_45 : amT 193 45 48 (.invokevirtual 225) 189 := r193 (len := 3) (by decide +kernel) rfl
theorem e193_48 : amT 193 48 49 (.aload_n 0) 0 := r193 (len := 1) (by decide +kernel) rfl
theorem e193_49 : amT 193 49 50 (.iconst 0) 0 := r193 (len := 1) (by decide +kernel) rfl
theorem e193_50 : amT 193 50 51 (.iload_n 1) 0 := r193 (len := 1) (by decide +kernel) rfl
theorem e193_51 : amT 193 51 54 (.invokevirtual 228) 185 := r193 (len := 3) (by decide +kernel) rfl
theorem e193_54 : amT 193 54 55 (.aload_n 0) 0 := r193 (len := 1) (by decide +kernel) rfl
theorem e193_55 : amT 193 55 58 (.getfield 111) 777 := r193 (len := 3) (by decide +kernel) rfl
theorem e193_58 : amT 193 58 61 (.ifCond .eq 8) 0 := r193 (len := 3) (by decide +kernel) rfl
theorem t193_58 : amTg 58 8 = some 66 := by decide
theorem e193_61 : amT 193 61 63 (.bipush (-3)) 0 := r193 (len := 2) (by decide +kernel) rfl
theorem e193_63 : amT 193 63 66 (.goto 24) 0 := r193 (len := 3) (by decide +kernel) rfl
theorem t193_63 : amTg 63 24 = some 87 := by decide
theorem e193_66 : amT 193 66 67 (.aload_n 0) 0 := r193 (len := 1) (by decide +kernel) rfl
theorem e193_67 : amT 193 67 68 (.iconst 0) 0 := r193 (len := 1) (by decide +kernel) rfl
theorem e193_68 : amT 193 68 69 (.iload_n 2) 0 := r193 (len := 1) (by decide +kernel) rfl
theorem e193_69 : amT 193 69 70 (.i2l) 0 := r193 (len := 1) (by decide +kernel) rfl
theorem e193_70 : amT 193 70 71 (.iload_n 3) 0 := r193 (len := 1) (by decide +kernel) rfl
theorem e193_71 : amT 193 71 72 (.i2l) 0 := r193 (len := 1) (by decide +kernel) rfl
theorem e193_72 : amT 193 72 75 (.invokevirtual 232) 186 := r193 (len := 3) (by decide +kernel) rfl
theorem e193_75 : amT 193 75 76 (.aload_n 0) 0 := r193 (len := 1) (by decide +kernel) rfl
theorem e193_76 : amT 193 76 77 (.iconst 0) 0 := r193 (len := 1) (by decide +kernel) rfl
theorem e193_77 : amT 193 77 79 (.iload 4) 0 := r193 (len := 2) (by decide +kernel) rfl
theorem e193_79 : amT 193 79 80 (.i2l) 0 := r193 (len := 1) (by decide +kernel) rfl
theorem e193_80 : amT 193 80 82 (.iload 5) 0 := r193 (len := 2) (by decide +kernel) rfl
theorem e193_82 : amT 193 82 83 (.i2l) 0 := r193 (len := 1) (by decide +kernel) rfl
theorem e193_83 : amT 193 83 86 (.invokevirtual 232) 186 := r193 (len := 3) (by decide +kernel) rfl
theorem e193_86 : amT 193 86 87 (.isub) 0 := r193 (len := 1) (by decide +kernel) rfl
theorem e193_87 : amT 193 87 88 (.ireturn) 0 := r193 (len := 1) (by decide +kernel) rfl
theorem q194 : amCs.getD 194 [] = amC_194 := rfl
theorem r194 {pc pc' len op : Nat} {i : Instr} (h : amC_194.lookup pc = some (i, len, op)) (h2 : pc + len = pc') : amT 194 pc pc' i op := ⟨len, by unfold amEnt; rw [q194]; exact h, h2⟩
theorem e194_0 : amT 194 0 1 (.iconst 1) 0 := r194 (len := 1) (by decide +kernel) rfl
theorem e194_1 : amT 194 1 2 (.istore_n 2) 0 := r194 (len := 1) (by decide +kernel) rfl
theorem e194_2 : amT 194 2 3 (.iload_n 2) 0 := r194 (len := 1) (by decide +kernel) rfl
theorem e194_3 : amT 194 3 6 (.sipush 512) 0 := r194 (len := 3) (by decide +kernel) rfl
theorem e194_6 : amT 194 6 9 (.if_icmp .gt 47) 0 := r194 (len := 3) (by decide +kernel) rfl
theorem t194_6 : amTg 6 47 = some 53 := by decide
theorem e194_9 : amT 194 9 10 (.aload_n 0) 0 := r194 (len := 1) (by decide +kernel) rfl
theorem e194_10 : amT 194 10 11 (.iload_n 1) 0 := r194 (len := 1) (by decide +kernel) rfl
theorem e194_11 : amT 194 11 12 (.iload_n 2) 0 := r194 (len := 1) (by decide +kernel) rfl
theorem e194_12 : amT 194 12 13 (.ineg) 0 := r194 (len := 1) (by decide +kernel) rfl
theorem e194_13 : amT 194 13 14 (.i2l) 0 := r194 (len := 1) (by decide +kernel) rfl
theorem e194_14 : amT 194 14 15 (.lconst 1) 0 := r194 (len := 1) (by decide +kernel) rfl
theorem e194_15 : amT 194 15 18 (.invokevirtual 232) 186 := r194 (len := 3) (by decide +kernel) rfl
theorem e194_18 : amT 194 18 19 (.aload_n 0) 0 := r194 (len := 1) (by decide +kernel) rfl
theorem e194_19 : amT 194 19 20 (.iload_n 1) 0 := r194 (len := 1) (by decide +kernel) rfl
theorem e194_20 : amT 194 20 21 (.iconst (-1)) 0 := r194 (len := 1) (by decide +kernel) rfl
theorem e194_21 : amT 194 21 24 (.invokevirtual 221) 187 := r194 (len := 3) (by decide +kernel) rfl
theorem e194_24 : amT 194 24 27 (.if_icmp .ne 22) 0 := r194 (len := 3) (by decide +kernel) rfl
theorem t194_24 : amTg 24 22 = some 46 := by decide
theorem e194_27 : amT 194 27 28 (.aload_n 0) 0 := r194 (len := 1) (by decide +kernel) rfl
theorem e194_28 : amT 194 28 29 (.iload_n 1) 0 := r194 (len := 1) (by decide +kernel) rfl
theorem e194_29 : amT 194 29 30 (.iload_n 2) 0 := r194 (len := 1) (by decide +kernel) rfl
theorem e194_30 : amT 194 30 31 (.i2l) 0 := r194 (len := 1) (by decide +kernel) rfl
theorem e194_31 : amT 194 31 32 (.lconst 1) 0 := r194 (len := 1) (by decide +kernel) rfl
theorem e194_32 : amT 194 32 35 (.invokevirtual 232) 186 := r194 (len := 3) (by decide +kernel) rfl
theorem e194_35 : amT 194 35 36 (.aload_n 0) 0 := r194 (len := 1) (by decide +kernel) rfl
theorem e194_36 : amT 194 36 37 (.iload_n 1) 0 := r194 (len := 1) (by decide +kernel) rfl
theorem e194_37 : amT 194 37 38 (.iconst 1) 0 := r194 (len := 1) (by decide +kernel) rfl
theorem e194_38 : amT 194 38 41 (.invokevirtual 221) 187 := r194 (len := 3) (by decide +kernel) rfl
theorem e194_41 : amT 194 41 44 (.if_icmp .ne 5) 0 := r194 (len := 3) (by decide +kernel) rfl
theorem t194_41 : amTg 41 5 = some 46 := by decide
theorem e194_44 : amT 194 44 45 (.iload_n 2) 0 := r194 (len := 1) (by decide +kernel) rfl
theorem e194_45 : amT 194 45 46 (.ireturn) 0 := r194 (len := 1) (by decide +kernel) rfl
theorem e194_46 : amT 194 46 47 (.iload_n 2) 0 := r194 (len := 1) (by decide +kernel) rfl
theorem e194_47 : amT 194 47 48 (.iconst 2) 0 := r194 (len := 1) (by decide +kernel) rfl
theorem e194_48 : amT 194 48 49 (.imul) 0 := r194 (len := 1) (by decide +kernel) rfl
theorem e194_49 : amT 194 49 50 (.istore_n 2) 0 := r194 (len := 1) (by decide +kernel) rfl
theorem e194_50 : amT 194 50 53 (.goto (-48)) 0 := r194 (len := 3) (by decide +kernel) rfl
theorem t194_50 : amTg 50 (-48) = some 2 := by decide
theorem e194_53 : amT 194 53 54 (.aload_n 0) 0 := r194 (len := 1) (by decide +kernel) rfl
theorem e194_54 : amT 194 54 55 (.iconst 1) 0 := r194 (len := 1) (by decide +kernel) rfl
theorem e194_55 : amT 194 55 58 (.putfield 111) 777 := r194 (len := 3) (by decide +kernel) rfl
theorem e194_58 : amT 194 58 60 (.bipush (-3)) 0 := r194 (len := 2) (by decide +kernel) rfl
theorem e194_60 : amT 194 60 61 (.ireturn) 0 := r194 (len := 1) (by decide +kernel) rfl
theorem q195 : amCs.getD 195 [] = amC_195 := rfl
theorem r195 {pc pc' len op : Nat} {i : Instr} (h : amC_195.lookup pc = some (i, len, op)) (h2 : pc + len = pc') : amT 195 pc pc' i op := ⟨len, by unfold amEnt; rw [q195]; exact h, h2⟩
theorem e195_0 : amT 195 0 1 (.aload_n 0) 0 := r195 (len := 1) (by decide +kernel) rfl
theorem e195_1 : amT 195 1 2 (.iload_n 1) 0 := r195 (len := 1) (by decide +kernel) rfl
theorem e195_2 : amT 195 2 5 (.invokevirtual 135) 157 := r195 (len := 3) (by decide +kernel) rfl
theorem e195_5 : amT 195 5 8 (.ifCond .ne 5) 0 := r195 (len := 3) (by decide +kernel) rfl
theorem t195_5 : amTg 5 5 = some 10 := by decide
theorem e195_8 : amT 195 8 9 (.iconst (-1)) 0 := r195 (len := 1) (by decide +kernel) rfl
theorem e195_9 : amT 195 9 10 (.ireturn) 0 := r195 (len := 1) (by decide +kernel) rfl
theorem e195_10 : amT 195 10 11 (.aload_n 0) 0 := r195 (len := 1) (by decide +kernel) rfl
theorem e195_11 : amT 195 11 14 (.invokevirtual 225) 189 := r195 (len := 3) (by decide +kernel) rfl
theorem e195_14 : amT 195 14 15 (.aload_n 0) 0 := r195 (len := 1) (by decide +kernel) rfl
theorem e195_15 : amT 195 15 16 (.iconst 0) 0 := r195 (len := 1) (by decide +kernel) rfl
theorem e195_16 : amT 195 16 17 (.iload_n 1) 0 := r195 (len := 1) (by decide +kernel) rfl
theorem e195_17 : amT 195 17 20 (.invokevirtual 228) 185 := r195 (len := 3) (by decide +kernel) rfl
theorem e195_20 : amT 195 20 21 (.aload_n 0) 0 := r195 (len := 1) (by decide +kernel) rfl
theorem e195_21 : amT 195 21 24 (.getfield 111) 777 := r195 (len := 3) (by decide +kernel) rfl
theorem e195_24 : amT 195 24 27 (.ifCond .eq 8) 0 := r195 (len := 3) (by decide +kernel) rfl
theorem t195_24 : amTg 24 8 = some 32 := by decide
theorem e195_27 : amT 195 27 29 (.bipush (-3)) 0 := r195 (len := 2) (by decide +kernel) rfl
theorem e195_29 : amT 195 29 32 (.goto 8) 0 := r195 (len := 3) (by decide +kernel) rfl
theorem t195_29 : amTg 29 8 = some 37 := by decide
theorem e195_32 : amT 195 32 33 (.aload_n 0) 0 := r195 (len := 1) (by decide +kernel) rfl
theorem e195_33 : amT 195 33 34 (.iconst 0) 0 := r195 (len := 1) (by decide +kernel) rfl
theorem e195_34 : amT 195 34 37 (.invokevirtual 239) 194 := r195 (len := 3) (by decide +kernel) rfl
theorem e195_37 : amT 195 37 38 (.ireturn) 0 := r195 (len := 1) (by decide +kernel) rfl
theorem q196 : amCs.getD 196 [] = amC_196 := rfl
theorem r196 {pc pc' len op : Nat} {i : Instr} (h : amC_196.lookup pc = some (i, len, op)) (h2 : pc + len = pc') : amT 196 pc pc' i op := ⟨len, by unfold amEnt; rw [q196]; exact h, h2⟩
theorem e196_0 : amT 196 0 1 (.aload_n 0) 0 := r196 (len := 1) (by decide +kernel) rfl
theorem e196_1 : amT 196 1 2 (.iload_n 1) 0 := r196 (len := 1) (by decide +kernel) rfl
theorem e196_2 : amT 196 2 5 (.invokevirtual 239) 194 := r196 (len := 3) (by decide +kernel) rfl
theorem e196_5 : amT 196 5 6 (.ineg) 0 := r196 (len := 1) (by decide +kernel) rfl
theorem e196_6 : amT 196 6 7 (.i2l) 0 := r196 (len := 1) (by decide +kernel) rfl
theorem e196_7 : amT 196 7 9 (.lstore 4) 0 := r196 (len := 2) (by decide +kernel) rfl
theorem e196_9 : amT 196 9 10 (.aload_n 0) 0 := r196 (len := 1) (by decide +kernel) rfl
theorem e196_10 : amT 196 10 13 (.getfield 111) 777 := r196 (len := 3) (by decide +kernel) rfl
theorem e196_13 : amT 196 13 16 (.ifCond .eq 4) 0 := r196 (len := 3) (by decide +kernel) rfl
theorem t196_13 : amTg 13 4 = some 17 := by decide
theorem e196_16 : amT 196 16 17 (.return_) 0 := r196 (len := 1) (by decide +kernel) rfl
theorem e196_17 : amT 196 17 19 (.lload 4) 0 := r196 (len := 2) (by decide +kernel) rfl
theorem e196_19 : amT 196 19 20 (.lneg) 0 := r196 (len := 1) (by decide +kernel) rfl
theorem e196_20 : amT 196 20 22 (.lstore 6) 0 := r196 (len := 2) (by decide +kernel) rfl
theorem e196_22 : amT 196 22 23 (.lconst 1) 0 := r196 (len := 1) (by decide +kernel) rfl
theorem e196_23 : amT 196 23 25 (.lstore 8) 0 := r196 (len := 2) (by decide +kernel) rfl
theorem e196_25 : amT 196 25 26 (.aload_n 0) 0 := r196 (len := 1) (by decide +kernel) rfl
theorem e196_26 : amT 196 26 27 (.iload_n 1) 0 := r196 (len := 1) (by decide +kernel) rfl
theorem e196_27 : amT 196 27 28 (.iconst (-1)) 0 := r196 (len := 1) (by decide +kernel) rfl
theorem e196_28 : amT 196 28 31 (.invokevirtual 221) 187 := r196 (len := 3) (by decide +kernel) rfl
theorem e196_31 : amT 196 31 33 (.istore 10) 0 := r196 (len := 2) (by decide +kernel) rfl
theorem e196_33 : amT 196 33 35 (.iload 10) 0 := r196 (len := 2) (by decide +kernel) rfl
theorem e196_35 : amT 196 35 37 (.istore 11) 0 := r196 (len := 2) (by decide +kernel) rfl
theorem e196_37 : amT 196 37 38 (.aload_n 0) 0 := r196 (len := 1) (by decide +kernel) rfl
theorem e196_38 : amT 196 38 39 (.iload_n 1) 0 := r196 (len := 1) (by decide +kernel) rfl
theorem e196_39 : amT 196 39 40 (.iconst 1) 0 := r196 (len := 1) (by decide +kernel) rfl
theorem e196_40 : amT 196 40 43 (.invokevirtual 221) 187 := r196 (len := 3) (by decide +kernel) rfl
theorem e196_43 : amT 196 43 45 (.istore 12) 0 := r196 (len := 2) (by decide +kernel) rfl
theorem e196_45 : amT 196 45 47 (.iload 11) 0 := r196 (len := 2) (by decide +kernel) rfl
theorem e196_47 : amT 196 47 49 (.iload 12) 0 := r196 (len := 2) (by decide +kernel) rfl
theorem e196_49 : amT 196 49 50 (.isub) 0 := r196 (len := 1) (by decide +kernel) rfl
theorem e196_50 : amT 196 50 51 (.iconst 1) 0 := r196 (len := 1) (by decide +kernel) rfl
theorem e196_51 : amT 196 51 54 (.if_icmp .gt 16) 0 := r196 (len := 3) (by decide +kernel) rfl
theorem t196_51 : amTg 51 16 = some 67 := by decide
theorem e196_54 : amT 196 54 56 (.lload 6) 0 := r196 (len := 2) (by decide +kernel) rfl
theorem e196_56 : amT 196 56 58 (.lload 4) 0 := r196 (len := 2) (by decide +kernel) rfl
theorem e196_58 : amT 196 58 59 (.lsub) 0 := r196 (len := 1) (by decide +kernel) rfl
theorem e196_59 : amT 196 59 60 (.iload_n 3) 0 := r196 (len := 1) (by decide +kernel) rfl
theorem e196_60 : amT 196 60 61 (.lshl) 0 := r196 (len := 1) (by decide +kernel) rfl
theorem e196_61 : amT 196 61 63 (.lload 8) 0 := r196 (len := 2) (by decide +kernel) rfl
theorem e196_63 : amT 196 63 64 (.lcmp) 0 := r196 (len := 1) (by decide +kernel) rfl
theorem e196_64 : amT 196 64 67 (.ifCond .le 128) 0 := r196 (len := 3) (by decide +kernel) rfl
theorem t196_64 : amTg 64 128 = some 192 := by decide
theorem e196_67 : amT 196 67 69 (.lload 4) 0 := r196 (len := 2) (by decide +kernel) rfl
theorem e196_69 : amT 196 69 72 (.ldc2_w 146) 3 := r196 (len := 3) (by decide +kernel) rfl
theorem e196_72 : amT 196 72 73 (.lmul) 0 := r196 (len := 1) (by decide +kernel) rfl
theorem e196_73 : amT 196 73 75 (.lstore 4) 0 := r196 (len := 2) (by decide +kernel) rfl
theorem e196_75 : amT 196 75 77 (.lload 6) 0 := r196 (len := 2) (by decide +kernel) rfl
theorem e196_77 : amT 196 77 80 (.ldc2_w 146) 3 := r196 (len := 3) (by decide +kernel) rfl
theorem e196_80 : amT 196 80 81 (.lmul) 0 := r196 (len := 1) (by decide +kernel) rfl
theorem e196_81 : amT 196 81 83 (.lstore 6) 0 := r196 (len := 2) (by decide +kernel) rfl
theorem e196_83 : amT 196 83 85 (.lload 8) 0 := r196 (len := 2) (by decide +kernel) rfl
theorem e196_85 : amT 196 85 88 (.ldc2_w 146) 3 := r196 (len := 3) (by decide +kernel) rfl
theorem e196_88 : amT 196 88 89 (.lmul) 0 := r196 (len := 1) (by decide +kernel) rfl
theorem e196_89 : amT 196 89 91 (.lstore 8) 0 := r196 (len := 2) (by decide +kernel) rfl
theorem e196_91 : amT 196 91 93 (.lload 4) 0 := r196 (len := 2) (by decide +kernel) rfl
theorem e196_93 : amT 196 93 95 (.lload 6) 0 := r196 (len := 2) (by decide +kernel) rfl
theorem e196_95 : amT 196 95 96 (.ladd) 0 := r196 (len := 1) (by decide +kernel) rfl
theorem e196_96 : amT 196 96 99 (.ldc2_w 146) 3 := r196 (len := 3) (by decide +kernel) rfl
theorem e196_99 : amT 196 99 100 (.ldiv) 0 := r196 (len := 1) (by decide +kernel) rfl
theorem e196_100 : amT 196 100 102 (.lstore 13) 0 := r196 (len := 2) (by decide +kernel) rfl
theorem e196_102 : amT 196 102 104 (.lload 13) 0 := r196 (len := 2) (by decide +kernel) rfl
theorem e196_104 : amT 196 104 106 (.lload 8) 0 := r196 (len := 2) (by decide +kernel) rfl
theorem e196_106 : amT 196 106 109 (.invokestatic 175) 155 := r196 (len := 3) (by decide +kernel) rfl
theorem e196_109 : amT 196 109 111 (.lstore 15) 0 := r196 (len := 2) (by decide +kernel) rfl
theorem e196_111 : amT 196 111 113 (.lload 13) 0 := r196 (len := 2) (by decide +kernel) rfl
theorem e196_113 : amT 196 113 115 (.lload 15) 0 := r196 (len := 2) (by decide +kernel) rfl
theorem e196_115 : amT 196 115 116 (.ldiv) 0 := r196 (len := 1) (by decide +kernel) rfl
theorem e196_116 : amT 196 116 119 (.invokestatic 9) 153 := r196 (len := 3) (by decide +kernel) rfl
theorem e196_119 : amT 196 119 122 (.ldc2_w 159) 8 := r196 (len := 3) (by decide +kernel) rfl
theorem e196_122 : amT 196 122 123 (.lcmp) 0 := r196 (len := 1) (by decide +kernel) rfl
theorem e196_123 : amT 196 123 126 (.ifCond .gt 15) 0 := r196 (len := 3) (by decide +kernel) rfl
theorem t196_123 : amTg 123 15 = some 138 := by decide
theorem e196_126 : amT 196 126 128 (.lload 8) 0 := r196 (len := 2) (by decide +kernel) rfl
theorem e196_128 : amT 196 128 130 (.lload 15) 0 := r196 (len := 2) (by decide +kernel) rfl
theorem e196_130 : amT 196 130 131 (.ldiv) 0 := r196 (len := 1) (by decide +kernel) rfl
theorem e196_131 : amT 196 131 134 (.ldc2_w 159) 8 := r196 (len := 3) (by decide +kernel) rfl
theorem e196_134 : amT 196 134 135 (.lcmp) 0 := r196 (len := 1) (by decide +kernel) rfl
theorem e196_135 : amT 196 135 138 (.ifCond .le 9) 0 := r196 (len := 3) (by decide +kernel) rfl
theorem t196_135 : amTg 135 9 = some 144 := by decide
theorem e196_138 : amT 196 138 139 (.aload_n 0) 0 := r196 (len := 1) (by decide +kernel) rfl
theorem e196_139 : amT 196 139 140 (.iconst 1) 0 := r196 (len := 1) (by decide +kernel) rfl
theorem e196_140 : amT 196 140 143 (.putfield 111) 777 := r196 (len := 3) (by decide +kernel) rfl
theorem e196_143 : amT 196 143 144 (.return_) 0 := r196 (len := 1) (by decide +kernel) rfl
theorem e196_144 : amT 196 144 145 (.aload_n 0) 0 := r196 (len := 1) (by decide +kernel) rfl
theorem e196_145 : amT 196 145 146 (.iload_n 1) 0 := r196 (len := 1) (by decide +kernel) rfl
theorem e196_146 : amT 196 146 148 (.lload 13) 0 := r196 (len := 2) (by decide +kernel) rfl
theorem e196_148 : amT 196 148 150 (.lload 15) 0 := r196 (len := 2) (by decide +kernel) rfl
theorem e196_150 : amT 196 150 151 (.ldiv) 0 := r196 (len := 1) (by decide +kernel) rfl
theorem e196_151 : amT 196 151 153 (.lload 8) 0 := r196 (len := 2) (by decide +kernel) rfl
theorem e196_153 : amT 196 153 155 (.lload 15) 0 := r196 (len := 2) (by decide +kernel) rfl
theorem e196_155 : amT 196 155 156 (.ldiv) 0 := r196 (len := 1) (by decide +kernel) rfl
theorem e196_156 : amT 196 156 159 (.invokevirtual 232) 186 := r196 (len := 3) (by decide +kernel) rfl
theorem e196_159 : amT 196 159 161 (.istore 17) 0 := r196 (len := 2) (by decide +kernel) rfl
theorem e196_161 : amT 196 161 163 (.iload 10) 0 := r196 (len := 2) (by decide +kernel) rfl
theorem e196_163 : amT 196 163 165 (.iload 17) 0 := r196 (len := 2) (by decide +kernel) rfl
theorem e196_165 : amT 196 165 166 (.isub) 0 := r196 (len := 1) (by decide +kernel) rfl
theorem e196_166 : amT 196 166 167 (.iload_n 2) 0 := r196 (len := 1) (by decide +kernel) rfl
theorem e196_167 : amT 196 167 170 (.if_icmp .le 14) 0 := r196 (len := 3) (by decide +kernel) rfl
theorem t196_167 : amTg 167 14 = some 181 := by decide
theorem e196_170 : amT 196 170 172 (.lload 13) 0 := r196 (len := 2) (by decide +kernel) rfl
theorem e196_172 : amT 196 172 174 (.lstore 6) 0 := r196 (len := 2) (by decide +kernel) rfl
theorem e196_174 : amT 196 174 176 (.iload 17) 0 := r196 (len := 2) (by decide +kernel) rfl
theorem e196_176 : amT 196 176 178 (.istore 12) 0 := r196 (len := 2) (by decide +kernel) rfl
theorem e196_178 : amT 196 178 181 (.goto 11) 0 := r196 (len := 3) (by decide +kernel) rfl
theorem t196_178 : amTg 178 11 = some 189 := by decide
theorem e196_181 : amT 196 181 183 (.lload 13) 0 := r196 (len := 2) (by decide +kernel) rfl
theorem e196_183 : amT 196 183 185 (.lstore 4) 0 := r196 (len := 2) (by decide +kernel) rfl
theorem e196_185 : amT 196 185 187 (.iload 17) 0 := r196 (len := 2) (by decide +kernel) rfl
theorem e196_187 : amT 196 187 189 (.istore 11) 0 := r196 (len := 2) (by decide +kernel) rfl
theorem e196_189 : amT 196 189 192 (.goto (-144)) 0 := r196 (len := 3) (by decide +kernel) rfl
theorem t196_189 : amTg 189 (-144) = some 45 := by decide
theorem e196_192 : amT 196 192 194 (.lload 4) 0 := r196 (len := 2) (by decide +kernel) rfl
theorem e196_194 : amT 196 194 196 (.lload 8) 0 := r196 (len := 2) (by decide +kernel) rfl
theorem e196_196 : amT 196 196 199 (.invokestatic 175) 155 := r196 (len := 3) (by decide +kernel) rfl
theorem e196_199 : amT 196 199 201 (.lstore 13) 0 := r196 (len := 2) (by decide +kernel) rfl
theorem e196_201 : amT 196 201 202 (.aload_n 0) 0 := r196 (len := 1) (by decide +kernel) rfl
theorem e196_202 : amT 196 202 204 (.lload 4) 0 := r196 (len := 2) (by decide +kernel) rfl
theorem e196_204 : amT 196 204 206 (.lload 13) 0 := r196 (len := 2) (by decide +kernel) rfl
theorem e196_206 : amT 196 206 207 (.ldiv) 0 := r196 (len := 1) (by decide +kernel) rfl
theorem e196_207 : amT 196 207 210 (.putfield 242) 786 := r196 (len := 3) (by decide +kernel) rfl
theorem e196_210 : amT 196 210 211 (.aload_n 0) 0 := r196 (len := 1) (by decide +kernel) rfl
theorem e196_211 : amT 196 211 213 (.lload 8) 0 := r196 (len := 2) (by decide +kernel) rfl
theorem e196_213 : amT 196 213 215 (.lload 13) 0 := r196 (len := 2) (by decide +kernel) rfl
theorem e196_215 : amT 196 215 216 (.ldiv) 0 := r196 (len := 1) (by decide +kernel) rfl
theorem e196_216 : amT 196 216 219 (.putfield 246) 787 := r196 (len := 3) (by decide +kernel) rfl
theorem e196_219 : amT 196 219 221 (.lload 6) 0 := r196 (len := 2) (by decide +kernel) rfl
theorem e196_221 : amT 196 221 223 (.lload 8) 0 := r196 (len := 2) (by decide +kernel) rfl
theorem e196_223 : amT 196 223 226 (.invokestatic 175) 155 := r196 (len := 3) (by decide +kernel) rfl
theorem e196_226 : amT 196 226 228 (.lstore 13) 0 := r196 (len := 2) (by decide +kernel) rfl
theorem e196_228 : amT 196 228 229 (.aload_n 0) 0 := r196 (len := 1) (by decide +kernel) rfl
theorem e196_229 : amT 196 229 231 (.lload 6) 0 := r196 (len := 2) (by decide +kernel) rfl
theorem e196_231 : amT 196 231 233 (.lload 13) 0 := r196 (len := 2) (by decide +kernel) rfl
theorem e196_233 : amT 196 233 234 (.ldiv) 0 := r196 (len := 1) (by decide +kernel) rfl
theorem e196_234 : amT 196 234 237 (.putfield 249) 788 := r196 (len := 3) (by decide +kernel) rfl
theorem e196_237 : amT 196 237 238 (.aload_n 0) 0 := r196 (len := 1) (by decide +kernel) rfl
theorem e196_238 : amT 196 238 240 (.lload 8) 0 := r196 (len := 2) (by decide +kernel) rfl
theorem e196_240 : amT 196 240 242 (.lload 13) 0 := r196 (len := 2) (by decide +kernel) rfl
theorem e196_242 : amT 196 242 243 (.ldiv) 0 := r196 (len := 1) (by decide +kernel) rfl
theorem e196_243 : amT 196 243 246 (.putfield 252) 789 := r196 (len := 3) (by decide +kernel) rfl
theorem e196_246 : amT 196 246 247 (.return_) 0 := r196 (len := 1) (by decide +kernel) rfl
theorem q197 : amCs.getD 197 [] = amC_197 := rfl
theorem r197 {pc pc' len op : Nat} {i : Instr} (h : amC_197.lookup pc = some (i, len, op)) (h2 : pc + len = pc') : amT 197 pc pc' i op := ⟨len, by unfold amEnt; rw [q197]; exact h, h2⟩
theorem e197_0 : amT 197 0 1 (.aload_n 0) 0 := r197 (len := 1) (by decide +kernel) rfl
theorem e197_1 : amT 197 1 2 (.iload_n 1) 0 := r197 (len := 1) (by decide +kernel) rfl
theorem e197_2 : amT 197 2 3 (.iload_n 2) 0 := r197 (len := 1) (by decide +kernel) rfl
theorem e197_3 : amT 197 3 6 (.invokevirtual 228) 185 := r197 (len := 3) (by decide +kernel) rfl
theorem e197_6 : amT 197 6 7 (.aload_n 0) 0 := r197 (len := 1) (by decide +kernel) rfl
theorem e197_7 : amT 197 7 10 (.getfield 111) 777 := r197 (len := 3) (by decide +kernel) rfl
theorem e197_10 : amT 197 10 13 (.ifCond .ne 24) 0 := r197 (len := 3) (by decide +kernel) rfl
theorem t197_10 : amTg 10 24 = some 34 := by decide
theorem e197_13 : amT 197 13 14 (.iload_n 3) 0 := r197 (len := 1) (by decide +kernel) rfl
theorem e197_14 : amT 197 14 15 (.i2l) 0 := r197 (len := 1) (by decide +kernel) rfl
theorem e197_15 : amT 197 15 16 (.lconst 0) 0 := r197 (len := 1) (by decide +kernel) rfl
theorem e197_16 : amT 197 16 17 (.aload_n 0) 0 := r197 (len := 1) (by decide +kernel) rfl
theorem e197_17 : amT 197 17 18 (.iload_n 1) 0 := r197 (len := 1) (by decide +kernel) rfl
theorem e197_18 : amT 197 18 21 (.invokevirtual 236) 188 := r197 (len := 3) (by decide +kernel) rfl
theorem e197_21 : amT 197 21 22 (.iconst 1) 0 := r197 (len := 1) (by decide +kernel) rfl
theorem e197_22 : amT 197 22 23 (.isub) 0 := r197 (len := 1) (by decide +kernel) rfl
theorem e197_23 : amT 197 23 24 (.i2l) 0 := r197 (len := 1) (by decide +kernel) rfl
theorem e197_24 : amT 197 24 27 (.invokestatic 107) 152 := r197 (len := 3) (by decide +kernel) rfl
theorem e197_27 : amT 197 27 30 (.ifCond .eq 7) 0 := r197 (len := 3) (by decide +kernel) rfl
theorem t197_27 : amTg 27 7 = some 34 := by decide
theorem e197_30 : amT 197 30 31 (.iconst 1) 0 := r197 (len := 1) (by decide +kernel) rfl
theorem e197_31 : amT 197 31 34 (.goto 4) 0 := r197 (len := 3) (by decide +kernel) rfl
theorem t197_31 : amTg 31 4 = some 35 := by decide
theorem e197_34 : amT 197 34 35 (.iconst 0) 0 := r197 (len := 1) (by decide +kernel) rfl
theorem e197_35 : amT 197 35 36 (.ireturn) 0 := r197 (len := 1) (by decide +kernel) rfl
theorem q198 : amCs.getD 198 [] = amC_198 := rfl
theorem r198 {pc pc' len op : Nat} {i : Instr} (h : amC_198.lookup pc = some (i, len, op)) (h2 : pc + len = pc') : amT 198 pc pc' i op := ⟨len, by unfold amEnt; rw [q198]; exact h, h2⟩
theorem e198_0 : amT 198 0 1 (.aload_n 0) 0 := r198 (len := 1) (by decide +kernel) rfl
theorem e198_1 : amT 198 1 2 (.iload_n 1) 0 := r198 (len := 1) (by decide +kernel) rfl
theorem e198_2 : amT 198 2 5 (.invokevirtual 135) 157 := r198 (len := 3) (by decide +kernel) rfl
theorem e198_5 : amT 198 5 8 (.ifCond .eq 28) 0 := r198 (len := 3) (by decide +kernel) rfl
theorem t198_5 : amTg 5 28 = some 33 := by decide
theorem e198_8 : amT 198 8 9 (.iload_n 3) 0 := r198 (len := 1) (by decide +kernel) rfl
theorem e198_9 : amT 198 9 10 (.i2l) 0 := r198 (len := 1) (by decide +kernel) rfl
theorem e198_10 : amT 198 10 11 (.lconst 0) 0 := r198 (len := 1) (by decide +kernel) rfl
theorem e198_11 : amT 198 11 14 (.ldc2_w 255) 10 := r198 (len := 3) (by decide +kernel) rfl
theorem e198_14 : amT 198 14 17 (.invokestatic 107) 152 := r198 (len := 3) (by decide +kernel) rfl
theorem e198_17 : amT 198 17 20 (.ifCond .eq 16) 0 := r198 (len := 3) (by decide +kernel) rfl
theorem t198_17 : amTg 17 16 = some 33 := by decide
theorem e198_20 : amT 198 20 22 (.iload 4) 0 := r198 (len := 2) (by decide +kernel) rfl
theorem e198_22 : amT 198 22 23 (.i2l) 0 := r198 (len := 1) (by decide +kernel) rfl
theorem e198_23 : amT 198 23 24 (.lconst 0) 0 := r198 (len := 1) (by decide +kernel) rfl
theorem e198_24 : amT 198 24 27 (.ldc2_w 257) 11 := r198 (len := 3) (by decide +kernel) rfl
theorem e198_27 : amT 198 27 30 (.invokestatic 107) 152 := r198 (len := 3) (by decide +kernel) rfl
theorem e198_30 : amT 198 30 33 (.ifCond .ne 7) 0 := r198 (len := 3) (by decide +kernel) rfl
theorem t198_30 : amTg 30 7 = some 37 := by decide
theorem e198_33 : amT 198 33 36 (.ldc2_w 140) 4 := r198 (len := 3) (by decide +kernel) rfl
theorem e198_36 : amT 198 36 37 (.lreturn) 0 := r198 (len := 1) (by decide +kernel) rfl
theorem e198_37 : amT 198 37 38 (.aload_n 0) 0 := r198 (len := 1) (by decide +kernel) rfl
theorem e198_38 : amT 198 38 41 (.invokevirtual 225) 189 := r198 (len := 3) (by decide +kernel) rfl
theorem e198_41 : amT 198 41 42 (.aload_n 0) 0 := r198 (len := 1) (by decide +kernel) rfl
theorem e198_42 : amT 198 42 43 (.iconst 0) 0 := r198 (len := 1) (by decide +kernel) rfl
theorem e198_43 : amT 198 43 44 (.iload_n 1) 0 := r198 (len := 1) (by decide +kernel) rfl
theorem e198_44 : amT 198 44 45 (.iload_n 2) 0 := r198 (len := 1) (by decide +kernel) rfl
theorem e198_45 : amT 198 45 48 (.invokevirtual 259) 197 := r198 (len := 3) (by decide +kernel) rfl
theorem e198_48 : amT 198 48 51 (.ifCond .ne 7) 0 := r198 (len := 3) (by decide +kernel) rfl
theorem t198_48 : amTg 48 7 = some 55 := by decide
theorem e198_51 : amT 198 51 54 (.ldc2_w 140) 4 := r198 (len := 3) (by decide +kernel) rfl
theorem e198_54 : amT 198 54 55 (.lreturn) 0 := r198 (len := 1) (by decide +kernel) rfl
theorem e198_55 : amT 198 55 56 (.aload_n 0) 0 := r198 (len := 1) (by decide +kernel) rfl
theorem e198_56 : amT 198 56 57 (.iconst 0) 0 := r198 (len := 1) (by decide +kernel) rfl
theorem e198_57 : amT 198 57 58 (.iload_n 2) 0 := r198 (len := 1) (by decide +kernel) rfl
theorem e198_58 : amT 198 58 59 (.iload_n 3) 0 := r198 (len := 1) (by decide +kernel) rfl
theorem e198_59 : amT 198 59 62 (.invokevirtual 263) 196 := r198 (len := 3) (by decide +kernel) rfl
theorem e198_62 : amT 198 62 63 (.aload_n 0) 0 := r198 (len := 1) (by decide +kernel) rfl
theorem e198_63 : amT 198 63 66 (.getfield 111) 777 := r198 (len := 3) (by decide +kernel) rfl
theorem e198_66 : amT 198 66 69 (.ifCond .eq 7) 0 := r198 (len := 3) (by decide +kernel) rfl
theorem t198_66 : amTg 66 7 = some 73 := by decide
theorem e198_69 : amT 198 69 72 (.ldc2_w 140) 4 := r198 (len := 3) (by decide +kernel) rfl
theorem e198_72 : amT 198 72 73 (.lreturn) 0 := r198 (len := 1) (by decide +kernel) rfl
theorem e198_73 : amT 198 73 75 (.iload 4) 0 := r198 (len := 2) (by decide +kernel) rfl
theorem e198_75 : amT 198 75 78 (.ifCond .ne 10) 0 := r198 (len := 3) (by decide +kernel) rfl
theorem t198_75 : amTg 75 10 = some 85 := by decide
theorem e198_78 : amT 198 78 79 (.aload_n 0) 0 := r198 (len := 1) (by decide +kernel) rfl
theorem e198_79 : amT 198 79 82 (.getfield 242) 786 := r198 (len := 3) (by decide +kernel) rfl
theorem e198_82 : amT 198 82 85 (.goto 33) 0 := r198 (len := 3) (by decide +kernel) rfl
theorem t198_82 : amTg 82 33 = some 115 := by decide
theorem e198_85 : amT 198 85 87 (.iload 4) 0 := r198 (len := 2) (by decide +kernel) rfl
theorem e198_87 : amT 198 87 88 (.iconst 1) 0 := r198 (len := 1) (by decide +kernel) rfl
theorem e198_88 : amT 198 88 91 (.if_icmp .ne 10) 0 := r198 (len := 3) (by decide +kernel) rfl
theorem t198_88 : amTg 88 10 = some 98 := by decide
theorem e198_91 : amT 198 91 92 (.aload_n 0) 0 := r198 (len := 1) (by decide +kernel) rfl
theorem e198_92 : amT 198 92 95 (.getfield 246) 787 := r198 (len := 3) (by decide +kernel) rfl
theorem e198_95 : amT 198 95 98 (.goto 20) 0 := r198 (len := 3) (by decide +kernel) rfl
theorem t198_95 : amTg 95 20 = some 115 := by decide
theorem e198_98 : amT 198 98 100 (.iload 4) 0 := r198 (len := 2) (by decide +kernel) rfl
theorem e198_100 : amT 198 100 101 (.iconst 2) 0 := r198 (len := 1) (by decide +kernel) rfl
theorem e198_101 : amT 198 101 104 (.if_icmp .ne 10) 0 := r198 (len := 3) (by decide +kernel) rfl
theorem t198_101 : amTg 101 10 = some 111 := by decide
theorem e198_104 : amT 198 104 105 (.aload_n 0) 0 := r198 (len := 1) (by decide +kernel) rfl
theorem e198_105 : amT 198 105 108 (.getfield 249) 788 := r198 (len := 3) (by decide +kernel) rfl
theorem e198_108 : amT 198 108 111 (.goto 7) 0 := r198 (len := 3) (by decide +kernel) rfl
theorem t198_108 : amTg 108 7 = some 115 := by decide
theorem e198_111 : amT 198 111 112 (.aload_n 0) 0 := r198 (len := 1) (by decide +kernel) rfl
theorem e198_112 : amT 198 112 115 (.getfield 252) 789 := r198 (len := 3) (by decide +kernel) rfl
theorem e198_115 : amT 198 115 116 (.lreturn) 0 := r198 (len := 1) (by decide +kernel) rfl
theorem q199 : amCs.getD 199 [] = amC_199 := rfl
theorem r199 {pc pc' len op : Nat} {i : Instr} (h : amC_199.lookup pc = some (i, len, op)) (h2 : pc + len = pc') : amT 199 pc pc' i op := ⟨len, by unfold amEnt; rw [q199]; exact h, h2⟩
theorem e199_0 : amT 199 0 1 (.aload_n 0) 0 := r199 (len := 1) (by decide +kernel) rfl
theorem e199_1 : amT 199 1 2 (.iload_n 1) 0 := r199 (len := 1) (by decide +kernel) rfl
theorem e199_2 : amT 199 2 3 (.aload_n 0) 0 := r199 (len := 1) (by decide +kernel) rfl
theorem e199_3 : amT 199 3 6 (.getfield 242) 786 := r199 (len := 3) (by decide +kernel) rfl
theorem e199_6 : amT 199 6 7 (.aload_n 0) 0 := r199 (len := 1) (by decide +kernel) rfl
theorem e199_7 : amT 199 7 10 (.getfield 246) 787 := r199 (len := 3) (by decide +kernel) rfl
theorem e199_10 : amT 199 10 13 (.invokevirtual 232) 186 := r199 (len := 3) (by decide +kernel) rfl
theorem e199_13 : amT 199 13 14 (.aload_n 0) 0 := r199 (len := 1) (by decide +kernel) rfl
theorem e199_14 : amT 199 14 15 (.iload_n 1) 0 := r199 (len := 1) (by decide +kernel) rfl
theorem e199_15 : amT 199 15 16 (.aload_n 0) 0 := r199 (len := 1) (by decide +kernel) rfl
theorem e199_16 : amT 199 16 19 (.getfield 249) 788 := r199 (len := 3) (by decide +kernel) rfl
theorem e199_19 : amT 199 19 20 (.aload_n 0) 0 := r199 (len := 1) (by decide +kernel) rfl
theorem e199_20 : amT 199 20 23 (.getfield 252) 789 := r199 (len := 3) (by decide +kernel) rfl
theorem e199_23 : amT 199 23 26 (.invokevirtual 232) 186 := r199 (len := 3) (by decide +kernel) rfl
theorem e199_26 : amT 199 26 27 (.isub) 0 := r199 (len := 1) (by decide +kernel) rfl
theorem e199_27 : amT 199 27 28 (.ireturn) 0 := r199 (len := 1) (by decide +kernel) rfl
theorem q200 : amCs.getD 200 [] = amC_200 := rfl
theorem r200 {pc pc' len op : Nat} {i : Instr} (h : amC_200.lookup pc = some (i, len, op)) (h2 : pc + len = pc') : amT 200 pc pc' i op := ⟨len, by unfold amEnt; rw [q200]; exact h, h2⟩
theorem e200_0 : amT 200 0 1 (.aload_n 0) 0 := r200 (len := 1) (by decide +kernel) rfl
theorem e200_1 : amT 200 1 4 (.getfield 68) 790 := r200 (len := 3) (by decide +kernel) rfl
theorem e200_4 : amT 200 4 5 (.aload_n 0) 0 := r200 (len := 1) (by decide +kernel) rfl
theorem e200_5 : amT 200 5 8 (.getfield 71) 791 := r200 (len := 3) (by decide +kernel) rfl
theorem e200_8 : amT 200 8 11 (.invokestatic 202) 178 := r200 (len := 3) (by decide +kernel) rfl
theorem e200_11 : amT 200 11 12 (.aload_n 0) 0 := r200 (len := 1) (by decide +kernel) rfl
theorem e200_12 : amT 200 12 13 (.aload_n 0) 0 := r200 (len := 1) (by decide +kernel) rfl
theorem e200_13 : amT 200 13 16 (.getfield 68) 790 := r200 (len := 3) (by decide +kernel) rfl
theorem e200_16 : amT 200 16 17 (.aload_n 0) 0 := r200 (len := 1) (by decide +kernel) rfl
theorem e200_17 : amT 200 17 20 (.getfield 71) 791 := r200 (len := 3) (by decide +kernel) rfl
theorem e200_20 : amT 200 20 21 (.aload_n 0) 0 := r200 (len := 1) (by decide +kernel) rfl
theorem e200_21 : amT 200 21 24 (.getfield 68) 790 := r200 (len := 3) (by decide +kernel) rfl
theorem e200_24 : amT 200 24 27 (.invokevirtual 205) 180 := r200 (len := 3) (by decide +kernel) rfl
theorem e200_27 : amT 200 27 28 (.return_) 0 := r200 (len := 1) (by decide +kernel) rfl
theorem q201 : amCs.getD 201 [] = amC_201 := rfl
theorem r201 {pc pc' len op : Nat} {i : Instr} (h : amC_201.lookup pc = some (i, len, op)) (h2 : pc + len = pc') : amT 201 pc pc' i op := ⟨len, by unfold amEnt; rw [q201]; exact h, h2⟩
theorem e201_0 : amT 201 0 1 (.aload_n 0) 0 := r201 (len := 1) (by decide +kernel) rfl
theorem e201_1 : amT 201 1 2 (.iload_n 1) 0 := r201 (len := 1) (by decide +kernel) rfl
theorem e201_2 : amT 201 2 5 (.invokevirtual 135) 157 := r201 (len := 3) (by decide +kernel) rfl
theorem e201_5 : amT 201 5 8 (.ifCond .ne 5) 0 := r201 (len := 3) (by decide +kernel) rfl
theorem t201_5 : amTg 5 5 = some 10 := by decide
theorem e201_8 : amT 201 8 9 (.iconst (-1)) 0 := r201 (len := 1) (by decide +kernel) rfl
theorem e201_9 : amT 201 9 10 (.ireturn) 0 := r201 (len := 1) (by decide +kernel) rfl
theorem e201_10 : amT 201 10 11 (.aload_n 0) 0 := r201 (len := 1) (by decide +kernel) rfl
theorem e201_11 : amT 201 11 14 (.invokevirtual 225) 189 := r201 (len := 3) (by decide +kernel) rfl
theorem e201_14 : amT 201 14 15 (.aload_n 0) 0 := r201 (len := 1) (by decide +kernel) rfl
theorem e201_15 : amT 201 15 16 (.iconst 0) 0 := r201 (len := 1) (by decide +kernel) rfl
theorem e201_16 : amT 201 16 17 (.iload_n 1) 0 := r201 (len := 1) (by decide +kernel) rfl
theorem e201_17 : amT 201 17 18 (.iload_n 2) 0 := r201 (len := 1) (by decide +kernel) rfl
theorem e201_18 : amT 201 18 21 (.invokevirtual 259) 197 := r201 (len := 3) (by decide +kernel) rfl
theorem e201_21 : amT 201 21 24 (.ifCond .ne 17) 0 := r201 (len := 3) (by decide +kernel) rfl
theorem t201_21 : amTg 21 17 = some 38 := by decide
theorem e201_24 : amT 201 24 25 (.aload_n 0) 0 := r201 (len := 1) (by decide +kernel) rfl
theorem e201_25 : amT 201 25 28 (.getfield 111) 777 := r201 (len := 3) (by decide +kernel) rfl
theorem e201_28 : amT 201 28 31 (.ifCond .eq 8) 0 := r201 (len := 3) (by decide +kernel) rfl
theorem t201_28 : amTg 28 8 = some 36 := by decide
theorem e201_31 : amT 201 31 33 (.bipush (-3)) 0 := r201 (len := 2) (by decide +kernel) rfl
theorem e201_33 : amT 201 33 36 (.goto 4) 0 := r201 (len := 3) (by decide +kernel) rfl
theorem t201_33 : amTg 33 4 = some 37 := by decide
theorem e201_36 : amT 201 36 37 (.iconst (-1)) 0 := r201 (len := 1) (by decide +kernel) rfl
theorem e201_37 : amT 201 37 38 (.ireturn) 0 := r201 (len := 1) (by decide +kernel) rfl
theorem e201_38 : amT 201 38 39 (.aload_n 0) 0 := r201 (len := 1) (by decide +kernel) rfl
theorem e201_39 : amT 201 39 40 (.iconst 0) 0 := r201 (len := 1) (by decide +kernel) rfl
theorem e201_40 : amT 201 40 41 (.iload_n 2) 0 := r201 (len := 1) (by decide +kernel) rfl
theorem e201_41 : amT 201 41 42 (.iconst 0) 0 := r201 (len := 1) (by decide +kernel) rfl
theorem e201_42 : amT 201 42 45 (.invokevirtual 263) 196 := r201 (len := 3) (by decide +kernel) rfl
theorem e201_45 : amT 201 45 46 (.aload_n 0) 0 := r201 (len := 1) (by decide +kernel) rfl
theorem e201_46 : amT 201 46 49 (.getfield 111) 777 := r201 (len := 3) (by decide +kernel) rfl
theorem e201_49 : amT 201 49 52 (.ifCond .eq 6) 0 := r201 (len := 3) (by decide +kernel) rfl
theorem t201_49 : amTg 49 6 = some 55 := by decide
theorem e201_52 : amT 201 52 54 (.bipush (-3)) 0 := r201 (len := 2) (by decide +kernel) rfl
theorem e201_54 : amT 201 54 55 (.ireturn) 0 := r201 (len := 1) (by decide +kernel) rfl
theorem e201_55 : amT 201 55 56 (.iconst 1) 0 := r201 (len := 1) (by decide +kernel) rfl
theorem e201_56 : amT 201 56 57 (.istore_n 3) 0 := r201 (len := 1) (by decide +kernel) rfl
theorem e201_57 : amT 201 57 58 (.aload_n 0) 0 := r201 (len := 1) (by decide +kernel) rfl
theorem e201_58 : amT 201 58 59 (.iload_n 1) 0 := r201 (len := 1) (by decide +kernel) rfl
theorem e201_59 : amT 201 59 60 (.aload_n 0) 0 := r201 (len := 1) (by decide +kernel) rfl
theorem e201_60 : amT 201 60 63 (.getfield 68) 790 := r201 (len := 3) (by decide +kernel) rfl
theorem e201_63 : amT 201 63 66 (.invokevirtual 148) 163 := r201 (len := 3) (by decide +kernel) rfl
theorem e201_66 : amT 201 66 67 (.aload_n 0) 0 := r201 (len := 1) (by decide +kernel) rfl
theorem e201_67 : amT 201 67 70 (.invokevirtual 267) 200 := r201 (len := 3) (by decide +kernel) rfl
theorem e201_70 : amT 201 70 71 (.aload_n 0) 0 := r201 (len := 1) (by decide +kernel) rfl
theorem e201_71 : amT 201 71 74 (.getfield 111) 777 := r201 (len := 3) (by decide +kernel) rfl
theorem e201_74 : amT 201 74 77 (.ifCond .ne 52) 0 := r201 (len := 3) (by decide +kernel) rfl
theorem t201_74 : amTg 74 52 = some 126 := by decide
theorem e201_77 : amT 201 77 78 (.aload_n 0) 0 := r201 (len := 1) (by decide +kernel) rfl
theorem e201_78 : amT 201 78 81 (.getfield 68) 790 := r201 (len := 3) (by decide +kernel) rfl
theorem e201_81 : amT 201 81 84 (.invokestatic 115) 173 := r201 (len := 3) (by decide +kernel) rfl
theorem e201_84 : amT 201 84 87 (.ifCond .le 42) 0 := r201 (len := 3) (by decide +kernel) rfl
theorem t201_84 : amTg 84 42 = some 126 := by decide
theorem e201_87 : amT 201 87 88 (.aload_n 0) 0 := r201 (len := 1) (by decide +kernel) rfl
theorem e201_88 : amT 201 88 89 (.iconst 1) 0 := r201 (len := 1) (by decide +kernel) rfl
theorem e201_89 : amT 201 89 90 (.aload_n 0) 0 := r201 (len := 1) (by decide +kernel) rfl
theorem e201_90 : amT 201 90 93 (.getfield 68) 790 := r201 (len := 3) (by decide +kernel) rfl
theorem e201_93 : amT 201 93 96 (.invokevirtual 218) 184 := r201 (len := 3) (by decide +kernel) rfl
theorem e201_96 : amT 201 96 97 (.iload_n 3) 0 := r201 (len := 1) (by decide +kernel) rfl
theorem e201_97 : amT 201 97 98 (.aload_n 0) 0 := r201 (len := 1) (by decide +kernel) rfl
theorem e201_98 : amT 201 98 101 (.getfield 111) 777 := r201 (len := 3) (by decide +kernel) rfl
theorem e201_101 : amT 201 101 104 (.ifCond .ne 15) 0 := r201 (len := 3) (by decide +kernel) rfl
theorem t201_101 : amTg 101 15 = some 116 := by decide
theorem e201_104 : amT 201 104 105 (.aload_n 0) 0 := r201 (len := 1) (by decide +kernel) rfl
theorem e201_105 : amT 201 105 106 (.iconst 1) 0 := r201 (len := 1) (by decide +kernel) rfl
theorem e201_106 : amT 201 106 109 (.invokevirtual 270) 199 := r201 (len := 3) (by decide +kernel) rfl
theorem e201_109 : amT 201 109 112 (.ifCond .le 7) 0 := r201 (len := 3) (by decide +kernel) rfl
theorem t201_109 : amTg 109 7 = some 116 := by decide
theorem e201_112 : amT 201 112 113 (.iconst 1) 0 := r201 (len := 1) (by decide +kernel) rfl
theorem e201_113 : amT 201 113 116 (.goto 4) 0 := r201 (len := 3) (by decide +kernel) rfl
theorem t201_113 : amTg 113 4 = some 117 := by decide
theorem e201_116 : amT 201 116 117 (.iconst 0) 0 := r201 (len := 1) (by decide +kernel) rfl
theorem e201_117 : amT 201 117 118 (.iadd) 0 := r201 (len := 1) (by decide +kernel) rfl
theorem e201_118 : amT 201 118 119 (.istore_n 3) 0 := r201 (len := 1) (by decide +kernel) rfl
theorem e201_119 : amT 201 119 120 (.aload_n 0) 0 := r201 (len := 1) (by decide +kernel) rfl
theorem e201_120 : amT 201 120 123 (.invokevirtual 267) 200 := r201 (len := 3) (by decide +kernel) rfl
theorem e201_123 : amT 201 123 126 (.goto (-53)) 0 := r201 (len := 3) (by decide +kernel) rfl
theorem t201_123 : amTg 123 (-53) = some 70 := by decide
theorem e201_126 : amT 201 126 127 (.aload_n 0) 0 := r201 (len := 1) (by decide +kernel) rfl
theorem e201_127 : amT 201 127 130 (.getfield 111) 777 := r201 (len := 3) (by decide +kernel) rfl
theorem e201_130 : amT 201 130 133 (.ifCond .eq 8) 0 := r201 (len := 3) (by decide +kernel) rfl
theorem t201_130 : amTg 130 8 = some 138 := by decide
theorem e201_133 : amT 201 133 135 (.bipush (-3)) 0 := r201 (len := 2) (by decide +kernel) rfl
theorem e201_135 : amT 201 135 138 (.goto 4) 0 := r201 (len := 3) (by decide +kernel) rfl
theorem t201_135 : amTg 135 4 = some 139 := by decide
theorem e201_138 : amT 201 138 139 (.iload_n 3) 0 := r201 (len := 1) (by decide +kernel) rfl
theorem e201_139 : amT 201 139 140 (.ireturn) 0 := r201 (len := 1) (by decide +kernel) rfl
theorem q202 : amCs.getD 202 [] = amC_202 := rfl
theorem r202 {pc pc' len op : Nat} {i : Instr} (h : amC_202.lookup pc = some (i, len, op)) (h2 : pc + len = pc') : amT 202 pc pc' i op := ⟨len, by unfold amEnt; rw [q202]; exact h, h2⟩
theorem e202_0 : amT 202 0 1 (.aload_n 0) 0 := r202 (len := 1) (by decide +kernel) rfl
theorem e202_1 : amT 202 1 2 (.iload_n 2) 0 := r202 (len := 1) (by decide +kernel) rfl
theorem e202_2 : amT 202 2 3 (.aload_n 0) 0 := r202 (len := 1) (by decide +kernel) rfl
theorem e202_3 : amT 202 3 6 (.getfield 36) 775 := r202 (len := 3) (by decide +kernel) rfl
theorem e202_6 : amT 202 6 9 (.invokevirtual 148) 163 := r202 (len := 3) (by decide +kernel) rfl
theorem e202_9 : amT 202 9 10 (.aload_n 0) 0 := r202 (len := 1) (by decide +kernel) rfl
theorem e202_10 : amT 202 10 11 (.iload_n 3) 0 := r202 (len := 1) (by decide +kernel) rfl
theorem e202_11 : amT 202 11 12 (.aload_n 0) 0 := r202 (len := 1) (by decide +kernel) rfl
theorem e202_12 : amT 202 12 15 (.getfield 39) 776 := r202 (len := 3) (by decide +kernel) rfl
theorem e202_15 : amT 202 15 18 (.invokevirtual 148) 163 := r202 (len := 3) (by decide +kernel) rfl
theorem e202_18 : amT 202 18 19 (.aload_n 0) 0 := r202 (len := 1) (by decide +kernel) rfl
theorem e202_19 : amT 202 19 20 (.aload_n 0) 0 := r202 (len := 1) (by decide +kernel) rfl
theorem e202_20 : amT 202 20 23 (.getfield 36) 775 := r202 (len := 3) (by decide +kernel) rfl
theorem e202_23 : amT 202 23 24 (.aload_n 0) 0 := r202 (len := 1) (by decide +kernel) rfl
theorem e202_24 : amT 202 24 27 (.getfield 39) 776 := r202 (len := 3) (by decide +kernel) rfl
theorem e202_27 : amT 202 27 28 (.aload_n 0) 0 := r202 (len := 1) (by decide +kernel) rfl
theorem e202_28 : amT 202 28 31 (.getfield 68) 790 := r202 (len := 3) (by decide +kernel) rfl
theorem e202_31 : amT 202 31 34 (.invokevirtual 205) 180 := r202 (len := 3) (by decide +kernel) rfl
theorem e202_34 : amT 202 34 35 (.aload_n 0) 0 := r202 (len := 1) (by decide +kernel) rfl
theorem e202_35 : amT 202 35 38 (.getfield 111) 777 := r202 (len := 3) (by decide +kernel) rfl
theorem e202_38 : amT 202 38 41 (.ifCond .ne 12) 0 := r202 (len := 3) (by decide +kernel) rfl
theorem t202_38 : amTg 38 12 = some 50 := by decide
theorem e202_41 : amT 202 41 42 (.aload_n 0) 0 := r202 (len := 1) (by decide +kernel) rfl
theorem e202_42 : amT 202 42 43 (.iload_n 1) 0 := r202 (len := 1) (by decide +kernel) rfl
theorem e202_43 : amT 202 43 44 (.aload_n 0) 0 := r202 (len := 1) (by decide +kernel) rfl
theorem e202_44 : amT 202 44 47 (.getfield 68) 790 := r202 (len := 3) (by decide +kernel) rfl
theorem e202_47 : amT 202 47 50 (.invokevirtual 218) 184 := r202 (len := 3) (by decide +kernel) rfl
theorem e202_50 : amT 202 50 51 (.return_) 0 := r202 (len := 1) (by decide +kernel) rfl
theorem q203 : amCs.getD 203 [] = amC_203 := rfl
theorem r203 {pc pc' len op : Nat} {i : Instr} (h : amC_203.lookup pc = some (i, len, op)) (h2 : pc + len = pc') : amT 203 pc pc' i op := ⟨len, by unfold amEnt; rw [q203]; exact h, h2⟩
theorem e203_0 : amT 203 0 1 (.aload_n 0) 0 := r203 (len := 1) (by decide +kernel) rfl
theorem e203_1 : amT 203 1 2 (.iload_n 1) 0 := r203 (len := 1) (by decide +kernel) rfl
theorem e203_2 : amT 203 2 5 (.invokevirtual 135) 157 := r203 (len := 3) (by decide +kernel) rfl
theorem e203_5 : amT 203 5 8 (.ifCond .eq 11) 0 := r203 (len := 3) (by decide +kernel) rfl
theorem t203_5 : amTg 5 11 = some 16 := by decide
theorem e203_8 : amT 203 8 9 (.aload_n 0) 0 := r203 (len := 1) (by decide +kernel) rfl
theorem e203_9 : amT 203 9 10 (.iload_n 2) 0 := r203 (len := 1) (by decide +kernel) rfl
theorem e203_10 : amT 203 10 13 (.invokevirtual 135) 157 := r203 (len := 3) (by decide +kernel) rfl
theorem e203_13 : amT 203 13 16 (.ifCond .ne 5) 0 := r203 (len := 3) (by decide +kernel) rfl
theorem t203_13 : amTg 13 5 = some 18 := by decide
theorem e203_16 : amT 203 16 17 (.iconst (-1)) 0 := r203 (len := 1) (by decide +kernel) rfl
theorem e203_17 : amT 203 17 18 (.ireturn) 0 := r203 (len := 1) (by decide +kernel) rfl
theorem e203_18 : amT 203 18 19 (.aload_n 0) 0 := r203 (len := 1) (by decide +kernel) rfl
theorem e203_19 : amT 203 19 22 (.invokevirtual 225) 189 := r203 (len := 3) (by decide +kernel) rfl
theorem e203_22 : amT 203 22 23 (.aload_n 0) 0 := r203 (len := 1) (by decide +kernel) rfl
theorem e203_23 : amT 203 23 24 (.iconst 0) 0 := r203 (len := 1) (by decide +kernel) rfl
theorem e203_24 : amT 203 24 25 (.iload_n 1) 0 := r203 (len := 1) (by decide +kernel) rfl
theorem e203_25 : amT 203 25 26 (.iload_n 2) 0 := r203 (len := 1) (by decide +kernel) rfl
theorem e203_26 : amT 203 26 29 (.invokevirtual 273) 202 := r203 (len := 3) (by decide +kernel) rfl
theorem e203_29 : amT 203 29 30 (.aload_n 0) 0 := r203 (len := 1) (by decide +kernel) rfl
theorem e203_30 : amT 203 30 33 (.getfield 111) 777 := r203 (len := 3) (by decide +kernel) rfl
theorem e203_33 : amT 203 33 36 (.ifCond .eq 8) 0 := r203 (len := 3) (by decide +kernel) rfl
theorem t203_33 : amTg 33 8 = some 41 := by decide
theorem e203_36 : amT 203 36 38 (.bipush (-3)) 0 := r203 (len := 2) (by decide +kernel) rfl
theorem e203_38 : amT 203 38 41 (.goto 8) 0 := r203 (len := 3) (by decide +kernel) rfl
theorem t203_38 : amTg 38 8 = some 46 := by decide
theorem e203_41 : amT 203 41 42 (.aload_n 0) 0 := r203 (len := 1) (by decide +kernel) rfl
theorem e203_42 : amT 203 42 43 (.iconst 0) 0 := r203 (len := 1) (by decide +kernel) rfl
theorem e203_43 : amT 203 43 46 (.invokevirtual 236) 188 := r203 (len := 3) (by decide +kernel) rfl
theorem e203_46 : amT 203 46 47 (.ireturn) 0 := r203 (len := 1) (by decide +kernel) rfl
theorem q204 : amCs.getD 204 [] = amC_204 := rfl
theorem r204 {pc pc' len op : Nat} {i : Instr} (h : amC_204.lookup pc = some (i, len, op)) (h2 : pc + len = pc') : amT 204 pc pc' i op := ⟨len, by unfold amEnt; rw [q204]; exact h, h2⟩
theorem e204_0 : amT 204 0 1 (.aload_n 0) 0 := r204 (len := 1) (by decide +kernel) rfl
theorem e204_1 : amT 204 1 2 (.iload_n 1) 0 := r204 (len := 1) (by decide +kernel) rfl
theorem e204_2 : amT 204 2 5 (.invokevirtual 135) 157 := r204 (len := 3) (by decide +kernel) rfl
theorem e204_5 : amT 204 5 8 (.ifCond .eq 11) 0 := r204 (len := 3) (by decide +kernel) rfl
theorem t204_5 : amTg 5 11 = some 16 := by decide
theorem e204_8 : amT 204 8 9 (.aload_n 0) 0 := r204 (len := 1) (by decide +kernel) rfl
theorem e204_9 : amT 204 9 10 (.iload_n 3) 0 := r204 (len := 1) (by decide +kernel) rfl
theorem e204_10 : amT 204 10 13 (.invokevirtual 135) 157 := r204 (len := 3) (by decide +kernel) rfl
theorem e204_13 : amT 204 13 16 (.ifCond .ne 7) 0 := r204 (len := 3) (by decide +kernel) rfl
theorem t204_13 : amTg 13 7 = some 20 := by decide
theorem e204_16 : amT 204 16 19 (.ldc2_w 140) 4 := r204 (len := 3) (by decide +kernel) rfl
theorem e204_19 : amT 204 19 20 (.lreturn) 0 := r204 (len := 1) (by decide +kernel) rfl
theorem e204_20 : amT 204 20 21 (.aload_n 0) 0 := r204 (len := 1) (by decide +kernel) rfl
theorem e204_21 : amT 204 21 24 (.invokevirtual 225) 189 := r204 (len := 3) (by decide +kernel) rfl
theorem e204_24 : amT 204 24 25 (.aload_n 0) 0 := r204 (len := 1) (by decide +kernel) rfl
theorem e204_25 : amT 204 25 26 (.iconst 0) 0 := r204 (len := 1) (by decide +kernel) rfl
theorem e204_26 : amT 204 26 27 (.iload_n 1) 0 := r204 (len := 1) (by decide +kernel) rfl
theorem e204_27 : amT 204 27 28 (.iload_n 2) 0 := r204 (len := 1) (by decide +kernel) rfl
theorem e204_28 : amT 204 28 31 (.invokevirtual 259) 197 := r204 (len := 3) (by decide +kernel) rfl
theorem e204_31 : amT 204 31 34 (.ifCond .ne 7) 0 := r204 (len := 3) (by decide +kernel) rfl
theorem t204_31 : amTg 31 7 = some 38 := by decide
theorem e204_34 : amT 204 34 37 (.ldc2_w 140) 4 := r204 (len := 3) (by decide +kernel) rfl
theorem e204_37 : amT 204 37 38 (.lreturn) 0 := r204 (len := 1) (by decide +kernel) rfl
theorem e204_38 : amT 204 38 39 (.aload_n 0) 0 := r204 (len := 1) (by decide +kernel) rfl
theorem e204_39 : amT 204 39 40 (.iconst 0) 0 := r204 (len := 1) (by decide +kernel) rfl
theorem e204_40 : amT 204 40 41 (.iload_n 2) 0 := r204 (len := 1) (by decide +kernel) rfl
theorem e204_41 : amT 204 41 42 (.iconst 0) 0 := r204 (len := 1) (by decide +kernel) rfl
theorem e204_42 : amT 204 42 45 (.invokevirtual 263) 196 := r204 (len := 3) (by decide +kernel) rfl
theorem e204_45 : amT 204 45 46 (.aload_n 0) 0 := r204 (len := 1) (by decide +kernel) rfl
theorem e204_46 : amT 204 46 49 (.getfield 111) 777 := r204 (len := 3) (by decide +kernel) rfl
theorem e204_49 : amT 204 49 52 (.ifCond .eq 7) 0 := r204 (len := 3) (by decide +kernel) rfl
theorem t204_49 : amTg 49 7 = some 56 := by decide
theorem e204_52 : amT 204 52 55 (.ldc2_w 140) 4 := r204 (len := 3) (by decide +kernel) rfl
theorem e204_55 : amT 204 55 56 (.lreturn) 0 := r204 (len := 1) (by decide +kernel) rfl
theorem e204_56 : amT 204 56 57 (.aload_n 0) 0 := r204 (len := 1) (by decide +kernel) rfl
theorem e204_57 : amT 204 57 58 (.iconst 1) 0 := r204 (len := 1) (by decide +kernel) rfl
theorem e204_58 : amT 204 58 59 (.iload_n 1) 0 := r204 (len := 1) (by decide +kernel) rfl
theorem e204_59 : amT 204 59 60 (.iload_n 3) 0 := r204 (len := 1) (by decide +kernel) rfl
theorem e204_60 : amT 204 60 63 (.invokevirtual 273) 202 := r204 (len := 3) (by decide +kernel) rfl
theorem e204_63 : amT 204 63 64 (.aload_n 0) 0 := r204 (len := 1) (by decide +kernel) rfl
theorem e204_64 : amT 204 64 67 (.getfield 111) 777 := r204 (len := 3) (by decide +kernel) rfl
theorem e204_67 : amT 204 67 70 (.ifCond .eq 7) 0 := r204 (len := 3) (by decide +kernel) rfl
theorem t204_67 : amTg 67 7 = some 74 := by decide
theorem e204_70 : amT 204 70 73 (.ldc2_w 140) 4 := r204 (len := 3) (by decide +kernel) rfl
theorem e204_73 : amT 204 73 74 (.lreturn) 0 := r204 (len := 1) (by decide +kernel) rfl
theorem e204_74 : amT 204 74 75 (.aload_n 0) 0 := r204 (len := 1) (by decide +kernel) rfl
theorem e204_75 : amT 204 75 76 (.iconst 1) 0 := r204 (len := 1) (by decide +kernel) rfl
theorem e204_76 : amT 204 76 79 (.invokevirtual 270) 199 := r204 (len := 3) (by decide +kernel) rfl
theorem e204_79 : amT 204 79 82 (.ifCond .le 5) 0 := r204 (len := 3) (by decide +kernel) rfl
theorem t204_79 : amTg 79 5 = some 84 := by decide
theorem e204_82 : amT 204 82 83 (.lconst 0) 0 := r204 (len := 1) (by decide +kernel) rfl
theorem e204_83 : amT 204 83 84 (.lreturn) 0 := r204 (len := 1) (by decide +kernel) rfl
theorem e204_84 : amT 204 84 85 (.aload_n 0) 0 := r204 (len := 1) (by decide +kernel) rfl
theorem e204_85 : amT 204 85 86 (.iconst 1) 0 := r204 (len := 1) (by decide +kernel) rfl
theorem e204_86 : amT 204 86 87 (.iload_n 3) 0 := r204 (len := 1) (by decide +kernel) rfl
theorem e204_87 : amT 204 87 90 (.invokevirtual 228) 185 := r204 (len := 3) (by decide +kernel) rfl
theorem e204_90 : amT 204 90 91 (.iconst 0) 0 := r204 (len := 1) (by decide +kernel) rfl
theorem e204_91 : amT 204 91 93 (.istore 4) 0 := r204 (len := 2) (by decide +kernel) rfl
theorem e204_93 : amT 204 93 95 (.iload 4) 0 := r204 (len := 2) (by decide +kernel) rfl
theorem e204_95 : amT 204 95 97 (.bipush 9) 0 := r204 (len := 2) (by decide +kernel) rfl
theorem e204_97 : amT 204 97 100 (.if_icmp .gt 71) 0 := r204 (len := 3) (by decide +kernel) rfl
theorem t204_97 : amTg 97 71 = some 168 := by decide
theorem e204_100 : amT 204 100 101 (.aload_n 0) 0 := r204 (len := 1) (by decide +kernel) rfl
theorem e204_101 : amT 204 101 104 (.getfield 111) 777 := r204 (len := 3) (by decide +kernel) rfl
theorem e204_104 : amT 204 104 107 (.ifCond .ne 64) 0 := r204 (len := 3) (by decide +kernel) rfl
theorem t204_104 : amTg 104 64 = some 168 := by decide
theorem e204_107 : amT 204 107 108 (.aload_n 0) 0 := r204 (len := 1) (by decide +kernel) rfl
theorem e204_108 : amT 204 108 109 (.iconst 0) 0 := r204 (len := 1) (by decide +kernel) rfl
theorem e204_109 : amT 204 109 110 (.iload_n 2) 0 := r204 (len := 1) (by decide +kernel) rfl
theorem e204_110 : amT 204 110 112 (.iload 4) 0 := r204 (len := 2) (by decide +kernel) rfl
theorem e204_112 : amT 204 112 115 (.invokevirtual 263) 196 := r204 (len := 3) (by decide +kernel) rfl
theorem e204_115 : amT 204 115 116 (.aload_n 0) 0 := r204 (len := 1) (by decide +kernel) rfl
theorem e204_116 : amT 204 116 119 (.getfield 111) 777 := r204 (len := 3) (by decide +kernel) rfl
theorem e204_119 : amT 204 119 122 (.ifCond .ne 43) 0 := r204 (len := 3) (by decide +kernel) rfl
theorem t204_119 : amTg 119 43 = some 162 := by decide
theorem e204_122 : amT 204 122 123 (.aload_n 0) 0 := r204 (len := 1) (by decide +kernel) rfl
theorem e204_123 : amT 204 123 124 (.iconst 1) 0 := r204 (len := 1) (by decide +kernel) rfl
theorem e204_124 : amT 204 124 127 (.invokevirtual 270) 199 := r204 (len := 3) (by decide +kernel) rfl
theorem e204_127 : amT 204 127 130 (.ifCond .le 6) 0 := r204 (len := 3) (by decide +kernel) rfl
theorem t204_127 : amTg 127 6 = some 133 := by decide
theorem e204_130 : amT 204 130 133 (.goto 32) 0 := r204 (len := 3) (by decide +kernel) rfl
theorem t204_130 : amTg 130 32 = some 162 := by decide
theorem e204_133 : amT 204 133 134 (.aload_n 0) 0 := r204 (len := 1) (by decide +kernel) rfl
theorem e204_134 : amT 204 134 135 (.iload_n 3) 0 := r204 (len := 1) (by decide +kernel) rfl
theorem e204_135 : amT 204 135 136 (.aload_n 0) 0 := r204 (len := 1) (by decide +kernel) rfl
theorem e204_136 : amT 204 136 139 (.getfield 39) 776 := r204 (len := 3) (by decide +kernel) rfl
theorem e204_139 : amT 204 139 142 (.invokevirtual 148) 163 := r204 (len := 3) (by decide +kernel) rfl
theorem e204_142 : amT 204 142 143 (.aload_n 0) 0 := r204 (len := 1) (by decide +kernel) rfl
theorem e204_143 : amT 204 143 146 (.getfield 39) 776 := r204 (len := 3) (by decide +kernel) rfl
theorem e204_146 : amT 204 146 147 (.aload_n 0) 0 := r204 (len := 1) (by decide +kernel) rfl
theorem e204_147 : amT 204 147 150 (.getfield 249) 788 := r204 (len := 3) (by decide +kernel) rfl
theorem e204_150 : amT 204 150 151 (.aload_n 0) 0 := r204 (len := 1) (by decide +kernel) rfl
theorem e204_151 : amT 204 151 154 (.getfield 252) 789 := r204 (len := 3) (by decide +kernel) rfl
theorem e204_154 : amT 204 154 157 (.invokestatic 171) 169 := r204 (len := 3) (by decide +kernel) rfl
theorem e204_157 : amT 204 157 160 (.invokestatic 142) 154 := r204 (len := 3) (by decide +kernel) rfl
theorem e204_160 : amT 204 160 161 (.i2l) 0 := r204 (len := 1) (by decide +kernel) rfl
theorem e204_161 : amT 204 161 162 (.lreturn) 0 := r204 (len := 1) (by decide +kernel) rfl
theorem e204_162 : amT 204 162 165 (.iinc 4 1) 0 := r204 (len := 3) (by decide +kernel) rfl
theorem e204_165 : amT 204 165 168 (.goto (-72)) 0 := r204 (len := 3) (by decide +kernel) rfl
theorem t204_165 : amTg 165 (-72) = some 93 := by decide
theorem e204_168 : amT 204 168 171 (.ldc2_w 140) 4 := r204 (len := 3) (by decide +kernel) rfl
theorem e204_171 : amT 204 171 172 (.lreturn) 0 := r204 (len := 1) (by decide +kernel) rfl
theorem q205 : amCs.getD 205 [] = amC_205 := rfl
theorem r205 {pc pc' len op : Nat} {i : Instr} (h : amC_205.lookup pc = some (i, len, op)) (h2 : pc + len = pc') : amT 205 pc pc' i op := ⟨len, by unfold amEnt; rw [q205]; exact h, h2⟩
theorem e205_0 : amT 205 0 1 (.aload_n 2) 0 := r205 (len := 1) (by decide +kernel) rfl
theorem e205_1 : amT 205 1 4 (.invokestatic 127) 171 := r205 (len := 3) (by decide +kernel) rfl
theorem e205_4 : amT 205 4 5 (.iconst 0) 0 := r205 (len := 1) (by decide +kernel) rfl
theorem e205_5 : amT 205 5 6 (.istore_n 3) 0 := r205 (len := 1) (by decide +kernel) rfl
theorem e205_6 : amT 205 6 7 (.iload_n 3) 0 := r205 (len := 1) (by decide +kernel) rfl
theorem e205_7 : amT 205 7 9 (.bipush 9) 0 := r205 (len := 2) (by decide +kernel) rfl
theorem e205_9 : amT 205 9 12 (.if_icmp .ge 44) 0 := r205 (len := 3) (by decide +kernel) rfl
theorem t205_9 : amTg 9 44 = some 53 := by decide
theorem e205_12 : amT 205 12 13 (.iconst 0) 0 := r205 (len := 1) (by decide +kernel) rfl
theorem e205_13 : amT 205 13 15 (.istore 4) 0 := r205 (len := 2) (by decide +kernel) rfl
theorem e205_15 : amT 205 15 16 (.iload_n 3) 0 := r205 (len := 1) (by decide +kernel) rfl
theorem e205_16 : amT 205 16 18 (.iload 4) 0 := r205 (len := 2) (by decide +kernel) rfl
theorem e205_18 : amT 205 18 19 (.iadd) 0 := r205 (len := 1) (by decide +kernel) rfl
theorem e205_19 : amT 205 19 21 (.bipush 9) 0 := r205 (len := 2) (by decide +kernel) rfl
theorem e205_21 : amT 205 21 24 (.if_icmp .ge 26) 0 := r205 (len := 3) (by decide +kernel) rfl
theorem t205_21 : amTg 21 26 = some 47 := by decide
theorem e205_24 : amT 205 24 25 (.aload_n 2) 0 := r205 (len := 1) (by decide +kernel) rfl
theorem e205_25 : amT 205 25 26 (.iload_n 3) 0 := r205 (len := 1) (by decide +kernel) rfl
theorem e205_26 : amT 205 26 28 (.iload 4) 0 := r205 (len := 2) (by decide +kernel) rfl
theorem e205_28 : amT 205 28 29 (.iadd) 0 := r205 (len := 1) (by decide +kernel) rfl
theorem e205_29 : amT 205 29 30 (.dup2) 0 := r205 (len := 1) (by decide +kernel) rfl
theorem e205_30 : amT 205 30 31 (.laload) 0 := r205 (len := 1) (by decide +kernel) rfl
theorem e205_31 : amT 205 31 32 (.aload_n 0) 0 := r205 (len := 1) (by decide +kernel) rfl
theorem e205_32 : amT 205 32 33 (.iload_n 3) 0 := r205 (len := 1) (by decide +kernel) rfl
theorem e205_33 : amT 205 33 34 (.laload) 0 := r205 (len := 1) (by decide +kernel) rfl
theorem e205_34 : amT 205 34 35 (.aload_n 1) 0 := r205 (len := 1) (by decide +kernel) rfl
theorem e205_35 : amT 205 35 37 (.iload 4) 0 := r205 (len := 2) (by decide +kernel) rfl
theorem e205_37 : amT 205 37 38 (.laload) 0 := r205 (len := 1) (by decide +kernel) rfl
theorem e205_38 : amT 205 38 39 (.lmul) 0 := r205 (len := 1) (by decide +kernel) rfl
theorem e205_39 : amT 205 39 40 (.ladd) 0 := r205 (len := 1) (by decide +kernel) rfl
theorem e205_40 : amT 205 40 41 (.lastore) 0 := r205 (len := 1) (by decide +kernel) rfl
theorem e205_41 : amT 205 41 44 (.iinc 4 1) 0 := r205 (len := 3) (by decide +kernel) rfl
theorem e205_44 : amT 205 44 47 (.goto (-29)) 0 := r205 (len := 3) (by decide +kernel) rfl
theorem t205_44 : amTg 44 (-29) = some 15 := by decide
theorem e205_47 : amT 205 47 50 (.iinc 3 1) 0 := r205 (len := 3) (by decide +kernel) rfl
theorem e205_50 : amT 205 50 53 (.goto (-44)) 0 := r205 (len := 3) (by decide +kernel) rfl
theorem t205_50 : amTg 50 (-44) = some 6 := by decide
theorem e205_53 : amT 205 53 54 (.return_) 0 := r205 (len := 1) (by decide +kernel) rfl
theorem q206 : amCs.getD 206 [] = amC_206 := rfl
theorem r206 {pc pc' len op : Nat} {i : Instr} (h : amC_206.lookup pc = some (i, len, op)) (h2 : pc + len = pc') : amT 206 pc pc' i op := ⟨len, by unfold amEnt; rw [q206]; exact h, h2⟩
theorem e206_0 : amT 206 0 1 (.aload_n 0) 0 := r206 (len := 1) (by decide +kernel) rfl
theorem e206_1 : amT 206 1 2 (.iload_n 1) 0 := r206 (len := 1) (by decide +kernel) rfl
theorem e206_2 : amT 206 2 5 (.invokevirtual 135) 157 := r206 (len := 3) (by decide +kernel) rfl
theorem e206_5 : amT 206 5 8 (.ifCond .eq 11) 0 := r206 (len := 3) (by decide +kernel) rfl
theorem t206_5 : amTg 5 11 = some 16 := by decide
theorem e206_8 : amT 206 8 9 (.aload_n 0) 0 := r206 (len := 1) (by decide +kernel) rfl
theorem e206_9 : amT 206 9 10 (.iload_n 2) 0 := r206 (len := 1) (by decide +kernel) rfl
theorem e206_10 : amT 206 10 13 (.invokevirtual 135) 157 := r206 (len := 3) (by decide +kernel) rfl
theorem e206_13 : amT 206 13 16 (.ifCond .ne 7) 0 := r206 (len := 3) (by decide +kernel) rfl
theorem t206_13 : amTg 13 7 = some 20 := by decide
theorem e206_16 : amT 206 16 19 (.ldc2_w 140) 4 := r206 (len := 3) (by decide +kernel) rfl
theorem e206_19 : amT 206 19 20 (.lreturn) 0 := r206 (len := 1) (by decide +kernel) rfl
theorem e206_20 : amT 206 20 21 (.aload_n 0) 0 := r206 (len := 1) (by decide +kernel) rfl
theorem e206_21 : amT 206 21 24 (.invokevirtual 225) 189 := r206 (len := 3) (by decide +kernel) rfl
theorem e206_24 : amT 206 24 25 (.aload_n 0) 0 := r206 (len := 1) (by decide +kernel) rfl
theorem e206_25 : amT 206 25 26 (.iload_n 1) 0 := r206 (len := 1) (by decide +kernel) rfl
theorem e206_26 : amT 206 26 27 (.aload_n 0) 0 := r206 (len := 1) (by decide +kernel) rfl
theorem e206_27 : amT 206 27 30 (.getfield 36) 775 := r206 (len := 3) (by decide +kernel) rfl
theorem e206_30 : amT 206 30 33 (.invokevirtual 148) 163 := r206 (len := 3) (by decide +kernel) rfl
theorem e206_33 : amT 206 33 34 (.aload_n 0) 0 := r206 (len := 1) (by decide +kernel) rfl
theorem e206_34 : amT 206 34 35 (.aload_n 0) 0 := r206 (len := 1) (by decide +kernel) rfl
theorem e206_35 : amT 206 35 38 (.getfield 36) 775 := r206 (len := 3) (by decide +kernel) rfl
theorem e206_38 : amT 206 38 39 (.aload_n 0) 0 := r206 (len := 1) (by decide +kernel) rfl
theorem e206_39 : amT 206 39 42 (.getfield 62) 784 := r206 (len := 3) (by decide +kernel) rfl
theorem e206_42 : amT 206 42 43 (.iconst 0) 0 := r206 (len := 1) (by decide +kernel) rfl
theorem e206_43 : amT 206 43 44 (.aaload) 0 := r206 (len := 1) (by decide +kernel) rfl
theorem e206_44 : amT 206 44 47 (.invokevirtual 211) 182 := r206 (len := 3) (by decide +kernel) rfl
theorem e206_47 : amT 206 47 48 (.aload_n 0) 0 := r206 (len := 1) (by decide +kernel) rfl
theorem e206_48 : amT 206 48 51 (.getfield 111) 777 := r206 (len := 3) (by decide +kernel) rfl
theorem e206_51 : amT 206 51 54 (.ifCond .eq 7) 0 := r206 (len := 3) (by decide +kernel) rfl
theorem t206_51 : amTg 51 7 = some 58 := by decide
theorem e206_54 : amT 206 54 57 (.ldc2_w 140) 4 := r206 (len := 3) (by decide +kernel) rfl
theorem e206_57 : amT 206 57 58 (.lreturn) 0 := r206 (len := 1) (by decide +kernel) rfl
theorem e206_58 : amT 206 58 59 (.aload_n 0) 0 := r206 (len := 1) (by decide +kernel) rfl
theorem e206_59 : amT 206 59 62 (.getfield 62) 784 := r206 (len := 3) (by decide +kernel) rfl
theorem e206_62 : amT 206 62 63 (.iconst 0) 0 := r206 (len := 1) (by decide +kernel) rfl
theorem e206_63 : amT 206 63 64 (.aaload) 0 := r206 (len := 1) (by decide +kernel) rfl
theorem e206_64 : amT 206 64 65 (.aload_n 0) 0 := r206 (len := 1) (by decide +kernel) rfl
theorem e206_65 : amT 206 65 68 (.getfield 68) 790 := r206 (len := 3) (by decide +kernel) rfl
theorem e206_68 : amT 206 68 71 (.invokestatic 202) 178 := r206 (len := 3) (by decide +kernel) rfl
theorem e206_71 : amT 206 71 72 (.aload_n 0) 0 := r206 (len := 1) (by decide +kernel) rfl
theorem e206_72 : amT 206 72 73 (.iload_n 2) 0 := r206 (len := 1) (by decide +kernel) rfl
theorem e206_73 : amT 206 73 74 (.aload_n 0) 0 := r206 (len := 1) (by decide +kernel) rfl
theorem e206_74 : amT 206 74 77 (.getfield 39) 776 := r206 (len := 3) (by decide +kernel) rfl
theorem e206_77 : amT 206 77 80 (.invokevirtual 148) 163 := r206 (len := 3) (by decide +kernel) rfl
theorem e206_80 : amT 206 80 81 (.aload_n 0) 0 := r206 (len := 1) (by decide +kernel) rfl
theorem e206_81 : amT 206 81 84 (.getfield 68) 790 := r206 (len := 3) (by decide +kernel) rfl
theorem e206_84 : amT 206 84 85 (.aload_n 0) 0 := r206 (len := 1) (by decide +kernel) rfl
theorem e206_85 : amT 206 85 88 (.getfield 39) 776 := r206 (len := 3) (by decide +kernel) rfl
theorem e206_88 : amT 206 88 89 (.aload_n 0) 0 := r206 (len := 1) (by decide +kernel) rfl
theorem e206_89 : amT 206 89 92 (.getfield 74) 792 := r206 (len := 3) (by decide +kernel) rfl
theorem e206_92 : amT 206 92 95 (.invokestatic 276) 205 := r206 (len := 3) (by decide +kernel) rfl
theorem e206_95 : amT 206 95 96 (.aload_n 0) 0 := r206 (len := 1) (by decide +kernel) rfl
theorem e206_96 : amT 206 96 97 (.aload_n 0) 0 := r206 (len := 1) (by decide +kernel) rfl
theorem e206_97 : amT 206 97 100 (.getfield 74) 792 := r206 (len := 3) (by decide +kernel) rfl
theorem e206_100 : amT 206 100 103 (.invokevirtual 192) 175 := r206 (len := 3) (by decide +kernel) rfl
theorem e206_103 : amT 206 103 104 (.aload_n 0) 0 := r206 (len := 1) (by decide +kernel) rfl
theorem e206_104 : amT 206 104 107 (.getfield 111) 777 := r206 (len := 3) (by decide +kernel) rfl
theorem e206_107 : amT 206 107 110 (.ifCond .eq 7) 0 := r206 (len := 3) (by decide +kernel) rfl
theorem t206_107 : amTg 107 7 = some 114 := by decide
theorem e206_110 : amT 206 110 113 (.ldc2_w 140) 4 := r206 (len := 3) (by decide +kernel) rfl
theorem e206_113 : amT 206 113 114 (.lreturn) 0 := r206 (len := 1) (by decide +kernel) rfl
theorem e206_114 : amT 206 114 115 (.aload_n 0) 0 := r206 (len := 1) (by decide +kernel) rfl
theorem e206_115 : amT 206 115 116 (.aload_n 0) 0 := r206 (len := 1) (by decide +kernel) rfl
theorem e206_116 : amT 206 116 119 (.getfield 74) 792 := r206 (len := 3) (by decide +kernel) rfl
theorem e206_119 : amT 206 119 120 (.aload_n 0) 0 := r206 (len := 1) (by decide +kernel) rfl
theorem e206_120 : amT 206 120 123 (.getfield 62) 784 := r206 (len := 3) (by decide +kernel) rfl
theorem e206_123 : amT 206 123 124 (.iconst 0) 0 := r206 (len := 1) (by decide +kernel) rfl
theorem e206_124 : amT 206 124 125 (.aaload) 0 := r206 (len := 1) (by decide +kernel) rfl
theorem e206_125 : amT 206 125 126 (.aload_n 0) 0 := r206 (len := 1) (by decide +kernel) rfl
theorem e206_126 : amT 206 126 129 (.getfield 62) 784 := r206 (len := 3) (by decide +kernel) rfl
theorem e206_129 : amT 206 129 130 (.iconst 1) 0 := r206 (len := 1) (by decide +kernel) rfl
theorem e206_130 : amT 206 130 131 (.aaload) 0 := r206 (len := 1) (by decide +kernel) rfl
theorem e206_131 : amT 206 131 134 (.invokevirtual 195) 179 := r206 (len := 3) (by decide +kernel) rfl
theorem e206_134 : amT 206 134 135 (.aload_n 0) 0 := r206 (len := 1) (by decide +kernel) rfl
theorem e206_135 : amT 206 135 138 (.getfield 111) 777 := r206 (len := 3) (by decide +kernel) rfl
theorem e206_138 : amT 206 138 141 (.ifCond .eq 7) 0 := r206 (len := 3) (by decide +kernel) rfl
theorem t206_138 : amTg 138 7 = some 145 := by decide
theorem e206_141 : amT 206 141 144 (.ldc2_w 140) 4 := r206 (len := 3) (by decide +kernel) rfl
theorem e206_144 : amT 206 144 145 (.lreturn) 0 := r206 (len := 1) (by decide +kernel) rfl
theorem e206_145 : amT 206 145 146 (.aload_n 0) 0 := r206 (len := 1) (by decide +kernel) rfl
theorem e206_146 : amT 206 146 149 (.getfield 62) 784 := r206 (len := 3) (by decide +kernel) rfl
theorem e206_149 : amT 206 149 150 (.iconst 1) 0 := r206 (len := 1) (by decide +kernel) rfl
theorem e206_150 : amT 206 150 151 (.aaload) 0 := r206 (len := 1) (by decide +kernel) rfl
theorem e206_151 : amT 206 151 154 (.invokestatic 115) 173 := r206 (len := 3) (by decide +kernel) rfl
theorem e206_154 : amT 206 154 157 (.ifCond .ge 5) 0 := r206 (len := 3) (by decide +kernel) rfl
theorem t206_154 : amTg 154 5 = some 159 := by decide
theorem e206_157 : amT 206 157 158 (.lconst 0) 0 := r206 (len := 1) (by decide +kernel) rfl
theorem e206_158 : amT 206 158 159 (.lreturn) 0 := r206 (len := 1) (by decide +kernel) rfl
theorem e206_159 : amT 206 159 160 (.aload_n 0) 0 := r206 (len := 1) (by decide +kernel) rfl
theorem e206_160 : amT 206 160 163 (.getfield 65) 785 := r206 (len := 3) (by decide +kernel) rfl
theorem e206_163 : amT 206 163 164 (.iconst 0) 0 := r206 (len := 1) (by decide +kernel) rfl
theorem e206_164 : amT 206 164 165 (.iconst 2) 0 := r206 (len := 1) (by decide +kernel) rfl
theorem e206_165 : amT 206 165 166 (.iastore) 0 := r206 (len := 1) (by decide +kernel) rfl
theorem e206_166 : amT 206 166 167 (.aload_n 0) 0 := r206 (len := 1) (by decide +kernel) rfl
theorem e206_167 : amT 206 167 168 (.iconst 0) 0 := r206 (len := 1) (by decide +kernel) rfl
theorem e206_168 : amT 206 168 171 (.invokevirtual 214) 183 := r206 (len := 3) (by decide +kernel) rfl
theorem e206_171 : amT 206 171 172 (.aload_n 0) 0 := r206 (len := 1) (by decide +kernel) rfl
theorem e206_172 : amT 206 172 175 (.getfield 111) 777 := r206 (len := 3) (by decide +kernel) rfl
theorem e206_175 : amT 206 175 178 (.ifCond .eq 9) 0 := r206 (len := 3) (by decide +kernel) rfl
theorem t206_175 : amTg 175 9 = some 184 := by decide
theorem e206_178 : amT 206 178 181 (.ldc2_w 140) 4 := r206 (len := 3) (by decide +kernel) rfl
theorem e206_181 : amT 206 181 184 (.goto 9) 0 := r206 (len := 3) (by decide +kernel) rfl
theorem t206_181 : amTg 181 9 = some 190 := by decide
theorem e206_184 : amT 206 184 185 (.aload_n 0) 0 := r206 (len := 1) (by decide +kernel) rfl
theorem e206_185 : amT 206 185 186 (.iconst 0) 0 := r206 (len := 1) (by decide +kernel) rfl
theorem e206_186 : amT 206 186 189 (.invokevirtual 236) 188 := r206 (len := 3) (by decide +kernel) rfl
theorem e206_189 : amT 206 189 190 (.i2l) 0 := r206 (len := 1) (by decide +kernel) rfl
theorem e206_190 : amT 206 190 191 (.lreturn) 0 := r206 (len := 1) (by decide +kernel) rfl
theorem q207 : amCs.getD 207 [] = amC_207 := rfl
theorem r207 {pc pc' len op : Nat} {i : Instr} (h : amC_207.lookup pc = some (i, len, op)) (h2 : pc + len = pc') : amT 207 pc pc' i op := ⟨len, by unfold amEnt; rw [q207]; exact h, h2⟩
theorem e207_0 : amT 207 0 1 (.aload_n 0) 0 := r207 (len := 1) (by decide +kernel) rfl
theorem e207_1 : amT 207 1 2 (.aload_n 0) 0 := r207 (len := 1) (by decide +kernel) rfl
theorem e207_2 : amT 207 2 5 (.getfield 242) 786 := r207 (len := 3) (by decide +kernel) rfl
theorem e207_5 : amT 207 5 8 (.putfield 279) 793 := r207 (len := 3) (by decide +kernel) rfl
theorem e207_8 : amT 207 8 9 (.aload_n 0) 0 := r207 (len := 1) (by decide +kernel) rfl
theorem e207_9 : amT 207 9 10 (.aload_n 0) 0 := r207 (len := 1) (by decide +kernel) rfl
theorem e207_10 : amT 207 10 13 (.getfield 246) 787 := r207 (len := 3) (by decide +kernel) rfl
theorem e207_13 : amT 207 13 16 (.putfield 282) 794 := r207 (len := 3) (by decide +kernel) rfl
theorem e207_16 : amT 207 16 17 (.aload_n 0) 0 := r207 (len := 1) (by decide +kernel) rfl
theorem e207_17 : amT 207 17 18 (.aload_n 0) 0 := r207 (len := 1) (by decide +kernel) rfl
theorem e207_18 : amT 207 18 21 (.getfield 249) 788 := r207 (len := 3) (by decide +kernel) rfl
theorem e207_21 : amT 207 21 24 (.putfield 285) 795 := r207 (len := 3) (by decide +kernel) rfl
theorem e207_24 : amT 207 24 25 (.aload_n 0) 0 := r207 (len := 1) (by decide +kernel) rfl
theorem e207_25 : amT 207 25 26 (.aload_n 0) 0 := r207 (len := 1) (by decide +kernel) rfl
theorem e207_26 : amT 207 26 29 (.getfield 252) 789 := r207 (len := 3) (by decide +kernel) rfl
theorem e207_29 : amT 207 29 32 (.putfield 288) 796 := r207 (len := 3) (by decide +kernel) rfl
theorem e207_32 : amT 207 32 33 (.return_) 0 := r207 (len := 1) (by decide +kernel) rfl
theorem q208 : amCs.getD 208 [] = amC_208 := rfl
theorem r208 {pc pc' len op : Nat} {i : Instr} (h : amC_208.lookup pc = some (i, len, op)) (h2 : pc + len = pc') : amT 208 pc pc' i op := ⟨len, by unfold amEnt; rw [q208]; exact h, h2⟩
theorem e208_0 : amT 208 0 1 (.aload_n 0) 0 := r208 (len := 1) (by decide +kernel) rfl
theorem e208_1 : amT 208 1 2 (.iconst 0) 0 := r208 (len := 1) (by decide +kernel) rfl
theorem e208_2 : amT 208 2 3 (.iload_n 1) 0 := r208 (len := 1) (by decide +kernel) rfl
theorem e208_3 : amT 208 3 4 (.iconst 0) 0 := r208 (len := 1) (by decide +kernel) rfl
theorem e208_4 : amT 208 4 7 (.invokevirtual 263) 196 := r208 (len := 3) (by decide +kernel) rfl
theorem e208_7 : amT 208 7 8 (.aload_n 0) 0 := r208 (len := 1) (by decide +kernel) rfl
theorem e208_8 : amT 208 8 11 (.getfield 111) 777 := r208 (len := 3) (by decide +kernel) rfl
theorem e208_11 : amT 208 11 14 (.ifCond .eq 5) 0 := r208 (len := 3) (by decide +kernel) rfl
theorem t208_11 : amTg 11 5 = some 16 := by decide
theorem e208_14 : amT 208 14 15 (.iconst 0) 0 := r208 (len := 1) (by decide +kernel) rfl
theorem e208_15 : amT 208 15 16 (.ireturn) 0 := r208 (len := 1) (by decide +kernel) rfl
theorem e208_16 : amT 208 16 17 (.aload_n 0) 0 := r208 (len := 1) (by decide +kernel) rfl
theorem e208_17 : amT 208 17 20 (.invokevirtual 291) 207 := r208 (len := 3) (by decide +kernel) rfl
theorem e208_20 : amT 208 20 21 (.aload_n 0) 0 := r208 (len := 1) (by decide +kernel) rfl
theorem e208_21 : amT 208 21 22 (.iconst 2) 0 := r208 (len := 1) (by decide +kernel) rfl
theorem e208_22 : amT 208 22 25 (.invokevirtual 270) 199 := r208 (len := 3) (by decide +kernel) rfl
theorem e208_25 : amT 208 25 28 (.ifCond .le 7) 0 := r208 (len := 3) (by decide +kernel) rfl
theorem t208_25 : amTg 25 7 = some 32 := by decide
theorem e208_28 : amT 208 28 29 (.iconst 1) 0 := r208 (len := 1) (by decide +kernel) rfl
theorem e208_29 : amT 208 29 32 (.goto 4) 0 := r208 (len := 3) (by decide +kernel) rfl
theorem t208_29 : amTg 29 4 = some 33 := by decide
theorem e208_32 : amT 208 32 33 (.iconst 0) 0 := r208 (len := 1) (by decide +kernel) rfl
theorem e208_33 : amT 208 33 34 (.istore_n 3) 0 := r208 (len := 1) (by decide +kernel) rfl
theorem e208_34 : amT 208 34 35 (.aload_n 0) 0 := r208 (len := 1) (by decide +kernel) rfl
theorem e208_35 : amT 208 35 36 (.iconst 2) 0 := r208 (len := 1) (by decide +kernel) rfl
theorem e208_36 : amT 208 36 37 (.aload_n 0) 0 := r208 (len := 1) (by decide +kernel) rfl
theorem e208_37 : amT 208 37 40 (.getfield 249) 788 := r208 (len := 3) (by decide +kernel) rfl
theorem e208_40 : amT 208 40 41 (.aload_n 0) 0 := r208 (len := 1) (by decide +kernel) rfl
theorem e208_41 : amT 208 41 44 (.getfield 252) 789 := r208 (len := 3) (by decide +kernel) rfl
theorem e208_44 : amT 208 44 47 (.invokevirtual 232) 186 := r208 (len := 3) (by decide +kernel) rfl
theorem e208_47 : amT 208 47 49 (.istore 4) 0 := r208 (len := 2) (by decide +kernel) rfl
theorem e208_49 : amT 208 49 50 (.aload_n 0) 0 := r208 (len := 1) (by decide +kernel) rfl
theorem e208_50 : amT 208 50 51 (.iconst 1) 0 := r208 (len := 1) (by decide +kernel) rfl
theorem e208_51 : amT 208 51 52 (.iload_n 2) 0 := r208 (len := 1) (by decide +kernel) rfl
theorem e208_52 : amT 208 52 53 (.iconst 0) 0 := r208 (len := 1) (by decide +kernel) rfl
theorem e208_53 : amT 208 53 56 (.invokevirtual 263) 196 := r208 (len := 3) (by decide +kernel) rfl
theorem e208_56 : amT 208 56 57 (.aload_n 0) 0 := r208 (len := 1) (by decide +kernel) rfl
theorem e208_57 : amT 208 57 60 (.getfield 111) 777 := r208 (len := 3) (by decide +kernel) rfl
theorem e208_60 : amT 208 60 63 (.ifCond .eq 5) 0 := r208 (len := 3) (by decide +kernel) rfl
theorem t208_60 : amTg 60 5 = some 65 := by decide
theorem e208_63 : amT 208 63 64 (.iconst 0) 0 := r208 (len := 1) (by decide +kernel) rfl
theorem e208_64 : amT 208 64 65 (.ireturn) 0 := r208 (len := 1) (by decide +kernel) rfl
theorem e208_65 : amT 208 65 66 (.iload_n 3) 0 := r208 (len := 1) (by decide +kernel) rfl
theorem e208_66 : amT 208 66 69 (.ifCond .eq 33) 0 := r208 (len := 3) (by decide +kernel) rfl
theorem t208_66 : amTg 66 33 = some 99 := by decide
theorem e208_69 : amT 208 69 70 (.aload_n 0) 0 := r208 (len := 1) (by decide +kernel) rfl
theorem e208_70 : amT 208 70 71 (.iconst 2) 0 := r208 (len := 1) (by decide +kernel) rfl
theorem e208_71 : amT 208 71 74 (.invokevirtual 270) 199 := r208 (len := 3) (by decide +kernel) rfl
theorem e208_74 : amT 208 74 77 (.ifCond .le 25) 0 := r208 (len := 3) (by decide +kernel) rfl
theorem t208_74 : amTg 74 25 = some 99 := by decide
theorem e208_77 : amT 208 77 79 (.iload 4) 0 := r208 (len := 2) (by decide +kernel) rfl
theorem e208_79 : amT 208 79 80 (.aload_n 0) 0 := r208 (len := 1) (by decide +kernel) rfl
theorem e208_80 : amT 208 80 81 (.iconst 2) 0 := r208 (len := 1) (by decide +kernel) rfl
theorem e208_81 : amT 208 81 82 (.aload_n 0) 0 := r208 (len := 1) (by decide +kernel) rfl
theorem e208_82 : amT 208 82 85 (.getfield 249) 788 := r208 (len := 3) (by decide +kernel) rfl
theorem e208_85 : amT 208 85 86 (.aload_n 0) 0 := r208 (len := 1) (by decide +kernel) rfl
theorem e208_86 : amT 208 86 89 (.getfield 252) 789 := r208 (len := 3) (by decide +kernel) rfl
theorem e208_89 : amT 208 89 92 (.invokevirtual 232) 186 := r208 (len := 3) (by decide +kernel) rfl
theorem e208_92 : amT 208 92 95 (.if_icmp .ne 7) 0 := r208 (len := 3) (by decide +kernel) rfl
theorem t208_92 : amTg 92 7 = some 99 := by decide
theorem e208_95 : amT 208 95 96 (.iconst 1) 0 := r208 (len := 1) (by decide +kernel) rfl
theorem e208_96 : amT 208 96 99 (.goto 4) 0 := r208 (len := 3) (by decide +kernel) rfl
theorem t208_96 : amTg 96 4 = some 100 := by decide
theorem e208_99 : amT 208 99 100 (.iconst 0) 0 := r208 (len := 1) (by decide +kernel) rfl
theorem e208_100 : amT 208 100 101 (.ireturn) 0 := r208 (len := 1) (by decide +kernel) rfl
theorem q209 : amCs.getD 209 [] = amC_209 := rfl
theorem r209 {pc pc' len op : Nat} {i : Instr} (h : amC_209.lookup pc = some (i, len, op)) (h2 : pc + len = pc') : amT 209 pc pc' i op := ⟨len, by unfold amEnt; rw [q209]; exact h, h2⟩
theorem e209_0 : amT 209 0 1 (.aload_n 0) 0 := r209 (len := 1) (by decide +kernel) rfl
theorem e209_1 : amT 209 1 2 (.iload_n 1) 0 := r209 (len := 1) (by decide +kernel) rfl
theorem e209_2 : amT 209 2 5 (.invokevirtual 135) 157 := r209 (len := 3) (by decide +kernel) rfl
theorem e209_5 : amT 209 5 8 (.ifCond .eq 11) 0 := r209 (len := 3) (by decide +kernel) rfl
theorem t209_5 : amTg 5 11 = some 16 := by decide
theorem e209_8 : amT 209 8 9 (.aload_n 0) 0 := r209 (len := 1) (by decide +kernel) rfl
theorem e209_9 : amT 209 9 10 (.iload_n 3) 0 := r209 (len := 1) (by decide +kernel) rfl
theorem e209_10 : amT 209 10 13 (.invokevirtual 135) 157 := r209 (len := 3) (by decide +kernel) rfl
theorem e209_13 : amT 209 13 16 (.ifCond .ne 7) 0 := r209 (len := 3) (by decide +kernel) rfl
theorem t209_13 : amTg 13 7 = some 20 := by decide
theorem e209_16 : amT 209 16 19 (.ldc2_w 140) 4 := r209 (len := 3) (by decide +kernel) rfl
theorem e209_19 : amT 209 19 20 (.lreturn) 0 := r209 (len := 1) (by decide +kernel) rfl
theorem e209_20 : amT 209 20 21 (.aload_n 0) 0 := r209 (len := 1) (by decide +kernel) rfl
theorem e209_21 : amT 209 21 24 (.invokevirtual 225) 189 := r209 (len := 3) (by decide +kernel) rfl
theorem e209_24 : amT 209 24 25 (.aload_n 0) 0 := r209 (len := 1) (by decide +kernel) rfl
theorem e209_25 : amT 209 25 26 (.iconst 0) 0 := r209 (len := 1) (by decide +kernel) rfl
theorem e209_26 : amT 209 26 27 (.iload_n 1) 0 := r209 (len := 1) (by decide +kernel) rfl
theorem e209_27 : amT 209 27 28 (.iload_n 2) 0 := r209 (len := 1) (by decide +kernel) rfl
theorem e209_28 : amT 209 28 31 (.invokevirtual 259) 197 := r209 (len := 3) (by decide +kernel) rfl
theorem e209_31 : amT 209 31 34 (.ifCond .eq 14) 0 := r209 (len := 3) (by decide +kernel) rfl
theorem t209_31 : amTg 31 14 = some 45 := by decide
theorem e209_34 : amT 209 34 35 (.aload_n 0) 0 := r209 (len := 1) (by decide +kernel) rfl
theorem e209_35 : amT 209 35 36 (.iconst 1) 0 := r209 (len := 1) (by decide +kernel) rfl
theorem e209_36 : amT 209 36 37 (.iload_n 3) 0 := r209 (len := 1) (by decide +kernel) rfl
theorem e209_37 : amT 209 37 39 (.iload 4) 0 := r209 (len := 2) (by decide +kernel) rfl
theorem e209_39 : amT 209 39 42 (.invokevirtual 259) 197 := r209 (len := 3) (by decide +kernel) rfl
theorem e209_42 : amT 209 42 45 (.ifCond .ne 7) 0 := r209 (len := 3) (by decide +kernel) rfl
theorem t209_42 : amTg 42 7 = some 49 := by decide
theorem e209_45 : amT 209 45 48 (.ldc2_w 140) 4 := r209 (len := 3) (by decide +kernel) rfl
theorem e209_48 : amT 209 48 49 (.lreturn) 0 := r209 (len := 1) (by decide +kernel) rfl
theorem e209_49 : amT 209 49 50 (.aload_n 0) 0 := r209 (len := 1) (by decide +kernel) rfl
theorem e209_50 : amT 209 50 51 (.iconst 2) 0 := r209 (len := 1) (by decide +kernel) rfl
theorem e209_51 : amT 209 51 52 (.iload_n 1) 0 := r209 (len := 1) (by decide +kernel) rfl
theorem e209_52 : amT 209 52 53 (.iload_n 3) 0 := r209 (len := 1) (by decide +kernel) rfl
theorem e209_53 : amT 209 53 56 (.invokevirtual 273) 202 := r209 (len := 3) (by decide +kernel) rfl
theorem e209_56 : amT 209 56 57 (.aload_n 0) 0 := r209 (len := 1) (by decide +kernel) rfl
theorem e209_57 : amT 209 57 60 (.getfield 111) 777 := r209 (len := 3) (by decide +kernel) rfl
theorem e209_60 : amT 209 60 63 (.ifCond .eq 7) 0 := r209 (len := 3) (by decide +kernel) rfl
theorem t209_60 : amTg 60 7 = some 67 := by decide
theorem e209_63 : amT 209 63 66 (.ldc2_w 140) 4 := r209 (len := 3) (by decide +kernel) rfl
theorem e209_66 : amT 209 66 67 (.lreturn) 0 := r209 (len := 1) (by decide +kernel) rfl
theorem e209_67 : amT 209 67 68 (.aload_n 0) 0 := r209 (len := 1) (by decide +kernel) rfl
theorem e209_68 : amT 209 68 69 (.iload_n 2) 0 := r209 (len := 1) (by decide +kernel) rfl
theorem e209_69 : amT 209 69 71 (.iload 4) 0 := r209 (len := 2) (by decide +kernel) rfl
theorem e209_71 : amT 209 71 74 (.invokevirtual 294) 208 := r209 (len := 3) (by decide +kernel) rfl
theorem e209_74 : amT 209 74 76 (.istore 5) 0 := r209 (len := 2) (by decide +kernel) rfl
theorem e209_76 : amT 209 76 77 (.aload_n 0) 0 := r209 (len := 1) (by decide +kernel) rfl
theorem e209_77 : amT 209 77 80 (.getfield 111) 777 := r209 (len := 3) (by decide +kernel) rfl
theorem e209_80 : amT 209 80 83 (.ifCond .eq 7) 0 := r209 (len := 3) (by decide +kernel) rfl
theorem t209_80 : amTg 80 7 = some 87 := by decide
theorem e209_83 : amT 209 83 86 (.ldc2_w 140) 4 := r209 (len := 3) (by decide +kernel) rfl
theorem e209_86 : amT 209 86 87 (.lreturn) 0 := r209 (len := 1) (by decide +kernel) rfl
theorem e209_87 : amT 209 87 89 (.iload 5) 0 := r209 (len := 2) (by decide +kernel) rfl
theorem e209_89 : amT 209 89 92 (.ifCond .eq 5) 0 := r209 (len := 3) (by decide +kernel) rfl
theorem t209_89 : amTg 89 5 = some 94 := by decide
theorem e209_92 : amT 209 92 93 (.lconst 0) 0 := r209 (len := 1) (by decide +kernel) rfl
theorem e209_93 : amT 209 93 94 (.lreturn) 0 := r209 (len := 1) (by decide +kernel) rfl
theorem e209_94 : amT 209 94 95 (.iconst 0) 0 := r209 (len := 1) (by decide +kernel) rfl
theorem e209_95 : amT 209 95 97 (.istore 6) 0 := r209 (len := 2) (by decide +kernel) rfl
theorem e209_97 : amT 209 97 99 (.iload 6) 0 := r209 (len := 2) (by decide +kernel) rfl
theorem e209_99 : amT 209 99 101 (.bipush 9) 0 := r209 (len := 2) (by decide +kernel) rfl
theorem e209_101 : amT 209 101 104 (.if_icmp .gt 102) 0 := r209 (len := 3) (by decide +kernel) rfl
theorem t209_101 : amTg 101 102 = some 203 := by decide
theorem e209_104 : amT 209 104 105 (.aload_n 0) 0 := r209 (len := 1) (by decide +kernel) rfl
theorem e209_105 : amT 209 105 106 (.iconst 0) 0 := r209 (len := 1) (by decide +kernel) rfl
theorem e209_106 : amT 209 106 107 (.iload_n 2) 0 := r209 (len := 1) (by decide +kernel) rfl
theorem e209_107 : amT 209 107 109 (.iload 6) 0 := r209 (len := 2) (by decide +kernel) rfl
theorem e209_109 : amT 209 109 112 (.invokevirtual 263) 196 := r209 (len := 3) (by decide +kernel) rfl
theorem e209_112 : amT 209 112 113 (.aload_n 0) 0 := r209 (len := 1) (by decide +kernel) rfl
theorem e209_113 : amT 209 113 116 (.getfield 111) 777 := r209 (len := 3) (by decide +kernel) rfl
theorem e209_116 : amT 209 116 119 (.ifCond .eq 7) 0 := r209 (len := 3) (by decide +kernel) rfl
theorem t209_116 : amTg 116 7 = some 123 := by decide
theorem e209_119 : amT 209 119 122 (.ldc2_w 140) 4 := r209 (len := 3) (by decide +kernel) rfl
theorem e209_122 : amT 209 122 123 (.lreturn) 0 := r209 (len := 1) (by decide +kernel) rfl
theorem e209_123 : amT 209 123 124 (.aload_n 0) 0 := r209 (len := 1) (by decide +kernel) rfl
theorem e209_124 : amT 209 124 127 (.invokevirtual 291) 207 := r209 (len := 3) (by decide +kernel) rfl
theorem e209_127 : amT 209 127 128 (.aload_n 0) 0 := r209 (len := 1) (by decide +kernel) rfl
theorem e209_128 : amT 209 128 129 (.iconst 1) 0 := r209 (len := 1) (by decide +kernel) rfl
theorem e209_129 : amT 209 129 131 (.iload 4) 0 := r209 (len := 2) (by decide +kernel) rfl
theorem e209_131 : amT 209 131 133 (.iload 6) 0 := r209 (len := 2) (by decide +kernel) rfl
theorem e209_133 : amT 209 133 136 (.invokevirtual 263) 196 := r209 (len := 3) (by decide +kernel) rfl
theorem e209_136 : amT 209 136 137 (.aload_n 0) 0 := r209 (len := 1) (by decide +kernel) rfl
theorem e209_137 : amT 209 137 140 (.getfield 111) 777 := r209 (len := 3) (by decide +kernel) rfl
theorem e209_140 : amT 209 140 143 (.ifCond .eq 7) 0 := r209 (len := 3) (by decide +kernel) rfl
theorem t209_140 : amTg 140 7 = some 147 := by decide
theorem e209_143 : amT 209 143 146 (.ldc2_w 140) 4 := r209 (len := 3) (by decide +kernel) rfl
theorem e209_146 : amT 209 146 147 (.lreturn) 0 := r209 (len := 1) (by decide +kernel) rfl
theorem e209_147 : amT 209 147 148 (.aload_n 0) 0 := r209 (len := 1) (by decide +kernel) rfl
theorem e209_148 : amT 209 148 151 (.getfield 285) 795 := r209 (len := 3) (by decide +kernel) rfl
theorem e209_151 : amT 209 151 152 (.aload_n 0) 0 := r209 (len := 1) (by decide +kernel) rfl
theorem e209_152 : amT 209 152 155 (.getfield 246) 787 := r209 (len := 3) (by decide +kernel) rfl
theorem e209_155 : amT 209 155 156 (.lmul) 0 := r209 (len := 1) (by decide +kernel) rfl
theorem e209_156 : amT 209 156 157 (.aload_n 0) 0 := r209 (len := 1) (by decide +kernel) rfl
theorem e209_157 : amT 209 157 160 (.getfield 242) 786 := r209 (len := 3) (by decide +kernel) rfl
theorem e209_160 : amT 209 160 161 (.aload_n 0) 0 := r209 (len := 1) (by decide +kernel) rfl
theorem e209_161 : amT 209 161 164 (.getfield 288) 796 := r209 (len := 3) (by decide +kernel) rfl
theorem e209_164 : amT 209 164 165 (.lmul) 0 := r209 (len := 1) (by decide +kernel) rfl
theorem e209_165 : amT 209 165 166 (.lcmp) 0 := r209 (len := 1) (by decide +kernel) rfl
theorem e209_166 : amT 209 166 169 (.ifCond .gt 7) 0 := r209 (len := 3) (by decide +kernel) rfl
theorem t209_166 : amTg 166 7 = some 173 := by decide
theorem e209_169 : amT 209 169 172 (.ldc2_w 297) 2 := r209 (len := 3) (by decide +kernel) rfl
theorem e209_172 : amT 209 172 173 (.lreturn) 0 := r209 (len := 1) (by decide +kernel) rfl
theorem e209_173 : amT 209 173 174 (.aload_n 0) 0 := r209 (len := 1) (by decide +kernel) rfl
theorem e209_174 : amT 209 174 177 (.getfield 249) 788 := r209 (len := 3) (by decide +kernel) rfl
theorem e209_177 : amT 209 177 178 (.aload_n 0) 0 := r209 (len := 1) (by decide +kernel) rfl
theorem e209_178 : amT 209 178 181 (.getfield 282) 794 := r209 (len := 3) (by decide +kernel) rfl
theorem e209_181 : amT 209 181 182 (.lmul) 0 := r209 (len := 1) (by decide +kernel) rfl
theorem e209_182 : amT 209 182 183 (.aload_n 0) 0 := r209 (len := 1) (by decide +kernel) rfl
theorem e209_183 : amT 209 183 186 (.getfield 279) 793 := r209 (len := 3) (by decide +kernel) rfl
theorem e209_186 : amT 209 186 187 (.aload_n 0) 0 := r209 (len := 1) (by decide +kernel) rfl
theorem e209_187 : amT 209 187 190 (.getfield 252) 789 := r209 (len := 3) (by decide +kernel) rfl
theorem e209_190 : amT 209 190 191 (.lmul) 0 := r209 (len := 1) (by decide +kernel) rfl
theorem e209_191 : amT 209 191 192 (.lcmp) 0 := r209 (len := 1) (by decide +kernel) rfl
theorem e209_192 : amT 209 192 195 (.ifCond .gt 5) 0 := r209 (len := 3) (by decide +kernel) rfl
theorem t209_192 : amTg 192 5 = some 197 := by decide
theorem e209_195 : amT 209 195 196 (.lconst 1) 0 := r209 (len := 1) (by decide +kernel) rfl
theorem e209_196 : amT 209 196 197 (.lreturn) 0 := r209 (len := 1) (by decide +kernel) rfl
theorem e209_197 : amT 209 197 200 (.iinc 6 1) 0 := r209 (len := 3) (by decide +kernel) rfl
theorem e209_200 : amT 209 200 203 (.goto (-103)) 0 := r209 (len := 3) (by decide +kernel) rfl
theorem t209_200 : amTg 200 (-103) = some 97 := by decide
theorem e209_203 : amT 209 203 206 (.ldc2_w 140) 4 := r209 (len := 3) (by decide +kernel) rfl
theorem e209_206 : amT 209 206 207 (.lreturn) 0 := r209 (len := 1) (by decide +kernel) rfl
theorem q210 : amCs.getD 210 [] = amC_210 := rfl
theorem r210 {pc pc' len op : Nat} {i : Instr} (h : amC_210.lookup pc = some (i, len, op)) (h2 : pc + len = pc') : amT 210 pc pc' i op := ⟨len, by unfold amEnt; rw [q210]; exact h, h2⟩
theorem e210_0 : amT 210 0 1 (.aload_n 0) 0 := r210 (len := 1) (by decide +kernel) rfl
theorem e210_1 : amT 210 1 4 (.getfield 36) 775 := r210 (len := 3) (by decide +kernel) rfl
theorem e210_4 : amT 210 4 5 (.lload_n 1) 0 := r210 (len := 1) (by decide +kernel) rfl
theorem e210_5 : amT 210 5 6 (.lload_n 3) 0 := r210 (len := 1) (by decide +kernel) rfl
theorem e210_6 : amT 210 6 9 (.invokestatic 171) 169 := r210 (len := 3) (by decide +kernel) rfl
theorem e210_9 : amT 210 9 10 (.lconst 0) 0 := r210 (len := 1) (by decide +kernel) rfl
theorem e210_10 : amT 210 10 11 (.lcmp) 0 := r210 (len := 1) (by decide +kernel) rfl
theorem e210_11 : amT 210 11 14 (.ifCond .eq 4) 0 := r210 (len := 3) (by decide +kernel) rfl
theorem t210_11 : amTg 11 4 = some 15 := by decide
theorem e210_14 : amT 210 14 15 (.return_) 0 := r210 (len := 1) (by decide +kernel) rfl
theorem e210_15 : amT 210 15 16 (.aload_n 0) 0 := r210 (len := 1) (by decide +kernel) rfl
theorem e210_16 : amT 210 16 19 (.getfield 299) 799 := r210 (len := 3) (by decide +kernel) rfl
theorem e210_19 : amT 210 19 21 (.istore 5) 0 := r210 (len := 2) (by decide +kernel) rfl
theorem e210_21 : amT 210 21 23 (.iload 5) 0 := r210 (len := 2) (by decide +kernel) rfl
theorem e210_23 : amT 210 23 26 (.ifCond .le 67) 0 := r210 (len := 3) (by decide +kernel) rfl
theorem t210_23 : amTg 23 67 = some 90 := by decide
theorem e210_26 : amT 210 26 27 (.lload_n 1) 0 := r210 (len := 1) (by decide +kernel) rfl
theorem e210_27 : amT 210 27 28 (.aload_n 0) 0 := r210 (len := 1) (by decide +kernel) rfl
theorem e210_28 : amT 210 28 31 (.getfield 80) 798 := r210 (len := 3) (by decide +kernel) rfl
theorem e210_31 : amT 210 31 33 (.iload 5) 0 := r210 (len := 2) (by decide +kernel) rfl
theorem e210_33 : amT 210 33 34 (.iconst 1) 0 := r210 (len := 1) (by decide +kernel) rfl
theorem e210_34 : amT 210 34 35 (.isub) 0 := r210 (len := 1) (by decide +kernel) rfl
theorem e210_35 : amT 210 35 36 (.laload) 0 := r210 (len := 1) (by decide +kernel) rfl
theorem e210_36 : amT 210 36 37 (.lmul) 0 := r210 (len := 1) (by decide +kernel) rfl
theorem e210_37 : amT 210 37 38 (.aload_n 0) 0 := r210 (len := 1) (by decide +kernel) rfl
theorem e210_38 : amT 210 38 41 (.getfield 77) 797 := r210 (len := 3) (by decide +kernel) rfl
theorem e210_41 : amT 210 41 43 (.iload 5) 0 := r210 (len := 2) (by decide +kernel) rfl
theorem e210_43 : amT 210 43 44 (.iconst 1) 0 := r210 (len := 1) (by decide +kernel) rfl
theorem e210_44 : amT 210 44 45 (.isub) 0 := r210 (len := 1) (by decide +kernel) rfl
theorem e210_45 : amT 210 45 46 (.laload) 0 := r210 (len := 1) (by decide +kernel) rfl
theorem e210_46 : amT 210 46 47 (.lload_n 3) 0 := r210 (len := 1) (by decide +kernel) rfl
theorem e210_47 : amT 210 47 48 (.lmul) 0 := r210 (len := 1) (by decide +kernel) rfl
theorem e210_48 : amT 210 48 49 (.lcmp) 0 := r210 (len := 1) (by decide +kernel) rfl
theorem e210_49 : amT 210 49 52 (.ifCond .ge 41) 0 := r210 (len := 3) (by decide +kernel) rfl
theorem t210_49 : amTg 49 41 = some 90 := by decide
theorem e210_52 : amT 210 52 53 (.aload_n 0) 0 := r210 (len := 1) (by decide +kernel) rfl
theorem e210_53 : amT 210 53 56 (.getfield 77) 797 := r210 (len := 3) (by decide +kernel) rfl
theorem e210_56 : amT 210 56 58 (.iload 5) 0 := r210 (len := 2) (by decide +kernel) rfl
theorem e210_58 : amT 210 58 59 (.aload_n 0) 0 := r210 (len := 1) (by decide +kernel) rfl
theorem e210_59 : amT 210 59 62 (.getfield 77) 797 := r210 (len := 3) (by decide +kernel) rfl
theorem e210_62 : amT 210 62 64 (.iload 5) 0 := r210 (len := 2) (by decide +kernel) rfl
theorem e210_64 : amT 210 64 65 (.iconst 1) 0 := r210 (len := 1) (by decide +kernel) rfl
theorem e210_65 : amT 210 65 66 (.isub) 0 := r210 (len := 1) (by decide +kernel) rfl
theorem e210_66 : amT 210 66 67 (.laload) 0 := r210 (len := 1) (by decide +kernel) rfl
theorem e210_67 : amT 210 67 68 (.lastore) 0 := r210 (len := 1) (by decide +kernel) rfl
theorem e210_68 : amT 210 68 69 (.aload_n 0) 0 := r210 (len := 1) (by decide +kernel) rfl
theorem e210_69 : amT 210 69 72 (.getfield 80) 798 := r210 (len := 3) (by decide +kernel) rfl
theorem e210_72 : amT 210 72 74 (.iload 5) 0 := r210 (len := 2) (by decide +kernel) rfl
theorem e210_74 : amT 210 74 75 (.aload_n 0) 0 := r210 (len := 1) (by decide +kernel) rfl
theorem e210_75 : amT 210 75 78 (.getfield 80) 798 := r210 (len := 3) (by decide +kernel) rfl
theorem e210_78 : amT 210 78 80 (.iload 5) 0 := r210 (len := 2) (by decide +kernel) rfl
theorem e210_80 : amT 210 80 81 (.iconst 1) 0 := r210 (len := 1) (by decide +kernel) rfl
theorem e210_81 : amT 210 81 82 (.isub) 0 := r210 (len := 1) (by decide +kernel) rfl
theorem e210_82 : amT 210 82 83 (.laload) 0 := r210 (len := 1) (by decide +kernel) rfl
theorem e210_83 : amT 210 83 84 (.lastore) 0 := r210 (len := 1) (by decide +kernel) rfl
theorem e210_84 : amT 210 84 87 (.iinc 5 (-1)) 0 := r210 (len := 3) (by decide +kernel) rfl
theorem e210_87 : amT 210 87 90 (.goto (-66)) 0 := r210 (len := 3) (by decide +kernel) rfl
theorem t210_87 : amTg 87 (-66) = some 21 := by decide
theorem e210_90 : amT 210 90 91 (.aload_n 0) 0 := r210 (len := 1) (by decide +kernel) rfl
theorem e210_91 : amT 210 91 94 (.getfield 77) 797 := r210 (len := 3) (by decide +kernel) rfl
theorem e210_94 : amT 210 94 96 (.iload 5) 0 := r210 (len := 2) (by decide +kernel) rfl
theorem e210_96 : amT 210 96 97 (.lload_n 1) 0 := r210 (len := 1) (by decide +kernel) rfl
theorem e210_97 : amT 210 97 98 (.lastore) 0 := r210 (len := 1) (by decide +kernel) rfl
theorem e210_98 : amT 210 98 99 (.aload_n 0) 0 := r210 (len := 1) (by decide +kernel) rfl
theorem e210_99 : amT 210 99 102 (.getfield 80) 798 := r210 (len := 3) (by decide +kernel) rfl
theorem e210_102 : amT 210 102 104 (.iload 5) 0 := r210 (len := 2) (by decide +kernel) rfl
theorem e210_104 : amT 210 104 105 (.lload_n 3) 0 := r210 (len := 1) (by decide +kernel) rfl
theorem e210_105 : amT 210 105 106 (.lastore) 0 := r210 (len := 1) (by decide +kernel) rfl
theorem e210_106 : amT 210 106 107 (.aload_n 0) 0 := r210 (len := 1) (by decide +kernel) rfl
theorem e210_107 : amT 210 107 108 (.dup) 0 := r210 (len := 1) (by decide +kernel) rfl
theorem e210_108 : amT 210 108 111 (.getfield 299) 799 := r210 (len := 3) (by decide +kernel) rfl
theorem e210_111 : amT 210 111 112 (.iconst 1) 0 := r210 (len := 1) (by decide +kernel) rfl
theorem e210_112 : amT 210 112 113 (.iadd) 0 := r210 (len := 1) (by decide +kernel) rfl
theorem e210_113 : amT 210 113 116 (.putfield 299) 799 := r210 (len := 3) (by decide +kernel) rfl
theorem e210_116 : amT 210 116 117 (.return_) 0 := r210 (len := 1) (by decide +kernel) rfl
theorem q211 : amCs.getD 211 [] = amC_211 := rfl
theorem r211 {pc pc' len op : Nat} {i : Instr} (h : amC_211.lookup pc = some (i, len, op)) (h2 : pc + len = pc') : amT 211 pc pc' i op := ⟨len, by unfold amEnt; rw [q211]; exact h, h2⟩
theorem e211_0 : amT 211 0 1 (.aload_n 0) 0 := r211 (len := 1) (by decide +kernel) rfl
theorem e211_1 : amT 211 1 2 (.iconst 0) 0 := r211 (len := 1) (by decide +kernel) rfl
theorem e211_2 : amT 211 2 5 (.putfield 299) 799 := r211 (len := 3) (by decide +kernel) rfl
theorem e211_5 : amT 211 5 6 (.iconst 0) 0 := r211 (len := 1) (by decide +kernel) rfl
theorem e211_6 : amT 211 6 7 (.istore_n 1) 0 := r211 (len := 1) (by decide +kernel) rfl
theorem e211_7 : amT 211 7 8 (.aload_n 0) 0 := r211 (len := 1) (by decide +kernel) rfl
theorem e211_8 : amT 211 8 11 (.getfield 36) 775 := r211 (len := 3) (by decide +kernel) rfl
theorem e211_11 : amT 211 11 12 (.iload_n 1) 0 := r211 (len := 1) (by decide +kernel) rfl
theorem e211_12 : amT 211 12 13 (.laload) 0 := r211 (len := 1) (by decide +kernel) rfl
theorem e211_13 : amT 211 13 14 (.lconst 0) 0 := r211 (len := 1) (by decide +kernel) rfl
theorem e211_14 : amT 211 14 15 (.lcmp) 0 := r211 (len := 1) (by decide +kernel) rfl
theorem e211_15 : amT 211 15 18 (.ifCond .ne 9) 0 := r211 (len := 3) (by decide +kernel) rfl
theorem t211_15 : amTg 15 9 = some 24 := by decide
theorem e211_18 : amT 211 18 21 (.iinc 1 1) 0 := r211 (len := 3) (by decide +kernel) rfl
theorem e211_21 : amT 211 21 24 (.goto (-14)) 0 := r211 (len := 3) (by decide +kernel) rfl
theorem t211_21 : amTg 21 (-14) = some 7 := by decide
theorem e211_24 : amT 211 24 25 (.iload_n 1) 0 := r211 (len := 1) (by decide +kernel) rfl
theorem e211_25 : amT 211 25 28 (.ifCond .le 9) 0 := r211 (len := 3) (by decide +kernel) rfl
theorem t211_25 : amTg 25 9 = some 34 := by decide
theorem e211_28 : amT 211 28 29 (.aload_n 0) 0 := r211 (len := 1) (by decide +kernel) rfl
theorem e211_29 : amT 211 29 30 (.lconst 0) 0 := r211 (len := 1) (by decide +kernel) rfl
theorem e211_30 : amT 211 30 31 (.lconst 1) 0 := r211 (len := 1) (by decide +kernel) rfl
theorem e211_31 : amT 211 31 34 (.invokevirtual 302) 210 := r211 (len := 3) (by decide +kernel) rfl
theorem e211_34 : amT 211 34 35 (.aload_n 0) 0 := r211 (len := 1) (by decide +kernel) rfl
theorem e211_35 : amT 211 35 38 (.getfield 36) 775 := r211 (len := 3) (by decide +kernel) rfl
theorem e211_38 : amT 211 38 41 (.invokestatic 181) 174 := r211 (len := 3) (by decide +kernel) rfl
theorem e211_41 : amT 211 41 44 (.invokestatic 9) 153 := r211 (len := 3) (by decide +kernel) rfl
theorem e211_44 : amT 211 44 45 (.lstore_n 2) 0 := r211 (len := 1) (by decide +kernel) rfl
theorem e211_45 : amT 211 45 46 (.lconst 1) 0 := r211 (len := 1) (by decide +kernel) rfl
theorem e211_46 : amT 211 46 48 (.lstore 4) 0 := r211 (len := 2) (by decide +kernel) rfl
theorem e211_48 : amT 211 48 50 (.lload 4) 0 := r211 (len := 2) (by decide +kernel) rfl
theorem e211_50 : amT 211 50 51 (.lload_n 2) 0 := r211 (len := 1) (by decide +kernel) rfl
theorem e211_51 : amT 211 51 52 (.lcmp) 0 := r211 (len := 1) (by decide +kernel) rfl
theorem e211_52 : amT 211 52 55 (.ifCond .gt 97) 0 := r211 (len := 3) (by decide +kernel) rfl
theorem t211_52 : amTg 52 97 = some 149 := by decide
theorem e211_55 : amT 211 55 56 (.lload_n 2) 0 := r211 (len := 1) (by decide +kernel) rfl
theorem e211_56 : amT 211 56 58 (.lload 4) 0 := r211 (len := 2) (by decide +kernel) rfl
theorem e211_58 : amT 211 58 59 (.lrem) 0 := r211 (len := 1) (by decide +kernel) rfl
theorem e211_59 : amT 211 59 60 (.lconst 0) 0 := r211 (len := 1) (by decide +kernel) rfl
theorem e211_60 : amT 211 60 61 (.lcmp) 0 := r211 (len := 1) (by decide +kernel) rfl
theorem e211_61 : amT 211 61 64 (.ifCond .eq 6) 0 := r211 (len := 3) (by decide +kernel) rfl
theorem t211_61 : amTg 61 6 = some 67 := by decide
theorem e211_64 : amT 211 64 67 (.goto 76) 0 := r211 (len := 3) (by decide +kernel) rfl
theorem t211_64 : amTg 64 76 = some 140 := by decide
theorem e211_67 : amT 211 67 68 (.lconst 1) 0 := r211 (len := 1) (by decide +kernel) rfl
theorem e211_68 : amT 211 68 70 (.lstore 6) 0 := r211 (len := 2) (by decide +kernel) rfl
theorem e211_70 : amT 211 70 72 (.lload 6) 0 := r211 (len := 2) (by decide +kernel) rfl
theorem e211_72 : amT 211 72 73 (.aload_n 0) 0 := r211 (len := 1) (by decide +kernel) rfl
theorem e211_73 : amT 211 73 76 (.getfield 36) 775 := r211 (len := 3) (by decide +kernel) rfl
theorem e211_76 : amT 211 76 77 (.iload_n 1) 0 := r211 (len := 1) (by decide +kernel) rfl
theorem e211_77 : amT 211 77 78 (.laload) 0 := r211 (len := 1) (by decide +kernel) rfl
theorem e211_78 : amT 211 78 81 (.invokestatic 9) 153 := r211 (len := 3) (by decide +kernel) rfl
theorem e211_81 : amT 211 81 82 (.lcmp) 0 := r211 (len := 1) (by decide +kernel) rfl
theorem e211_82 : amT 211 82 85 (.ifCond .gt 58) 0 := r211 (len := 3) (by decide +kernel) rfl
theorem t211_82 : amTg 82 58 = some 140 := by decide
theorem e211_85 : amT 211 85 86 (.aload_n 0) 0 := r211 (len := 1) (by decide +kernel) rfl
theorem e211_86 : amT 211 86 89 (.getfield 36) 775 := r211 (len := 3) (by decide +kernel) rfl
theorem e211_89 : amT 211 89 90 (.iload_n 1) 0 := r211 (len := 1) (by decide +kernel) rfl
theorem e211_90 : amT 211 90 91 (.laload) 0 := r211 (len := 1) (by decide +kernel) rfl
theorem e211_91 : amT 211 91 93 (.lload 6) 0 := r211 (len := 2) (by decide +kernel) rfl
theorem e211_93 : amT 211 93 94 (.lrem) 0 := r211 (len := 1) (by decide +kernel) rfl
theorem e211_94 : amT 211 94 95 (.lconst 0) 0 := r211 (len := 1) (by decide +kernel) rfl
theorem e211_95 : amT 211 95 96 (.lcmp) 0 := r211 (len := 1) (by decide +kernel) rfl
theorem e211_96 : amT 211 96 99 (.ifCond .ne 35) 0 := r211 (len := 3) (by decide +kernel) rfl
theorem t211_96 : amTg 96 35 = some 131 := by decide
theorem e211_99 : amT 211 99 101 (.lload 6) 0 := r211 (len := 2) (by decide +kernel) rfl
theorem e211_101 : amT 211 101 103 (.lload 4) 0 := r211 (len := 2) (by decide +kernel) rfl
theorem e211_103 : amT 211 103 106 (.invokestatic 175) 155 := r211 (len := 3) (by decide +kernel) rfl
theorem e211_106 : amT 211 106 107 (.lconst 1) 0 := r211 (len := 1) (by decide +kernel) rfl
theorem e211_107 : amT 211 107 108 (.lcmp) 0 := r211 (len := 1) (by decide +kernel) rfl
theorem e211_108 : amT 211 108 111 (.ifCond .eq 6) 0 := r211 (len := 3) (by decide +kernel) rfl
theorem t211_108 : amTg 108 6 = some 114 := by decide
theorem e211_111 : amT 211 111 114 (.goto 20) 0 := r211 (len := 3) (by decide +kernel) rfl
theorem t211_111 : amTg 111 20 = some 131 := by decide
theorem e211_114 : amT 211 114 115 (.aload_n 0) 0 := r211 (len := 1) (by decide +kernel) rfl
theorem e211_115 : amT 211 115 117 (.lload 6) 0 := r211 (len := 2) (by decide +kernel) rfl
theorem e211_117 : amT 211 117 119 (.lload 4) 0 := r211 (len := 2) (by decide +kernel) rfl
theorem e211_119 : amT 211 119 122 (.invokevirtual 302) 210 := r211 (len := 3) (by decide +kernel) rfl
theorem e211_122 : amT 211 122 123 (.aload_n 0) 0 := r211 (len := 1) (by decide +kernel) rfl
theorem e211_123 : amT 211 123 125 (.lload 6) 0 := r211 (len := 2) (by decide +kernel) rfl
theorem e211_125 : amT 211 125 126 (.lneg) 0 := r211 (len := 1) (by decide +kernel) rfl
theorem e211_126 : amT 211 126 128 (.lload 4) 0 := r211 (len := 2) (by decide +kernel) rfl
theorem e211_128 : amT 211 128 131 (.invokevirtual 302) 210 := r211 (len := 3) (by decide +kernel) rfl
theorem e211_131 : amT 211 131 133 (.lload 6) 0 := r211 (len := 2) (by decide +kernel) rfl
theorem e211_133 : amT 211 133 134 (.lconst 1) 0 := r211 (len := 1) (by decide +kernel) rfl
theorem e211_134 : amT 211 134 135 (.ladd) 0 := r211 (len := 1) (by decide +kernel) rfl
theorem e211_135 : amT 211 135 137 (.lstore 6) 0 := r211 (len := 2) (by decide +kernel) rfl
theorem e211_137 : amT 211 137 140 (.goto (-67)) 0 := r211 (len := 3) (by decide +kernel) rfl
theorem t211_137 : amTg 137 (-67) = some 70 := by decide
theorem e211_140 : amT 211 140 142 (.lload 4) 0 := r211 (len := 2) (by decide +kernel) rfl
theorem e211_142 : amT 211 142 143 (.lconst 1) 0 := r211 (len := 1) (by decide +kernel) rfl
theorem e211_143 : amT 211 143 144 (.ladd) 0 := r211 (len := 1) (by decide +kernel) rfl
theorem e211_144 : amT 211 144 146 (.lstore 4) 0 := r211 (len := 2) (by decide +kernel) rfl
theorem e211_146 : amT 211 146 149 (.goto (-98)) 0 := r211 (len := 3) (by decide +kernel) rfl
theorem t211_146 : amTg 146 (-98) = some 48 := by decide
theorem e211_149 : amT 211 149 150 (.return_) 0 := r211 (len := 1) (by decide +kernel) rfl
