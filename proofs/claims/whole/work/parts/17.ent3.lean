theorem q212 : amCs.getD 212 [] = amC_212 := rfl
theorem r212 {pc pc' len op : Nat} {i : Instr} (h : amC_212.lookup pc = some (i, len, op)) (h2 : pc + len = pc') : amT 212 pc pc' i op := ⟨len, by unfold amEnt; rw [q212]; exact h, h2⟩
theorem e212_0 : amT 212 0 1 (.aload_n 0) 0 := r212 (len := 1) (by decide +kernel) rfl
theorem e212_1 : amT 212 1 2 (.iload_n 1) 0 := r212 (len := 1) (by decide +kernel) rfl
theorem e212_2 : amT 212 2 5 (.invokevirtual 135) 157 := r212 (len := 3) (by decide +kernel) rfl
theorem e212_5 : amT 212 5 8 (.ifCond .eq 22) 0 := r212 (len := 3) (by decide +kernel) rfl
theorem t212_5 : amTg 5 22 = some 27 := by decide
theorem e212_8 : amT 212 8 9 (.iload_n 2) 0 := r212 (len := 1) (by decide +kernel) rfl
theorem e212_9 : amT 212 9 10 (.iconst (-1)) 0 := r212 (len := 1) (by decide +kernel) rfl
theorem e212_10 : amT 212 10 13 (.if_icmp .lt 17) 0 := r212 (len := 3) (by decide +kernel) rfl
theorem t212_10 : amTg 10 17 = some 27 := by decide
theorem e212_13 : amT 212 13 14 (.iload_n 2) 0 := r212 (len := 1) (by decide +kernel) rfl
theorem e212_14 : amT 212 14 17 (.ifCond .lt 17) 0 := r212 (len := 3) (by decide +kernel) rfl
theorem t212_14 : amTg 14 17 = some 31 := by decide
theorem e212_17 : amT 212 17 18 (.iload_n 3) 0 := r212 (len := 1) (by decide +kernel) rfl
theorem e212_18 : amT 212 18 19 (.i2l) 0 := r212 (len := 1) (by decide +kernel) rfl
theorem e212_19 : amT 212 19 20 (.lconst 0) 0 := r212 (len := 1) (by decide +kernel) rfl
theorem e212_20 : amT 212 20 21 (.lconst 1) 0 := r212 (len := 1) (by decide +kernel) rfl
theorem e212_21 : amT 212 21 24 (.invokestatic 107) 152 := r212 (len := 3) (by decide +kernel) rfl
theorem e212_24 : amT 212 24 27 (.ifCond .ne 7) 0 := r212 (len := 3) (by decide +kernel) rfl
theorem t212_24 : amTg 24 7 = some 31 := by decide
theorem e212_27 : amT 212 27 30 (.ldc2_w 140) 4 := r212 (len := 3) (by decide +kernel) rfl
theorem e212_30 : amT 212 30 31 (.lreturn) 0 := r212 (len := 1) (by decide +kernel) rfl
theorem e212_31 : amT 212 31 32 (.aload_n 0) 0 := r212 (len := 1) (by decide +kernel) rfl
theorem e212_32 : amT 212 32 33 (.iload_n 1) 0 := r212 (len := 1) (by decide +kernel) rfl
theorem e212_33 : amT 212 33 34 (.aload_n 0) 0 := r212 (len := 1) (by decide +kernel) rfl
theorem e212_34 : amT 212 34 37 (.getfield 36) 775 := r212 (len := 3) (by decide +kernel) rfl
theorem e212_37 : amT 212 37 40 (.invokevirtual 148) 163 := r212 (len := 3) (by decide +kernel) rfl
theorem e212_40 : amT 212 40 41 (.aload_n 0) 0 := r212 (len := 1) (by decide +kernel) rfl
theorem e212_41 : amT 212 41 44 (.invokevirtual 306) 211 := r212 (len := 3) (by decide +kernel) rfl
theorem e212_44 : amT 212 44 45 (.iload_n 2) 0 := r212 (len := 1) (by decide +kernel) rfl
theorem e212_45 : amT 212 45 46 (.aload_n 0) 0 := r212 (len := 1) (by decide +kernel) rfl
theorem e212_46 : amT 212 46 49 (.getfield 299) 799 := r212 (len := 3) (by decide +kernel) rfl
theorem e212_49 : amT 212 49 52 (.if_icmp .lt 7) 0 := r212 (len := 3) (by decide +kernel) rfl
theorem t212_49 : amTg 49 7 = some 56 := by decide
theorem e212_52 : amT 212 52 55 (.ldc2_w 140) 4 := r212 (len := 3) (by decide +kernel) rfl
theorem e212_55 : amT 212 55 56 (.lreturn) 0 := r212 (len := 1) (by decide +kernel) rfl
theorem e212_56 : amT 212 56 57 (.iload_n 2) 0 := r212 (len := 1) (by decide +kernel) rfl
theorem e212_57 : amT 212 57 60 (.ifCond .ge 11) 0 := r212 (len := 3) (by decide +kernel) rfl
theorem t212_57 : amTg 57 11 = some 68 := by decide
theorem e212_60 : amT 212 60 61 (.aload_n 0) 0 := r212 (len := 1) (by decide +kernel) rfl
theorem e212_61 : amT 212 61 64 (.getfield 299) 799 := r212 (len := 3) (by decide +kernel) rfl
theorem e212_64 : amT 212 64 65 (.i2l) 0 := r212 (len := 1) (by decide +kernel) rfl
theorem e212_65 : amT 212 65 68 (.goto 22) 0 := r212 (len := 3) (by decide +kernel) rfl
theorem t212_65 : amTg 65 22 = some 87 := by decide
theorem e212_68 : amT 212 68 69 (.iload_n 3) 0 := r212 (len := 1) (by decide +kernel) rfl
theorem e212_69 : amT 212 69 72 (.ifCond .ne 12) 0 := r212 (len := 3) (by decide +kernel) rfl
theorem t212_69 : amTg 69 12 = some 81 := by decide
theorem e212_72 : amT 212 72 73 (.aload_n 0) 0 := r212 (len := 1) (by decide +kernel) rfl
theorem e212_73 : amT 212 73 76 (.getfield 77) 797 := r212 (len := 3) (by decide +kernel) rfl
theorem e212_76 : amT 212 76 77 (.iload_n 2) 0 := r212 (len := 1) (by decide +kernel) rfl
theorem e212_77 : amT 212 77 78 (.laload) 0 := r212 (len := 1) (by decide +kernel) rfl
theorem e212_78 : amT 212 78 81 (.goto 9) 0 := r212 (len := 3) (by decide +kernel) rfl
theorem t212_78 : amTg 78 9 = some 87 := by decide
theorem e212_81 : amT 212 81 82 (.aload_n 0) 0 := r212 (len := 1) (by decide +kernel) rfl
theorem e212_82 : amT 212 82 85 (.getfield 80) 798 := r212 (len := 3) (by decide +kernel) rfl
theorem e212_85 : amT 212 85 86 (.iload_n 2) 0 := r212 (len := 1) (by decide +kernel) rfl
theorem e212_86 : amT 212 86 87 (.laload) 0 := r212 (len := 1) (by decide +kernel) rfl
theorem e212_87 : amT 212 87 88 (.lreturn) 0 := r212 (len := 1) (by decide +kernel) rfl
theorem q213 : amCs.getD 213 [] = amC_213 := rfl
theorem r213 {pc pc' len op : Nat} {i : Instr} (h : amC_213.lookup pc = some (i, len, op)) (h2 : pc + len = pc') : amT 213 pc pc' i op := ⟨len, by unfold amEnt; rw [q213]; exact h, h2⟩
theorem e213_0 : amT 213 0 1 (.iload_n 0) 0 := r213 (len := 1) (by decide +kernel) rfl
theorem e213_1 : amT 213 1 2 (.iconst 3) 0 := r213 (len := 1) (by decide +kernel) rfl
theorem e213_2 : amT 213 2 5 (.if_icmp .le 9) 0 := r213 (len := 3) (by decide +kernel) rfl
theorem t213_2 : amTg 2 9 = some 11 := by decide
theorem e213_5 : amT 213 5 6 (.iload_n 0) 0 := r213 (len := 1) (by decide +kernel) rfl
theorem e213_6 : amT 213 6 8 (.bipush 10) 0 := r213 (len := 2) (by decide +kernel) rfl
theorem e213_8 : amT 213 8 11 (.if_icmp .ne 7) 0 := r213 (len := 3) (by decide +kernel) rfl
theorem t213_8 : amTg 8 7 = some 15 := by decide
theorem e213_11 : amT 213 11 12 (.iconst 1) 0 := r213 (len := 1) (by decide +kernel) rfl
theorem e213_12 : amT 213 12 15 (.goto 4) 0 := r213 (len := 3) (by decide +kernel) rfl
theorem t213_12 : amTg 12 4 = some 16 := by decide
theorem e213_15 : amT 213 15 16 (.iconst 0) 0 := r213 (len := 1) (by decide +kernel) rfl
theorem e213_16 : amT 213 16 17 (.ireturn) 0 := r213 (len := 1) (by decide +kernel) rfl
theorem q214 : amCs.getD 214 [] = amC_214 := rfl
theorem r214 {pc pc' len op : Nat} {i : Instr} (h : amC_214.lookup pc = some (i, len, op)) (h2 : pc + len = pc') : amT 214 pc pc' i op := ⟨len, by unfold amEnt; rw [q214]; exact h, h2⟩
theorem e214_0 : amT 214 0 1 (.iload_n 0) 0 := r214 (len := 1) (by decide +kernel) rfl
theorem e214_1 : amT 214 1 3 (.bipush 6) 0 := r214 (len := 2) (by decide +kernel) rfl
theorem e214_3 : amT 214 3 6 (.if_icmp .eq 15) 0 := r214 (len := 3) (by decide +kernel) rfl
theorem t214_3 : amTg 3 15 = some 18 := by decide
theorem e214_6 : amT 214 6 7 (.iload_n 0) 0 := r214 (len := 1) (by decide +kernel) rfl
theorem e214_7 : amT 214 7 9 (.bipush 7) 0 := r214 (len := 2) (by decide +kernel) rfl
theorem e214_9 : amT 214 9 12 (.if_icmp .eq 9) 0 := r214 (len := 3) (by decide +kernel) rfl
theorem t214_9 : amTg 9 9 = some 18 := by decide
theorem e214_12 : amT 214 12 13 (.iload_n 0) 0 := r214 (len := 1) (by decide +kernel) rfl
theorem e214_13 : amT 214 13 15 (.bipush 11) 0 := r214 (len := 2) (by decide +kernel) rfl
theorem e214_15 : amT 214 15 18 (.if_icmp .ne 7) 0 := r214 (len := 3) (by decide +kernel) rfl
theorem t214_15 : amTg 15 7 = some 22 := by decide
theorem e214_18 : amT 214 18 19 (.iconst 1) 0 := r214 (len := 1) (by decide +kernel) rfl
theorem e214_19 : amT 214 19 22 (.goto 4) 0 := r214 (len := 3) (by decide +kernel) rfl
theorem t214_19 : amTg 19 4 = some 23 := by decide
theorem e214_22 : amT 214 22 23 (.iconst 0) 0 := r214 (len := 1) (by decide +kernel) rfl
theorem e214_23 : amT 214 23 24 (.ireturn) 0 := r214 (len := 1) (by decide +kernel) rfl
theorem q215 : amCs.getD 215 [] = amC_215 := rfl
theorem r215 {pc pc' len op : Nat} {i : Instr} (h : amC_215.lookup pc = some (i, len, op)) (h2 : pc + len = pc') : amT 215 pc pc' i op := ⟨len, by unfold amEnt; rw [q215]; exact h, h2⟩
theorem e215_0 : amT 215 0 1 (.iload_n 1) 0 := r215 (len := 1) (by decide +kernel) rfl
theorem e215_1 : amT 215 1 2 (.i2l) 0 := r215 (len := 1) (by decide +kernel) rfl
theorem e215_2 : amT 215 2 3 (.lconst 0) 0 := r215 (len := 1) (by decide +kernel) rfl
theorem e215_3 : amT 215 3 6 (.ldc2_w 309) 12 := r215 (len := 3) (by decide +kernel) rfl
theorem e215_6 : amT 215 6 9 (.invokestatic 107) 152 := r215 (len := 3) (by decide +kernel) rfl
theorem e215_9 : amT 215 9 12 (.ifCond .eq 26) 0 := r215 (len := 3) (by decide +kernel) rfl
theorem t215_9 : amTg 9 26 = some 35 := by decide
theorem e215_12 : amT 215 12 13 (.aload_n 0) 0 := r215 (len := 1) (by decide +kernel) rfl
theorem e215_13 : amT 215 13 14 (.iload_n 2) 0 := r215 (len := 1) (by decide +kernel) rfl
theorem e215_14 : amT 215 14 17 (.invokevirtual 135) 157 := r215 (len := 3) (by decide +kernel) rfl
theorem e215_17 : amT 215 17 20 (.ifCond .eq 18) 0 := r215 (len := 3) (by decide +kernel) rfl
theorem t215_17 : amTg 17 18 = some 35 := by decide
theorem e215_20 : amT 215 20 21 (.iload_n 1) 0 := r215 (len := 1) (by decide +kernel) rfl
theorem e215_21 : amT 215 21 24 (.invokestatic 311) 213 := r215 (len := 3) (by decide +kernel) rfl
theorem e215_24 : amT 215 24 27 (.ifCond .eq 13) 0 := r215 (len := 3) (by decide +kernel) rfl
theorem t215_24 : amTg 24 13 = some 37 := by decide
theorem e215_27 : amT 215 27 28 (.aload_n 0) 0 := r215 (len := 1) (by decide +kernel) rfl
theorem e215_28 : amT 215 28 29 (.iload_n 3) 0 := r215 (len := 1) (by decide +kernel) rfl
theorem e215_29 : amT 215 29 32 (.invokevirtual 135) 157 := r215 (len := 3) (by decide +kernel) rfl
theorem e215_32 : amT 215 32 35 (.ifCond .ne 5) 0 := r215 (len := 3) (by decide +kernel) rfl
theorem t215_32 : amTg 32 5 = some 37 := by decide
theorem e215_35 : amT 215 35 36 (.iconst 0) 0 := r215 (len := 1) (by decide +kernel) rfl
theorem e215_36 : amT 215 36 37 (.ireturn) 0 := r215 (len := 1) (by decide +kernel) rfl
theorem e215_37 : amT 215 37 38 (.iload_n 1) 0 := r215 (len := 1) (by decide +kernel) rfl
theorem e215_38 : amT 215 38 41 (.invokestatic 314) 214 := r215 (len := 3) (by decide +kernel) rfl
theorem e215_41 : amT 215 41 44 (.ifCond .eq 38) 0 := r215 (len := 3) (by decide +kernel) rfl
theorem t215_41 : amTg 41 38 = some 79 := by decide
theorem e215_44 : amT 215 44 45 (.iload_n 1) 0 := r215 (len := 1) (by decide +kernel) rfl
theorem e215_45 : amT 215 45 47 (.bipush 11) 0 := r215 (len := 2) (by decide +kernel) rfl
theorem e215_47 : amT 215 47 50 (.if_icmp .ne 18) 0 := r215 (len := 3) (by decide +kernel) rfl
theorem t215_47 : amTg 47 18 = some 65 := by decide
theorem e215_50 : amT 215 50 51 (.iload_n 3) 0 := r215 (len := 1) (by decide +kernel) rfl
theorem e215_51 : amT 215 51 52 (.i2l) 0 := r215 (len := 1) (by decide +kernel) rfl
theorem e215_52 : amT 215 52 53 (.lconst 1) 0 := r215 (len := 1) (by decide +kernel) rfl
theorem e215_53 : amT 215 53 56 (.ldc2_w 138) 7 := r215 (len := 3) (by decide +kernel) rfl
theorem e215_56 : amT 215 56 59 (.invokestatic 107) 152 := r215 (len := 3) (by decide +kernel) rfl
theorem e215_59 : amT 215 59 62 (.ifCond .eq 24) 0 := r215 (len := 3) (by decide +kernel) rfl
theorem t215_59 : amTg 59 24 = some 83 := by decide
theorem e215_62 : amT 215 62 65 (.goto 17) 0 := r215 (len := 3) (by decide +kernel) rfl
theorem t215_62 : amTg 62 17 = some 79 := by decide
theorem e215_65 : amT 215 65 66 (.iload_n 3) 0 := r215 (len := 1) (by decide +kernel) rfl
theorem e215_66 : amT 215 66 67 (.i2l) 0 := r215 (len := 1) (by decide +kernel) rfl
theorem e215_67 : amT 215 67 70 (.ldc2_w 317) 13 := r215 (len := 3) (by decide +kernel) rfl
theorem e215_70 : amT 215 70 73 (.ldc2_w 255) 10 := r215 (len := 3) (by decide +kernel) rfl
theorem e215_73 : amT 215 73 76 (.invokestatic 107) 152 := r215 (len := 3) (by decide +kernel) rfl
theorem e215_76 : amT 215 76 79 (.ifCond .eq 7) 0 := r215 (len := 3) (by decide +kernel) rfl
theorem t215_76 : amTg 76 7 = some 83 := by decide
theorem e215_79 : amT 215 79 80 (.iconst 1) 0 := r215 (len := 1) (by decide +kernel) rfl
theorem e215_80 : amT 215 80 83 (.goto 4) 0 := r215 (len := 3) (by decide +kernel) rfl
theorem t215_80 : amTg 80 4 = some 84 := by decide
theorem e215_83 : amT 215 83 84 (.iconst 0) 0 := r215 (len := 1) (by decide +kernel) rfl
theorem e215_84 : amT 215 84 85 (.ireturn) 0 := r215 (len := 1) (by decide +kernel) rfl
theorem q216 : amCs.getD 216 [] = amC_216 := rfl
theorem r216 {pc pc' len op : Nat} {i : Instr} (h : amC_216.lookup pc = some (i, len, op)) (h2 : pc + len = pc') : amT 216 pc pc' i op := ⟨len, by unfold amEnt; rw [q216]; exact h, h2⟩
theorem e216_0 : amT 216 0 1 (.aload_n 0) 0 := r216 (len := 1) (by decide +kernel) rfl
theorem e216_1 : amT 216 1 4 (.getfield 32) 774 := r216 (len := 3) (by decide +kernel) rfl
theorem e216_4 : amT 216 4 7 (.invokestatic 127) 171 := r216 (len := 3) (by decide +kernel) rfl
theorem e216_7 : amT 216 7 8 (.aload_n 0) 0 := r216 (len := 1) (by decide +kernel) rfl
theorem e216_8 : amT 216 8 11 (.getfield 36) 775 := r216 (len := 3) (by decide +kernel) rfl
theorem e216_11 : amT 216 11 14 (.invokestatic 115) 173 := r216 (len := 3) (by decide +kernel) rfl
theorem e216_14 : amT 216 14 15 (.istore_n 3) 0 := r216 (len := 1) (by decide +kernel) rfl
theorem e216_15 : amT 216 15 16 (.iload_n 3) 0 := r216 (len := 1) (by decide +kernel) rfl
theorem e216_16 : amT 216 16 19 (.ifCond .lt 74) 0 := r216 (len := 3) (by decide +kernel) rfl
theorem t216_16 : amTg 16 74 = some 90 := by decide
theorem e216_19 : amT 216 19 21 (.bipush 8) 0 := r216 (len := 2) (by decide +kernel) rfl
theorem e216_21 : amT 216 21 23 (.istore 4) 0 := r216 (len := 2) (by decide +kernel) rfl
theorem e216_23 : amT 216 23 25 (.iload 4) 0 := r216 (len := 2) (by decide +kernel) rfl
theorem e216_25 : amT 216 25 28 (.ifCond .lt 44) 0 := r216 (len := 3) (by decide +kernel) rfl
theorem t216_25 : amTg 25 44 = some 69 := by decide
theorem e216_28 : amT 216 28 29 (.aload_n 0) 0 := r216 (len := 1) (by decide +kernel) rfl
theorem e216_29 : amT 216 29 32 (.getfield 32) 774 := r216 (len := 3) (by decide +kernel) rfl
theorem e216_32 : amT 216 32 34 (.iload 4) 0 := r216 (len := 2) (by decide +kernel) rfl
theorem e216_34 : amT 216 34 35 (.aload_n 0) 0 := r216 (len := 1) (by decide +kernel) rfl
theorem e216_35 : amT 216 35 38 (.getfield 32) 774 := r216 (len := 3) (by decide +kernel) rfl
theorem e216_38 : amT 216 38 40 (.iload 4) 0 := r216 (len := 2) (by decide +kernel) rfl
theorem e216_40 : amT 216 40 41 (.laload) 0 := r216 (len := 1) (by decide +kernel) rfl
theorem e216_41 : amT 216 41 42 (.lload_n 1) 0 := r216 (len := 1) (by decide +kernel) rfl
theorem e216_42 : amT 216 42 43 (.lmul) 0 := r216 (len := 1) (by decide +kernel) rfl
theorem e216_43 : amT 216 43 45 (.iload 4) 0 := r216 (len := 2) (by decide +kernel) rfl
theorem e216_45 : amT 216 45 48 (.ifCond .le 15) 0 := r216 (len := 3) (by decide +kernel) rfl
theorem t216_45 : amTg 45 15 = some 60 := by decide
theorem e216_48 : amT 216 48 49 (.aload_n 0) 0 := r216 (len := 1) (by decide +kernel) rfl
theorem e216_49 : amT 216 49 52 (.getfield 32) 774 := r216 (len := 3) (by decide +kernel) rfl
theorem e216_52 : amT 216 52 54 (.iload 4) 0 := r216 (len := 2) (by decide +kernel) rfl
theorem e216_54 : amT 216 54 55 (.iconst 1) 0 := r216 (len := 1) (by decide +kernel) rfl
theorem e216_55 : amT 216 55 56 (.isub) 0 := r216 (len := 1) (by decide +kernel) rfl
theorem e216_56 : amT 216 56 57 (.laload) 0 := r216 (len := 1) (by decide +kernel) rfl
theorem e216_57 : amT 216 57 60 (.goto 4) 0 := r216 (len := 3) (by decide +kernel) rfl
theorem t216_57 : amTg 57 4 = some 61 := by decide
theorem e216_60 : amT 216 60 61 (.lconst 0) 0 := r216 (len := 1) (by decide +kernel) rfl
theorem e216_61 : amT 216 61 62 (.ladd) 0 := r216 (len := 1) (by decide +kernel) rfl
theorem e216_62 : amT 216 62 63 (.lastore) 0 := r216 (len := 1) (by decide +kernel) rfl
theorem e216_63 : amT 216 63 66 (.iinc 4 (-1)) 0 := r216 (len := 3) (by decide +kernel) rfl
theorem e216_66 : amT 216 66 69 (.goto (-43)) 0 := r216 (len := 3) (by decide +kernel) rfl
theorem t216_66 : amTg 66 (-43) = some 23 := by decide
theorem e216_69 : amT 216 69 70 (.aload_n 0) 0 := r216 (len := 1) (by decide +kernel) rfl
theorem e216_70 : amT 216 70 73 (.getfield 32) 774 := r216 (len := 3) (by decide +kernel) rfl
theorem e216_73 : amT 216 73 74 (.iconst 0) 0 := r216 (len := 1) (by decide +kernel) rfl
theorem e216_74 : amT 216 74 75 (.dup2) 0 := r216 (len := 1) (by decide +kernel) rfl
theorem e216_75 : amT 216 75 76 (.laload) 0 := r216 (len := 1) (by decide +kernel) rfl
theorem e216_76 : amT 216 76 77 (.aload_n 0) 0 := r216 (len := 1) (by decide +kernel) rfl
theorem e216_77 : amT 216 77 80 (.getfield 36) 775 := r216 (len := 3) (by decide +kernel) rfl
theorem e216_80 : amT 216 80 81 (.iload_n 3) 0 := r216 (len := 1) (by decide +kernel) rfl
theorem e216_81 : amT 216 81 82 (.laload) 0 := r216 (len := 1) (by decide +kernel) rfl
theorem e216_82 : amT 216 82 83 (.ladd) 0 := r216 (len := 1) (by decide +kernel) rfl
theorem e216_83 : amT 216 83 84 (.lastore) 0 := r216 (len := 1) (by decide +kernel) rfl
theorem e216_84 : amT 216 84 87 (.iinc 3 (-1)) 0 := r216 (len := 3) (by decide +kernel) rfl
theorem e216_87 : amT 216 87 90 (.goto (-72)) 0 := r216 (len := 3) (by decide +kernel) rfl
theorem t216_87 : amTg 87 (-72) = some 15 := by decide
theorem e216_90 : amT 216 90 91 (.return_) 0 := r216 (len := 1) (by decide +kernel) rfl
theorem q217 : amCs.getD 217 [] = amC_217 := rfl
theorem r217 {pc pc' len op : Nat} {i : Instr} (h : amC_217.lookup pc = some (i, len, op)) (h2 : pc + len = pc') : amT 217 pc pc' i op := ⟨len, by unfold amEnt; rw [q217]; exact h, h2⟩
theorem e217_0 : amT 217 0 1 (.aload_n 0) 0 := r217 (len := 1) (by decide +kernel) rfl
theorem e217_1 : amT 217 1 4 (.getfield 36) 775 := r217 (len := 3) (by decide +kernel) rfl
theorem e217_4 : amT 217 4 5 (.aload_n 0) 0 := r217 (len := 1) (by decide +kernel) rfl
theorem e217_5 : amT 217 5 8 (.getfield 83) 800 := r217 (len := 3) (by decide +kernel) rfl
theorem e217_8 : amT 217 8 9 (.iconst 0) 0 := r217 (len := 1) (by decide +kernel) rfl
theorem e217_9 : amT 217 9 10 (.aaload) 0 := r217 (len := 1) (by decide +kernel) rfl
theorem e217_10 : amT 217 10 13 (.invokestatic 188) 172 := r217 (len := 3) (by decide +kernel) rfl
theorem e217_13 : amT 217 13 14 (.aload_n 0) 0 := r217 (len := 1) (by decide +kernel) rfl
theorem e217_14 : amT 217 14 15 (.aload_n 0) 0 := r217 (len := 1) (by decide +kernel) rfl
theorem e217_15 : amT 217 15 18 (.getfield 83) 800 := r217 (len := 3) (by decide +kernel) rfl
theorem e217_18 : amT 217 18 19 (.iconst 0) 0 := r217 (len := 1) (by decide +kernel) rfl
theorem e217_19 : amT 217 19 20 (.aaload) 0 := r217 (len := 1) (by decide +kernel) rfl
theorem e217_20 : amT 217 20 23 (.invokevirtual 192) 175 := r217 (len := 3) (by decide +kernel) rfl
theorem e217_23 : amT 217 23 24 (.aload_n 0) 0 := r217 (len := 1) (by decide +kernel) rfl
theorem e217_24 : amT 217 24 27 (.getfield 83) 800 := r217 (len := 3) (by decide +kernel) rfl
theorem e217_27 : amT 217 27 28 (.iconst 0) 0 := r217 (len := 1) (by decide +kernel) rfl
theorem e217_28 : amT 217 28 29 (.aaload) 0 := r217 (len := 1) (by decide +kernel) rfl
theorem e217_29 : amT 217 29 32 (.invokestatic 199) 177 := r217 (len := 3) (by decide +kernel) rfl
theorem e217_32 : amT 217 32 33 (.iconst 1) 0 := r217 (len := 1) (by decide +kernel) rfl
theorem e217_33 : amT 217 33 34 (.istore_n 2) 0 := r217 (len := 1) (by decide +kernel) rfl
theorem e217_34 : amT 217 34 35 (.iload_n 2) 0 := r217 (len := 1) (by decide +kernel) rfl
theorem e217_35 : amT 217 35 36 (.iload_n 1) 0 := r217 (len := 1) (by decide +kernel) rfl
theorem e217_36 : amT 217 36 37 (.iconst 1) 0 := r217 (len := 1) (by decide +kernel) rfl
theorem e217_37 : amT 217 37 38 (.iadd) 0 := r217 (len := 1) (by decide +kernel) rfl
theorem e217_38 : amT 217 38 41 (.if_icmp .gt 89) 0 := r217 (len := 3) (by decide +kernel) rfl
theorem t217_38 : amTg 38 89 = some 127 := by decide
theorem e217_41 : amT 217 41 42 (.aload_n 0) 0 := r217 (len := 1) (by decide +kernel) rfl
theorem e217_42 : amT 217 42 45 (.getfield 83) 800 := r217 (len := 3) (by decide +kernel) rfl
theorem e217_45 : amT 217 45 46 (.iload_n 2) 0 := r217 (len := 1) (by decide +kernel) rfl
theorem e217_46 : amT 217 46 47 (.iconst 1) 0 := r217 (len := 1) (by decide +kernel) rfl
theorem e217_47 : amT 217 47 48 (.isub) 0 := r217 (len := 1) (by decide +kernel) rfl
theorem e217_48 : amT 217 48 49 (.aaload) 0 := r217 (len := 1) (by decide +kernel) rfl
theorem e217_49 : amT 217 49 52 (.invokestatic 115) 173 := r217 (len := 3) (by decide +kernel) rfl
theorem e217_52 : amT 217 52 55 (.ifCond .ne 24) 0 := r217 (len := 3) (by decide +kernel) rfl
theorem t217_52 : amTg 52 24 = some 76 := by decide
theorem e217_55 : amT 217 55 56 (.aload_n 0) 0 := r217 (len := 1) (by decide +kernel) rfl
theorem e217_56 : amT 217 56 59 (.getfield 83) 800 := r217 (len := 3) (by decide +kernel) rfl
theorem e217_59 : amT 217 59 60 (.iload_n 2) 0 := r217 (len := 1) (by decide +kernel) rfl
theorem e217_60 : amT 217 60 61 (.aaload) 0 := r217 (len := 1) (by decide +kernel) rfl
theorem e217_61 : amT 217 61 64 (.invokestatic 127) 171 := r217 (len := 3) (by decide +kernel) rfl
theorem e217_64 : amT 217 64 65 (.aload_n 0) 0 := r217 (len := 1) (by decide +kernel) rfl
theorem e217_65 : amT 217 65 68 (.getfield 83) 800 := r217 (len := 3) (by decide +kernel) rfl
theorem e217_68 : amT 217 68 69 (.iload_n 2) 0 := r217 (len := 1) (by decide +kernel) rfl
theorem e217_69 : amT 217 69 70 (.aaload) 0 := r217 (len := 1) (by decide +kernel) rfl
theorem e217_70 : amT 217 70 71 (.iconst 0) 0 := r217 (len := 1) (by decide +kernel) rfl
theorem e217_71 : amT 217 71 72 (.lconst 1) 0 := r217 (len := 1) (by decide +kernel) rfl
theorem e217_72 : amT 217 72 73 (.lastore) 0 := r217 (len := 1) (by decide +kernel) rfl
theorem e217_73 : amT 217 73 76 (.goto 48) 0 := r217 (len := 3) (by decide +kernel) rfl
theorem t217_73 : amTg 73 48 = some 121 := by decide
theorem e217_76 : amT 217 76 77 (.aload_n 0) 0 := r217 (len := 1) (by decide +kernel) rfl
theorem e217_77 : amT 217 77 80 (.getfield 83) 800 := r217 (len := 3) (by decide +kernel) rfl
theorem e217_80 : amT 217 80 81 (.iload_n 2) 0 := r217 (len := 1) (by decide +kernel) rfl
theorem e217_81 : amT 217 81 82 (.iconst 1) 0 := r217 (len := 1) (by decide +kernel) rfl
theorem e217_82 : amT 217 82 83 (.isub) 0 := r217 (len := 1) (by decide +kernel) rfl
theorem e217_83 : amT 217 83 84 (.aaload) 0 := r217 (len := 1) (by decide +kernel) rfl
theorem e217_84 : amT 217 84 85 (.aload_n 0) 0 := r217 (len := 1) (by decide +kernel) rfl
theorem e217_85 : amT 217 85 88 (.getfield 71) 791 := r217 (len := 3) (by decide +kernel) rfl
theorem e217_88 : amT 217 88 91 (.invokestatic 202) 178 := r217 (len := 3) (by decide +kernel) rfl
theorem e217_91 : amT 217 91 92 (.aload_n 0) 0 := r217 (len := 1) (by decide +kernel) rfl
theorem e217_92 : amT 217 92 93 (.aload_n 0) 0 := r217 (len := 1) (by decide +kernel) rfl
theorem e217_93 : amT 217 93 96 (.getfield 83) 800 := r217 (len := 3) (by decide +kernel) rfl
theorem e217_96 : amT 217 96 97 (.iload_n 2) 0 := r217 (len := 1) (by decide +kernel) rfl
theorem e217_97 : amT 217 97 98 (.iconst 1) 0 := r217 (len := 1) (by decide +kernel) rfl
theorem e217_98 : amT 217 98 99 (.isub) 0 := r217 (len := 1) (by decide +kernel) rfl
theorem e217_99 : amT 217 99 100 (.aaload) 0 := r217 (len := 1) (by decide +kernel) rfl
theorem e217_100 : amT 217 100 101 (.aload_n 0) 0 := r217 (len := 1) (by decide +kernel) rfl
theorem e217_101 : amT 217 101 104 (.getfield 71) 791 := r217 (len := 3) (by decide +kernel) rfl
theorem e217_104 : amT 217 104 105 (.aload_n 0) 0 := r217 (len := 1) (by decide +kernel) rfl
theorem e217_105 : amT 217 105 108 (.getfield 83) 800 := r217 (len := 3) (by decide +kernel) rfl
theorem e217_108 : amT 217 108 109 (.iload_n 2) 0 := r217 (len := 1) (by decide +kernel) rfl
theorem e217_109 : amT 217 109 110 (.aaload) 0 := r217 (len := 1) (by decide +kernel) rfl
theorem e217_110 : amT 217 110 113 (.invokevirtual 205) 180 := r217 (len := 3) (by decide +kernel) rfl
theorem e217_113 : amT 217 113 114 (.aload_n 0) 0 := r217 (len := 1) (by decide +kernel) rfl
theorem e217_114 : amT 217 114 117 (.getfield 111) 777 := r217 (len := 3) (by decide +kernel) rfl
theorem e217_117 : amT 217 117 120 (.ifCond .eq 4) 0 := r217 (len := 3) (by decide +kernel) rfl
theorem t217_117 : amTg 117 4 = some 121 := by decide
theorem e217_120 : amT 217 120 121 (.return_) 0 := r217 (len := 1) (by decide +kernel) rfl
theorem e217_121 : amT 217 121 124 (.iinc 2 1) 0 := r217 (len := 3) (by decide +kernel) rfl
theorem e217_124 : amT 217 124 127 (.goto (-90)) 0 := r217 (len := 3) (by decide +kernel) rfl
theorem t217_124 : amTg 124 (-90) = some 34 := by decide
theorem e217_127 : amT 217 127 128 (.aload_n 0) 0 := r217 (len := 1) (by decide +kernel) rfl
theorem e217_128 : amT 217 128 129 (.aload_n 0) 0 := r217 (len := 1) (by decide +kernel) rfl
theorem e217_129 : amT 217 129 132 (.getfield 83) 800 := r217 (len := 3) (by decide +kernel) rfl
theorem e217_132 : amT 217 132 133 (.iload_n 1) 0 := r217 (len := 1) (by decide +kernel) rfl
theorem e217_133 : amT 217 133 134 (.iconst 1) 0 := r217 (len := 1) (by decide +kernel) rfl
theorem e217_134 : amT 217 134 135 (.isub) 0 := r217 (len := 1) (by decide +kernel) rfl
theorem e217_135 : amT 217 135 136 (.aaload) 0 := r217 (len := 1) (by decide +kernel) rfl
theorem e217_136 : amT 217 136 137 (.aload_n 0) 0 := r217 (len := 1) (by decide +kernel) rfl
theorem e217_137 : amT 217 137 140 (.getfield 83) 800 := r217 (len := 3) (by decide +kernel) rfl
theorem e217_140 : amT 217 140 141 (.iload_n 1) 0 := r217 (len := 1) (by decide +kernel) rfl
theorem e217_141 : amT 217 141 142 (.aaload) 0 := r217 (len := 1) (by decide +kernel) rfl
theorem e217_142 : amT 217 142 143 (.aload_n 0) 0 := r217 (len := 1) (by decide +kernel) rfl
theorem e217_143 : amT 217 143 146 (.getfield 86) 801 := r217 (len := 3) (by decide +kernel) rfl
theorem e217_146 : amT 217 146 149 (.invokevirtual 208) 181 := r217 (len := 3) (by decide +kernel) rfl
theorem e217_149 : amT 217 149 150 (.aload_n 0) 0 := r217 (len := 1) (by decide +kernel) rfl
theorem e217_150 : amT 217 150 151 (.aload_n 0) 0 := r217 (len := 1) (by decide +kernel) rfl
theorem e217_151 : amT 217 151 154 (.getfield 86) 801 := r217 (len := 3) (by decide +kernel) rfl
theorem e217_154 : amT 217 154 157 (.invokevirtual 192) 175 := r217 (len := 3) (by decide +kernel) rfl
theorem e217_157 : amT 217 157 158 (.aload_n 0) 0 := r217 (len := 1) (by decide +kernel) rfl
theorem e217_158 : amT 217 158 159 (.aload_n 0) 0 := r217 (len := 1) (by decide +kernel) rfl
theorem e217_159 : amT 217 159 162 (.getfield 83) 800 := r217 (len := 3) (by decide +kernel) rfl
theorem e217_162 : amT 217 162 163 (.iload_n 1) 0 := r217 (len := 1) (by decide +kernel) rfl
theorem e217_163 : amT 217 163 164 (.aaload) 0 := r217 (len := 1) (by decide +kernel) rfl
theorem e217_164 : amT 217 164 165 (.aload_n 0) 0 := r217 (len := 1) (by decide +kernel) rfl
theorem e217_165 : amT 217 165 168 (.getfield 83) 800 := r217 (len := 3) (by decide +kernel) rfl
theorem e217_168 : amT 217 168 169 (.iload_n 1) 0 := r217 (len := 1) (by decide +kernel) rfl
theorem e217_169 : amT 217 169 170 (.iconst 1) 0 := r217 (len := 1) (by decide +kernel) rfl
theorem e217_170 : amT 217 170 171 (.iadd) 0 := r217 (len := 1) (by decide +kernel) rfl
theorem e217_171 : amT 217 171 172 (.aaload) 0 := r217 (len := 1) (by decide +kernel) rfl
theorem e217_172 : amT 217 172 173 (.aload_n 0) 0 := r217 (len := 1) (by decide +kernel) rfl
theorem e217_173 : amT 217 173 176 (.getfield 89) 802 := r217 (len := 3) (by decide +kernel) rfl
theorem e217_176 : amT 217 176 179 (.invokevirtual 208) 181 := r217 (len := 3) (by decide +kernel) rfl
theorem e217_179 : amT 217 179 180 (.aload_n 0) 0 := r217 (len := 1) (by decide +kernel) rfl
theorem e217_180 : amT 217 180 181 (.aload_n 0) 0 := r217 (len := 1) (by decide +kernel) rfl
theorem e217_181 : amT 217 181 184 (.getfield 89) 802 := r217 (len := 3) (by decide +kernel) rfl
theorem e217_184 : amT 217 184 187 (.invokevirtual 192) 175 := r217 (len := 3) (by decide +kernel) rfl
theorem e217_187 : amT 217 187 188 (.aload_n 0) 0 := r217 (len := 1) (by decide +kernel) rfl
theorem e217_188 : amT 217 188 189 (.aload_n 0) 0 := r217 (len := 1) (by decide +kernel) rfl
theorem e217_189 : amT 217 189 192 (.getfield 86) 801 := r217 (len := 3) (by decide +kernel) rfl
theorem e217_192 : amT 217 192 193 (.aload_n 0) 0 := r217 (len := 1) (by decide +kernel) rfl
theorem e217_193 : amT 217 193 196 (.getfield 89) 802 := r217 (len := 3) (by decide +kernel) rfl
theorem e217_196 : amT 217 196 197 (.aload_n 0) 0 := r217 (len := 1) (by decide +kernel) rfl
theorem e217_197 : amT 217 197 200 (.getfield 32) 774 := r217 (len := 3) (by decide +kernel) rfl
theorem e217_200 : amT 217 200 203 (.invokevirtual 208) 181 := r217 (len := 3) (by decide +kernel) rfl
theorem e217_203 : amT 217 203 204 (.aload_n 0) 0 := r217 (len := 1) (by decide +kernel) rfl
theorem e217_204 : amT 217 204 205 (.aload_n 0) 0 := r217 (len := 1) (by decide +kernel) rfl
theorem e217_205 : amT 217 205 208 (.getfield 32) 774 := r217 (len := 3) (by decide +kernel) rfl
theorem e217_208 : amT 217 208 211 (.invokevirtual 192) 175 := r217 (len := 3) (by decide +kernel) rfl
theorem e217_211 : amT 217 211 212 (.return_) 0 := r217 (len := 1) (by decide +kernel) rfl
theorem q218 : amCs.getD 218 [] = amC_218 := rfl
theorem r218 {pc pc' len op : Nat} {i : Instr} (h : amC_218.lookup pc = some (i, len, op)) (h2 : pc + len = pc') : amT 218 pc pc' i op := ⟨len, by unfold amEnt; rw [q218]; exact h, h2⟩
theorem e218_0 : amT 218 0 1 (.aload_n 0) 0 := r218 (len := 1) (by decide +kernel) rfl
theorem e218_1 : amT 218 1 4 (.getfield 32) 774 := r218 (len := 3) (by decide +kernel) rfl
theorem e218_4 : amT 218 4 7 (.invokestatic 127) 171 := r218 (len := 3) (by decide +kernel) rfl
theorem e218_7 : amT 218 7 8 (.iload_n 1) 0 := r218 (len := 1) (by decide +kernel) rfl
theorem e218_8 : amT 218 8 68 (.tableswitch 334 0 10 #[60, 116, 60, 134, 153, 167, 213, 222, 258, 300, 315]) 0 := r218 (len := 60) (by decide +kernel) rfl
theorem t218_8_315 : amTg 8 315 = some 323 := by decide
theorem t218_8_213 : amTg 8 213 = some 221 := by decide
theorem t218_8_334 : amTg 8 334 = some 342 := by decide
theorem t218_8_300 : amTg 8 300 = some 308 := by decide
theorem t218_8_258 : amTg 8 258 = some 266 := by decide
theorem t218_8_153 : amTg 8 153 = some 161 := by decide
theorem t218_8_134 : amTg 8 134 = some 142 := by decide
theorem t218_8_60 : amTg 8 60 = some 68 := by decide
theorem t218_8_116 : amTg 8 116 = some 124 := by decide
theorem t218_8_222 : amTg 8 222 = some 230 := by decide
theorem t218_8_167 : amTg 8 167 = some 175 := by decide
theorem e218_68 : amT 218 68 69 (.iconst 0) 0 := r218 (len := 1) (by decide +kernel) rfl
theorem e218_69 : amT 218 69 70 (.istore_n 3) 0 := r218 (len := 1) (by decide +kernel) rfl
theorem e218_70 : amT 218 70 71 (.iload_n 3) 0 := r218 (len := 1) (by decide +kernel) rfl
theorem e218_71 : amT 218 71 73 (.bipush 9) 0 := r218 (len := 2) (by decide +kernel) rfl
theorem e218_73 : amT 218 73 76 (.if_icmp .ge 48) 0 := r218 (len := 3) (by decide +kernel) rfl
theorem t218_73 : amTg 73 48 = some 121 := by decide
theorem e218_76 : amT 218 76 77 (.aload_n 0) 0 := r218 (len := 1) (by decide +kernel) rfl
theorem e218_77 : amT 218 77 80 (.getfield 32) 774 := r218 (len := 3) (by decide +kernel) rfl
theorem e218_80 : amT 218 80 81 (.iload_n 3) 0 := r218 (len := 1) (by decide +kernel) rfl
theorem e218_81 : amT 218 81 82 (.iload_n 1) 0 := r218 (len := 1) (by decide +kernel) rfl
theorem e218_82 : amT 218 82 85 (.ifCond .ne 19) 0 := r218 (len := 3) (by decide +kernel) rfl
theorem t218_82 : amTg 82 19 = some 101 := by decide
theorem e218_85 : amT 218 85 86 (.aload_n 0) 0 := r218 (len := 1) (by decide +kernel) rfl
theorem e218_86 : amT 218 86 89 (.getfield 36) 775 := r218 (len := 3) (by decide +kernel) rfl
theorem e218_89 : amT 218 89 90 (.iload_n 3) 0 := r218 (len := 1) (by decide +kernel) rfl
theorem e218_90 : amT 218 90 91 (.laload) 0 := r218 (len := 1) (by decide +kernel) rfl
theorem e218_91 : amT 218 91 92 (.aload_n 0) 0 := r218 (len := 1) (by decide +kernel) rfl
theorem e218_92 : amT 218 92 95 (.getfield 39) 776 := r218 (len := 3) (by decide +kernel) rfl
theorem e218_95 : amT 218 95 96 (.iload_n 3) 0 := r218 (len := 1) (by decide +kernel) rfl
theorem e218_96 : amT 218 96 97 (.laload) 0 := r218 (len := 1) (by decide +kernel) rfl
theorem e218_97 : amT 218 97 98 (.ladd) 0 := r218 (len := 1) (by decide +kernel) rfl
theorem e218_98 : amT 218 98 101 (.goto 16) 0 := r218 (len := 3) (by decide +kernel) rfl
theorem t218_98 : amTg 98 16 = some 114 := by decide
theorem e218_101 : amT 218 101 102 (.aload_n 0) 0 := r218 (len := 1) (by decide +kernel) rfl
theorem e218_102 : amT 218 102 105 (.getfield 36) 775 := r218 (len := 3) (by decide +kernel) rfl
theorem e218_105 : amT 218 105 106 (.iload_n 3) 0 := r218 (len := 1) (by decide +kernel) rfl
theorem e218_106 : amT 218 106 107 (.laload) 0 := r218 (len := 1) (by decide +kernel) rfl
theorem e218_107 : amT 218 107 108 (.aload_n 0) 0 := r218 (len := 1) (by decide +kernel) rfl
theorem e218_108 : amT 218 108 111 (.getfield 39) 776 := r218 (len := 3) (by decide +kernel) rfl
theorem e218_111 : amT 218 111 112 (.iload_n 3) 0 := r218 (len := 1) (by decide +kernel) rfl
theorem e218_112 : amT 218 112 113 (.laload) 0 := r218 (len := 1) (by decide +kernel) rfl
theorem e218_113 : amT 218 113 114 (.lsub) 0 := r218 (len := 1) (by decide +kernel) rfl
theorem e218_114 : amT 218 114 115 (.lastore) 0 := r218 (len := 1) (by decide +kernel) rfl
theorem e218_115 : amT 218 115 118 (.iinc 3 1) 0 := r218 (len := 3) (by decide +kernel) rfl
theorem e218_118 : amT 218 118 121 (.goto (-48)) 0 := r218 (len := 3) (by decide +kernel) rfl
theorem t218_118 : amTg 118 (-48) = some 70 := by decide
theorem e218_121 : amT 218 121 124 (.goto 226) 0 := r218 (len := 3) (by decide +kernel) rfl
theorem t218_121 : amTg 121 226 = some 347 := by decide
theorem e218_124 : amT 218 124 125 (.aload_n 0) 0 := r218 (len := 1) (by decide +kernel) rfl
theorem e218_125 : amT 218 125 128 (.getfield 36) 775 := r218 (len := 3) (by decide +kernel) rfl
theorem e218_128 : amT 218 128 129 (.aload_n 0) 0 := r218 (len := 1) (by decide +kernel) rfl
theorem e218_129 : amT 218 129 132 (.getfield 39) 776 := r218 (len := 3) (by decide +kernel) rfl
theorem e218_132 : amT 218 132 133 (.aload_n 0) 0 := r218 (len := 1) (by decide +kernel) rfl
theorem e218_133 : amT 218 133 136 (.getfield 32) 774 := r218 (len := 3) (by decide +kernel) rfl
theorem e218_136 : amT 218 136 139 (.invokestatic 276) 205 := r218 (len := 3) (by decide +kernel) rfl
theorem e218_139 : amT 218 139 142 (.goto 208) 0 := r218 (len := 3) (by decide +kernel) rfl
theorem t218_139 : amTg 139 208 = some 347 := by decide
theorem e218_142 : amT 218 142 143 (.aload_n 0) 0 := r218 (len := 1) (by decide +kernel) rfl
theorem e218_143 : amT 218 143 144 (.aload_n 0) 0 := r218 (len := 1) (by decide +kernel) rfl
theorem e218_144 : amT 218 144 147 (.getfield 36) 775 := r218 (len := 3) (by decide +kernel) rfl
theorem e218_147 : amT 218 147 148 (.aload_n 0) 0 := r218 (len := 1) (by decide +kernel) rfl
theorem e218_148 : amT 218 148 151 (.getfield 39) 776 := r218 (len := 3) (by decide +kernel) rfl
theorem e218_151 : amT 218 151 152 (.aload_n 0) 0 := r218 (len := 1) (by decide +kernel) rfl
theorem e218_152 : amT 218 152 155 (.getfield 32) 774 := r218 (len := 3) (by decide +kernel) rfl
theorem e218_155 : amT 218 155 158 (.invokevirtual 205) 180 := r218 (len := 3) (by decide +kernel) rfl
theorem e218_158 : amT 218 158 161 (.goto 189) 0 := r218 (len := 3) (by decide +kernel) rfl
theorem t218_158 : amTg 158 189 = some 347 := by decide
theorem e218_161 : amT 218 161 162 (.aload_n 0) 0 := r218 (len := 1) (by decide +kernel) rfl
theorem e218_162 : amT 218 162 165 (.getfield 36) 775 := r218 (len := 3) (by decide +kernel) rfl
theorem e218_165 : amT 218 165 166 (.aload_n 0) 0 := r218 (len := 1) (by decide +kernel) rfl
theorem e218_166 : amT 218 166 169 (.getfield 32) 774 := r218 (len := 3) (by decide +kernel) rfl
theorem e218_169 : amT 218 169 172 (.invokestatic 202) 178 := r218 (len := 3) (by decide +kernel) rfl
theorem e218_172 : amT 218 172 175 (.goto 175) 0 := r218 (len := 3) (by decide +kernel) rfl
theorem t218_172 : amTg 172 175 = some 347 := by decide
theorem e218_175 : amT 218 175 176 (.iconst 0) 0 := r218 (len := 1) (by decide +kernel) rfl
theorem e218_176 : amT 218 176 177 (.istore_n 3) 0 := r218 (len := 1) (by decide +kernel) rfl
theorem e218_177 : amT 218 177 178 (.iload_n 3) 0 := r218 (len := 1) (by decide +kernel) rfl
theorem e218_178 : amT 218 178 180 (.bipush 9) 0 := r218 (len := 2) (by decide +kernel) rfl
theorem e218_180 : amT 218 180 183 (.if_icmp .ge 38) 0 := r218 (len := 3) (by decide +kernel) rfl
theorem t218_180 : amTg 180 38 = some 218 := by decide
theorem e218_183 : amT 218 183 184 (.aload_n 0) 0 := r218 (len := 1) (by decide +kernel) rfl
theorem e218_184 : amT 218 184 187 (.getfield 32) 774 := r218 (len := 3) (by decide +kernel) rfl
theorem e218_187 : amT 218 187 188 (.iload_n 3) 0 := r218 (len := 1) (by decide +kernel) rfl
theorem e218_188 : amT 218 188 189 (.iload_n 3) 0 := r218 (len := 1) (by decide +kernel) rfl
theorem e218_189 : amT 218 189 190 (.iconst 2) 0 := r218 (len := 1) (by decide +kernel) rfl
theorem e218_190 : amT 218 190 191 (.irem) 0 := r218 (len := 1) (by decide +kernel) rfl
theorem e218_191 : amT 218 191 192 (.iconst 1) 0 := r218 (len := 1) (by decide +kernel) rfl
theorem e218_192 : amT 218 192 195 (.if_icmp .ne 13) 0 := r218 (len := 3) (by decide +kernel) rfl
theorem t218_192 : amTg 192 13 = some 205 := by decide
theorem e218_195 : amT 218 195 196 (.aload_n 0) 0 := r218 (len := 1) (by decide +kernel) rfl
theorem e218_196 : amT 218 196 199 (.getfield 36) 775 := r218 (len := 3) (by decide +kernel) rfl
theorem e218_199 : amT 218 199 200 (.iload_n 3) 0 := r218 (len := 1) (by decide +kernel) rfl
theorem e218_200 : amT 218 200 201 (.laload) 0 := r218 (len := 1) (by decide +kernel) rfl
theorem e218_201 : amT 218 201 202 (.lneg) 0 := r218 (len := 1) (by decide +kernel) rfl
theorem e218_202 : amT 218 202 205 (.goto 9) 0 := r218 (len := 3) (by decide +kernel) rfl
theorem t218_202 : amTg 202 9 = some 211 := by decide
theorem e218_205 : amT 218 205 206 (.aload_n 0) 0 := r218 (len := 1) (by decide +kernel) rfl
theorem e218_206 : amT 218 206 209 (.getfield 36) 775 := r218 (len := 3) (by decide +kernel) rfl
theorem e218_209 : amT 218 209 210 (.iload_n 3) 0 := r218 (len := 1) (by decide +kernel) rfl
theorem e218_210 : amT 218 210 211 (.laload) 0 := r218 (len := 1) (by decide +kernel) rfl
theorem e218_211 : amT 218 211 212 (.lastore) 0 := r218 (len := 1) (by decide +kernel) rfl
theorem e218_212 : amT 218 212 215 (.iinc 3 1) 0 := r218 (len := 3) (by decide +kernel) rfl
theorem e218_215 : amT 218 215 218 (.goto (-38)) 0 := r218 (len := 3) (by decide +kernel) rfl
theorem t218_215 : amTg 215 (-38) = some 177 := by decide
theorem e218_218 : amT 218 218 221 (.goto 129) 0 := r218 (len := 3) (by decide +kernel) rfl
theorem t218_218 : amTg 218 129 = some 347 := by decide
theorem e218_221 : amT 218 221 222 (.aload_n 0) 0 := r218 (len := 1) (by decide +kernel) rfl
theorem e218_222 : amT 218 222 223 (.iload_n 2) 0 := r218 (len := 1) (by decide +kernel) rfl
theorem e218_223 : amT 218 223 224 (.i2l) 0 := r218 (len := 1) (by decide +kernel) rfl
theorem e218_224 : amT 218 224 227 (.invokevirtual 319) 216 := r218 (len := 3) (by decide +kernel) rfl
theorem e218_227 : amT 218 227 230 (.goto 120) 0 := r218 (len := 3) (by decide +kernel) rfl
theorem t218_227 : amTg 227 120 = some 347 := by decide
theorem e218_230 : amT 218 230 231 (.iconst 0) 0 := r218 (len := 1) (by decide +kernel) rfl
theorem e218_231 : amT 218 231 232 (.istore_n 3) 0 := r218 (len := 1) (by decide +kernel) rfl
theorem e218_232 : amT 218 232 233 (.iload_n 3) 0 := r218 (len := 1) (by decide +kernel) rfl
theorem e218_233 : amT 218 233 235 (.bipush 9) 0 := r218 (len := 2) (by decide +kernel) rfl
theorem e218_235 : amT 218 235 238 (.if_icmp .ge 28) 0 := r218 (len := 3) (by decide +kernel) rfl
theorem t218_235 : amTg 235 28 = some 263 := by decide
theorem e218_238 : amT 218 238 239 (.aload_n 0) 0 := r218 (len := 1) (by decide +kernel) rfl
theorem e218_239 : amT 218 239 242 (.getfield 32) 774 := r218 (len := 3) (by decide +kernel) rfl
theorem e218_242 : amT 218 242 243 (.iload_n 3) 0 := r218 (len := 1) (by decide +kernel) rfl
theorem e218_243 : amT 218 243 244 (.aload_n 0) 0 := r218 (len := 1) (by decide +kernel) rfl
theorem e218_244 : amT 218 244 247 (.getfield 36) 775 := r218 (len := 3) (by decide +kernel) rfl
theorem e218_247 : amT 218 247 248 (.iload_n 3) 0 := r218 (len := 1) (by decide +kernel) rfl
theorem e218_248 : amT 218 248 249 (.laload) 0 := r218 (len := 1) (by decide +kernel) rfl
theorem e218_249 : amT 218 249 250 (.iload_n 2) 0 := r218 (len := 1) (by decide +kernel) rfl
theorem e218_250 : amT 218 250 251 (.i2l) 0 := r218 (len := 1) (by decide +kernel) rfl
theorem e218_251 : amT 218 251 252 (.iload_n 3) 0 := r218 (len := 1) (by decide +kernel) rfl
theorem e218_252 : amT 218 252 255 (.invokestatic 163) 168 := r218 (len := 3) (by decide +kernel) rfl
theorem e218_255 : amT 218 255 256 (.lmul) 0 := r218 (len := 1) (by decide +kernel) rfl
theorem e218_256 : amT 218 256 257 (.lastore) 0 := r218 (len := 1) (by decide +kernel) rfl
theorem e218_257 : amT 218 257 260 (.iinc 3 1) 0 := r218 (len := 3) (by decide +kernel) rfl
theorem e218_260 : amT 218 260 263 (.goto (-28)) 0 := r218 (len := 3) (by decide +kernel) rfl
theorem t218_260 : amTg 260 (-28) = some 232 := by decide
theorem e218_263 : amT 218 263 266 (.goto 84) 0 := r218 (len := 3) (by decide +kernel) rfl
theorem t218_263 : amTg 263 84 = some 347 := by decide
theorem e218_266 : amT 218 266 267 (.iconst 0) 0 := r218 (len := 1) (by decide +kernel) rfl
theorem e218_267 : amT 218 267 268 (.istore_n 3) 0 := r218 (len := 1) (by decide +kernel) rfl
theorem e218_268 : amT 218 268 269 (.iload_n 3) 0 := r218 (len := 1) (by decide +kernel) rfl
theorem e218_269 : amT 218 269 270 (.aload_n 0) 0 := r218 (len := 1) (by decide +kernel) rfl
theorem e218_270 : amT 218 270 273 (.getfield 36) 775 := r218 (len := 3) (by decide +kernel) rfl
theorem e218_273 : amT 218 273 276 (.invokestatic 115) 173 := r218 (len := 3) (by decide +kernel) rfl
theorem e218_276 : amT 218 276 279 (.if_icmp .gt 29) 0 := r218 (len := 3) (by decide +kernel) rfl
theorem t218_276 : amTg 276 29 = some 305 := by decide
theorem e218_279 : amT 218 279 280 (.aload_n 0) 0 := r218 (len := 1) (by decide +kernel) rfl
theorem e218_280 : amT 218 280 283 (.getfield 32) 774 := r218 (len := 3) (by decide +kernel) rfl
theorem e218_283 : amT 218 283 284 (.iload_n 3) 0 := r218 (len := 1) (by decide +kernel) rfl
theorem e218_284 : amT 218 284 285 (.aload_n 0) 0 := r218 (len := 1) (by decide +kernel) rfl
theorem e218_285 : amT 218 285 288 (.getfield 36) 775 := r218 (len := 3) (by decide +kernel) rfl
theorem e218_288 : amT 218 288 289 (.aload_n 0) 0 := r218 (len := 1) (by decide +kernel) rfl
theorem e218_289 : amT 218 289 292 (.getfield 36) 775 := r218 (len := 3) (by decide +kernel) rfl
theorem e218_292 : amT 218 292 295 (.invokestatic 115) 173 := r218 (len := 3) (by decide +kernel) rfl
theorem e218_295 : amT 218 295 296 (.iload_n 3) 0 := r218 (len := 1) (by decide +kernel) rfl
theorem e218_296 : amT 218 296 297 (.isub) 0 := r218 (len := 1) (by decide +kernel) rfl
theorem e218_297 : amT 218 297 298 (.laload) 0 := r218 (len := 1) (by decide +kernel) rfl
theorem e218_298 : amT 218 298 299 (.lastore) 0 := r218 (len := 1) (by decide +kernel) rfl
theorem e218_299 : amT 218 299 302 (.iinc 3 1) 0 := r218 (len := 3) (by decide +kernel) rfl
theorem e218_302 : amT 218 302 305 (.goto (-34)) 0 := r218 (len := 3) (by decide +kernel) rfl
theorem t218_302 : amTg 302 (-34) = some 268 := by decide
theorem e218_305 : amT 218 305 308 (.goto 42) 0 := r218 (len := 3) (by decide +kernel) rfl
theorem t218_305 : amTg 305 42 = some 347 := by decide
theorem e218_308 : amT 218 308 309 (.aload_n 0) 0 := r218 (len := 1) (by decide +kernel) rfl
theorem e218_309 : amT 218 309 310 (.aload_n 0) 0 := r218 (len := 1) (by decide +kernel) rfl
theorem e218_310 : amT 218 310 313 (.getfield 36) 775 := r218 (len := 3) (by decide +kernel) rfl
theorem e218_313 : amT 218 313 314 (.aload_n 0) 0 := r218 (len := 1) (by decide +kernel) rfl
theorem e218_314 : amT 218 314 317 (.getfield 32) 774 := r218 (len := 3) (by decide +kernel) rfl
theorem e218_317 : amT 218 317 320 (.invokevirtual 211) 182 := r218 (len := 3) (by decide +kernel) rfl
theorem e218_320 : amT 218 320 323 (.goto 27) 0 := r218 (len := 3) (by decide +kernel) rfl
theorem t218_320 : amTg 320 27 = some 347 := by decide
theorem e218_323 : amT 218 323 324 (.aload_n 0) 0 := r218 (len := 1) (by decide +kernel) rfl
theorem e218_324 : amT 218 324 325 (.aload_n 0) 0 := r218 (len := 1) (by decide +kernel) rfl
theorem e218_325 : amT 218 325 328 (.getfield 36) 775 := r218 (len := 3) (by decide +kernel) rfl
theorem e218_328 : amT 218 328 329 (.aload_n 0) 0 := r218 (len := 1) (by decide +kernel) rfl
theorem e218_329 : amT 218 329 332 (.getfield 39) 776 := r218 (len := 3) (by decide +kernel) rfl
theorem e218_332 : amT 218 332 333 (.aload_n 0) 0 := r218 (len := 1) (by decide +kernel) rfl
theorem e218_333 : amT 218 333 336 (.getfield 32) 774 := r218 (len := 3) (by decide +kernel) rfl
theorem e218_336 : amT 218 336 339 (.invokevirtual 195) 179 := r218 (len := 3) (by decide +kernel) rfl
theorem e218_339 : amT 218 339 342 (.goto 8) 0 := r218 (len := 3) (by decide +kernel) rfl
theorem t218_339 : amTg 339 8 = some 347 := by decide
theorem e218_342 : amT 218 342 343 (.aload_n 0) 0 := r218 (len := 1) (by decide +kernel) rfl
theorem e218_343 : amT 218 343 344 (.iload_n 2) 0 := r218 (len := 1) (by decide +kernel) rfl
theorem e218_344 : amT 218 344 347 (.invokevirtual 323) 217 := r218 (len := 3) (by decide +kernel) rfl
theorem e218_347 : amT 218 347 348 (.return_) 0 := r218 (len := 1) (by decide +kernel) rfl
theorem q219 : amCs.getD 219 [] = amC_219 := rfl
theorem r219 {pc pc' len op : Nat} {i : Instr} (h : amC_219.lookup pc = some (i, len, op)) (h2 : pc + len = pc') : amT 219 pc pc' i op := ⟨len, by unfold amEnt; rw [q219]; exact h, h2⟩
theorem e219_0 : amT 219 0 1 (.aload_n 0) 0 := r219 (len := 1) (by decide +kernel) rfl
theorem e219_1 : amT 219 1 2 (.iload_n 1) 0 := r219 (len := 1) (by decide +kernel) rfl
theorem e219_2 : amT 219 2 3 (.iload_n 2) 0 := r219 (len := 1) (by decide +kernel) rfl
theorem e219_3 : amT 219 3 4 (.iload_n 3) 0 := r219 (len := 1) (by decide +kernel) rfl
theorem e219_4 : amT 219 4 7 (.invokevirtual 326) 215 := r219 (len := 3) (by decide +kernel) rfl
theorem e219_7 : amT 219 7 10 (.ifCond .ne 5) 0 := r219 (len := 3) (by decide +kernel) rfl
theorem t219_7 : amTg 7 5 = some 12 := by decide
theorem e219_10 : amT 219 10 11 (.iconst (-1)) 0 := r219 (len := 1) (by decide +kernel) rfl
theorem e219_11 : amT 219 11 12 (.ireturn) 0 := r219 (len := 1) (by decide +kernel) rfl
theorem e219_12 : amT 219 12 13 (.aload_n 0) 0 := r219 (len := 1) (by decide +kernel) rfl
theorem e219_13 : amT 219 13 16 (.getfield 104) 770 := r219 (len := 3) (by decide +kernel) rfl
theorem e219_16 : amT 219 16 18 (.bipush 8) 0 := r219 (len := 2) (by decide +kernel) rfl
theorem e219_18 : amT 219 18 21 (.if_icmp .ne 6) 0 := r219 (len := 3) (by decide +kernel) rfl
theorem t219_18 : amTg 18 6 = some 24 := by decide
theorem e219_21 : amT 219 21 23 (.bipush (-3)) 0 := r219 (len := 2) (by decide +kernel) rfl
theorem e219_23 : amT 219 23 24 (.ireturn) 0 := r219 (len := 1) (by decide +kernel) rfl
theorem e219_24 : amT 219 24 25 (.aload_n 0) 0 := r219 (len := 1) (by decide +kernel) rfl
theorem e219_25 : amT 219 25 28 (.invokevirtual 225) 189 := r219 (len := 3) (by decide +kernel) rfl
theorem e219_28 : amT 219 28 29 (.aload_n 0) 0 := r219 (len := 1) (by decide +kernel) rfl
theorem e219_29 : amT 219 29 30 (.iload_n 2) 0 := r219 (len := 1) (by decide +kernel) rfl
theorem e219_30 : amT 219 30 31 (.aload_n 0) 0 := r219 (len := 1) (by decide +kernel) rfl
theorem e219_31 : amT 219 31 34 (.getfield 36) 775 := r219 (len := 3) (by decide +kernel) rfl
theorem e219_34 : amT 219 34 37 (.invokevirtual 148) 163 := r219 (len := 3) (by decide +kernel) rfl
theorem e219_37 : amT 219 37 38 (.iload_n 1) 0 := r219 (len := 1) (by decide +kernel) rfl
theorem e219_38 : amT 219 38 41 (.invokestatic 311) 213 := r219 (len := 3) (by decide +kernel) rfl
theorem e219_41 : amT 219 41 44 (.ifCond .eq 12) 0 := r219 (len := 3) (by decide +kernel) rfl
theorem t219_41 : amTg 41 12 = some 53 := by decide
theorem e219_44 : amT 219 44 45 (.aload_n 0) 0 := r219 (len := 1) (by decide +kernel) rfl
theorem e219_45 : amT 219 45 46 (.iload_n 3) 0 := r219 (len := 1) (by decide +kernel) rfl
theorem e219_46 : amT 219 46 47 (.aload_n 0) 0 := r219 (len := 1) (by decide +kernel) rfl
theorem e219_47 : amT 219 47 50 (.getfield 39) 776 := r219 (len := 3) (by decide +kernel) rfl
theorem e219_50 : amT 219 50 53 (.invokevirtual 148) 163 := r219 (len := 3) (by decide +kernel) rfl
theorem e219_53 : amT 219 53 54 (.aload_n 0) 0 := r219 (len := 1) (by decide +kernel) rfl
theorem e219_54 : amT 219 54 55 (.iload_n 1) 0 := r219 (len := 1) (by decide +kernel) rfl
theorem e219_55 : amT 219 55 56 (.iload_n 3) 0 := r219 (len := 1) (by decide +kernel) rfl
theorem e219_56 : amT 219 56 59 (.invokevirtual 329) 218 := r219 (len := 3) (by decide +kernel) rfl
theorem e219_59 : amT 219 59 60 (.aload_n 0) 0 := r219 (len := 1) (by decide +kernel) rfl
theorem e219_60 : amT 219 60 63 (.invokevirtual 131) 158 := r219 (len := 3) (by decide +kernel) rfl
theorem e219_63 : amT 219 63 64 (.ireturn) 0 := r219 (len := 1) (by decide +kernel) rfl
theorem q220 : amCs.getD 220 [] = amC_220 := rfl
theorem r220 {pc pc' len op : Nat} {i : Instr} (h : amC_220.lookup pc = some (i, len, op)) (h2 : pc + len = pc') : amT 220 pc pc' i op := ⟨len, by unfold amEnt; rw [q220]; exact h, h2⟩
theorem e220_0 : amT 220 0 1 (.iload_n 1) 0 := r220 (len := 1) (by decide +kernel) rfl
theorem e220_1 : amT 220 1 2 (.i2l) 0 := r220 (len := 1) (by decide +kernel) rfl
theorem e220_2 : amT 220 2 3 (.lconst 1) 0 := r220 (len := 1) (by decide +kernel) rfl
theorem e220_3 : amT 220 3 6 (.ldc2_w 332) 14 := r220 (len := 3) (by decide +kernel) rfl
theorem e220_6 : amT 220 6 9 (.invokestatic 107) 152 := r220 (len := 3) (by decide +kernel) rfl
theorem e220_9 : amT 220 9 12 (.ifCond .ne 5) 0 := r220 (len := 3) (by decide +kernel) rfl
theorem t220_9 : amTg 9 5 = some 14 := by decide
theorem e220_12 : amT 220 12 13 (.iconst (-1)) 0 := r220 (len := 1) (by decide +kernel) rfl
theorem e220_13 : amT 220 13 14 (.ireturn) 0 := r220 (len := 1) (by decide +kernel) rfl
theorem e220_14 : amT 220 14 15 (.aload_n 0) 0 := r220 (len := 1) (by decide +kernel) rfl
theorem e220_15 : amT 220 15 18 (.getfield 334) 804 := r220 (len := 3) (by decide +kernel) rfl
theorem e220_18 : amT 220 18 20 (.bipush 120) 0 := r220 (len := 2) (by decide +kernel) rfl
theorem e220_20 : amT 220 20 23 (.if_icmp .ne 6) 0 := r220 (len := 3) (by decide +kernel) rfl
theorem t220_20 : amTg 20 6 = some 26 := by decide
theorem e220_23 : amT 220 23 25 (.bipush (-3)) 0 := r220 (len := 2) (by decide +kernel) rfl
theorem e220_25 : amT 220 25 26 (.ireturn) 0 := r220 (len := 1) (by decide +kernel) rfl
theorem e220_26 : amT 220 26 27 (.aload_n 0) 0 := r220 (len := 1) (by decide +kernel) rfl
theorem e220_27 : amT 220 27 30 (.getfield 92) 803 := r220 (len := 3) (by decide +kernel) rfl
theorem e220_30 : amT 220 30 31 (.aload_n 0) 0 := r220 (len := 1) (by decide +kernel) rfl
theorem e220_31 : amT 220 31 34 (.getfield 334) 804 := r220 (len := 3) (by decide +kernel) rfl
theorem e220_34 : amT 220 34 35 (.iload_n 1) 0 := r220 (len := 1) (by decide +kernel) rfl
theorem e220_35 : amT 220 35 36 (.iastore) 0 := r220 (len := 1) (by decide +kernel) rfl
theorem e220_36 : amT 220 36 37 (.aload_n 0) 0 := r220 (len := 1) (by decide +kernel) rfl
theorem e220_37 : amT 220 37 38 (.dup) 0 := r220 (len := 1) (by decide +kernel) rfl
theorem e220_38 : amT 220 38 41 (.getfield 334) 804 := r220 (len := 3) (by decide +kernel) rfl
theorem e220_41 : amT 220 41 42 (.iconst 1) 0 := r220 (len := 1) (by decide +kernel) rfl
theorem e220_42 : amT 220 42 43 (.iadd) 0 := r220 (len := 1) (by decide +kernel) rfl
theorem e220_43 : amT 220 43 46 (.putfield 334) 804 := r220 (len := 3) (by decide +kernel) rfl
theorem e220_46 : amT 220 46 47 (.aload_n 0) 0 := r220 (len := 1) (by decide +kernel) rfl
theorem e220_47 : amT 220 47 50 (.getfield 334) 804 := r220 (len := 3) (by decide +kernel) rfl
theorem e220_50 : amT 220 50 51 (.ireturn) 0 := r220 (len := 1) (by decide +kernel) rfl
theorem q221 : amCs.getD 221 [] = amC_221 := rfl
theorem r221 {pc pc' len op : Nat} {i : Instr} (h : amC_221.lookup pc = some (i, len, op)) (h2 : pc + len = pc') : amT 221 pc pc' i op := ⟨len, by unfold amEnt; rw [q221]; exact h, h2⟩
theorem e221_0 : amT 221 0 1 (.aload_n 0) 0 := r221 (len := 1) (by decide +kernel) rfl
theorem e221_1 : amT 221 1 4 (.getfield 337) 805 := r221 (len := 3) (by decide +kernel) rfl
theorem e221_4 : amT 221 4 5 (.aload_n 0) 0 := r221 (len := 1) (by decide +kernel) rfl
theorem e221_5 : amT 221 5 8 (.getfield 334) 804 := r221 (len := 3) (by decide +kernel) rfl
theorem e221_8 : amT 221 8 11 (.if_icmp .ge 15) 0 := r221 (len := 3) (by decide +kernel) rfl
theorem t221_8 : amTg 8 15 = some 23 := by decide
theorem e221_11 : amT 221 11 12 (.aload_n 0) 0 := r221 (len := 1) (by decide +kernel) rfl
theorem e221_12 : amT 221 12 15 (.getfield 92) 803 := r221 (len := 3) (by decide +kernel) rfl
theorem e221_15 : amT 221 15 16 (.aload_n 0) 0 := r221 (len := 1) (by decide +kernel) rfl
theorem e221_16 : amT 221 16 19 (.getfield 337) 805 := r221 (len := 3) (by decide +kernel) rfl
theorem e221_19 : amT 221 19 20 (.iaload) 0 := r221 (len := 1) (by decide +kernel) rfl
theorem e221_20 : amT 221 20 23 (.goto 4) 0 := r221 (len := 3) (by decide +kernel) rfl
theorem t221_20 : amTg 20 4 = some 24 := by decide
theorem e221_23 : amT 221 23 24 (.iconst 0) 0 := r221 (len := 1) (by decide +kernel) rfl
theorem e221_24 : amT 221 24 25 (.ireturn) 0 := r221 (len := 1) (by decide +kernel) rfl
theorem q222 : amCs.getD 222 [] = amC_222 := rfl
theorem r222 {pc pc' len op : Nat} {i : Instr} (h : amC_222.lookup pc = some (i, len, op)) (h2 : pc + len = pc') : amT 222 pc pc' i op := ⟨len, by unfold amEnt; rw [q222]; exact h, h2⟩
theorem e222_0 : amT 222 0 1 (.aload_n 0) 0 := r222 (len := 1) (by decide +kernel) rfl
theorem e222_1 : amT 222 1 4 (.getfield 340) 806 := r222 (len := 3) (by decide +kernel) rfl
theorem e222_4 : amT 222 4 7 (.ifCond .eq 4) 0 := r222 (len := 3) (by decide +kernel) rfl
theorem t222_4 : amTg 4 4 = some 8 := by decide
theorem e222_7 : amT 222 7 8 (.return_) 0 := r222 (len := 1) (by decide +kernel) rfl
theorem e222_8 : amT 222 8 9 (.aload_n 0) 0 := r222 (len := 1) (by decide +kernel) rfl
theorem e222_9 : amT 222 9 10 (.iconst 1) 0 := r222 (len := 1) (by decide +kernel) rfl
theorem e222_10 : amT 222 10 13 (.putfield 340) 806 := r222 (len := 3) (by decide +kernel) rfl
theorem e222_13 : amT 222 13 14 (.aload_n 0) 0 := r222 (len := 1) (by decide +kernel) rfl
theorem e222_14 : amT 222 14 15 (.iload_n 1) 0 := r222 (len := 1) (by decide +kernel) rfl
theorem e222_15 : amT 222 15 18 (.putfield 343) 807 := r222 (len := 3) (by decide +kernel) rfl
theorem e222_18 : amT 222 18 19 (.return_) 0 := r222 (len := 1) (by decide +kernel) rfl
theorem q223 : amCs.getD 223 [] = amC_223 := rfl
theorem r223 {pc pc' len op : Nat} {i : Instr} (h : amC_223.lookup pc = some (i, len, op)) (h2 : pc + len = pc') : amT 223 pc pc' i op := ⟨len, by unfold amEnt; rw [q223]; exact h, h2⟩
theorem e223_0 : amT 223 0 1 (.aload_n 0) 0 := r223 (len := 1) (by decide +kernel) rfl
theorem e223_1 : amT 223 1 4 (.getfield 337) 805 := r223 (len := 3) (by decide +kernel) rfl
theorem e223_4 : amT 223 4 5 (.istore_n 2) 0 := r223 (len := 1) (by decide +kernel) rfl
theorem e223_5 : amT 223 5 6 (.aload_n 0) 0 := r223 (len := 1) (by decide +kernel) rfl
theorem e223_6 : amT 223 6 9 (.invokevirtual 346) 221 := r223 (len := 3) (by decide +kernel) rfl
theorem e223_9 : amT 223 9 10 (.i2l) 0 := r223 (len := 1) (by decide +kernel) rfl
theorem e223_10 : amT 223 10 13 (.ldc2_w 349) 15 := r223 (len := 3) (by decide +kernel) rfl
theorem e223_13 : amT 223 13 16 (.ldc2_w 351) 16 := r223 (len := 3) (by decide +kernel) rfl
theorem e223_16 : amT 223 16 19 (.invokestatic 107) 152 := r223 (len := 3) (by decide +kernel) rfl
theorem e223_19 : amT 223 19 20 (.istore_n 3) 0 := r223 (len := 1) (by decide +kernel) rfl
theorem e223_20 : amT 223 20 21 (.iconst 0) 0 := r223 (len := 1) (by decide +kernel) rfl
theorem e223_21 : amT 223 21 23 (.istore 4) 0 := r223 (len := 2) (by decide +kernel) rfl
theorem e223_23 : amT 223 23 24 (.iconst 0) 0 := r223 (len := 1) (by decide +kernel) rfl
theorem e223_24 : amT 223 24 26 (.istore 5) 0 := r223 (len := 2) (by decide +kernel) rfl
theorem e223_26 : amT 223 26 28 (.iload 5) 0 := r223 (len := 2) (by decide +kernel) rfl
theorem e223_28 : amT 223 28 29 (.iconst 3) 0 := r223 (len := 1) (by decide +kernel) rfl
theorem e223_29 : amT 223 29 32 (.if_icmp .ge 60) 0 := r223 (len := 3) (by decide +kernel) rfl
theorem t223_29 : amTg 29 60 = some 89 := by decide
theorem e223_32 : amT 223 32 33 (.iload_n 3) 0 := r223 (len := 1) (by decide +kernel) rfl
theorem e223_33 : amT 223 33 36 (.ifCond .eq 56) 0 := r223 (len := 3) (by decide +kernel) rfl
theorem t223_33 : amTg 33 56 = some 89 := by decide
theorem e223_36 : amT 223 36 37 (.aload_n 0) 0 := r223 (len := 1) (by decide +kernel) rfl
theorem e223_37 : amT 223 37 40 (.invokevirtual 346) 221 := r223 (len := 3) (by decide +kernel) rfl
theorem e223_40 : amT 223 40 41 (.i2l) 0 := r223 (len := 1) (by decide +kernel) rfl
theorem e223_41 : amT 223 41 44 (.ldc2_w 353) 17 := r223 (len := 3) (by decide +kernel) rfl
theorem e223_44 : amT 223 44 47 (.ldc2_w 351) 16 := r223 (len := 3) (by decide +kernel) rfl
theorem e223_47 : amT 223 47 50 (.invokestatic 107) 152 := r223 (len := 3) (by decide +kernel) rfl
theorem e223_50 : amT 223 50 53 (.ifCond .eq 39) 0 := r223 (len := 3) (by decide +kernel) rfl
theorem t223_50 : amTg 50 39 = some 89 := by decide
theorem e223_53 : amT 223 53 55 (.bipush 10) 0 := r223 (len := 2) (by decide +kernel) rfl
theorem e223_55 : amT 223 55 57 (.iload 4) 0 := r223 (len := 2) (by decide +kernel) rfl
theorem e223_57 : amT 223 57 58 (.imul) 0 := r223 (len := 1) (by decide +kernel) rfl
theorem e223_58 : amT 223 58 59 (.aload_n 0) 0 := r223 (len := 1) (by decide +kernel) rfl
theorem e223_59 : amT 223 59 62 (.getfield 92) 803 := r223 (len := 3) (by decide +kernel) rfl
theorem e223_62 : amT 223 62 63 (.aload_n 0) 0 := r223 (len := 1) (by decide +kernel) rfl
theorem e223_63 : amT 223 63 66 (.getfield 337) 805 := r223 (len := 3) (by decide +kernel) rfl
theorem e223_66 : amT 223 66 67 (.iaload) 0 := r223 (len := 1) (by decide +kernel) rfl
theorem e223_67 : amT 223 67 68 (.iadd) 0 := r223 (len := 1) (by decide +kernel) rfl
theorem e223_68 : amT 223 68 70 (.bipush 48) 0 := r223 (len := 2) (by decide +kernel) rfl
theorem e223_70 : amT 223 70 71 (.isub) 0 := r223 (len := 1) (by decide +kernel) rfl
theorem e223_71 : amT 223 71 73 (.istore 4) 0 := r223 (len := 2) (by decide +kernel) rfl
theorem e223_73 : amT 223 73 74 (.aload_n 0) 0 := r223 (len := 1) (by decide +kernel) rfl
theorem e223_74 : amT 223 74 75 (.dup) 0 := r223 (len := 1) (by decide +kernel) rfl
theorem e223_75 : amT 223 75 78 (.getfield 337) 805 := r223 (len := 3) (by decide +kernel) rfl
theorem e223_78 : amT 223 78 79 (.iconst 1) 0 := r223 (len := 1) (by decide +kernel) rfl
theorem e223_79 : amT 223 79 80 (.iadd) 0 := r223 (len := 1) (by decide +kernel) rfl
theorem e223_80 : amT 223 80 83 (.putfield 337) 805 := r223 (len := 3) (by decide +kernel) rfl
theorem e223_83 : amT 223 83 86 (.iinc 5 1) 0 := r223 (len := 3) (by decide +kernel) rfl
theorem e223_86 : amT 223 86 89 (.goto (-60)) 0 := r223 (len := 3) (by decide +kernel) rfl
theorem t223_86 : amTg 86 (-60) = some 26 := by decide
theorem e223_89 : amT 223 89 90 (.aload_n 0) 0 := r223 (len := 1) (by decide +kernel) rfl
theorem e223_90 : amT 223 90 93 (.invokevirtual 346) 221 := r223 (len := 3) (by decide +kernel) rfl
theorem e223_93 : amT 223 93 95 (.bipush 120) 0 := r223 (len := 2) (by decide +kernel) rfl
theorem e223_95 : amT 223 95 98 (.if_icmp .ne 7) 0 := r223 (len := 3) (by decide +kernel) rfl
theorem t223_95 : amTg 95 7 = some 102 := by decide
theorem e223_98 : amT 223 98 99 (.iconst 1) 0 := r223 (len := 1) (by decide +kernel) rfl
theorem e223_99 : amT 223 99 102 (.goto 4) 0 := r223 (len := 3) (by decide +kernel) rfl
theorem t223_99 : amTg 99 4 = some 103 := by decide
theorem e223_102 : amT 223 102 103 (.iconst 0) 0 := r223 (len := 1) (by decide +kernel) rfl
theorem e223_103 : amT 223 103 105 (.istore 5) 0 := r223 (len := 2) (by decide +kernel) rfl
theorem e223_105 : amT 223 105 106 (.iload_n 3) 0 := r223 (len := 1) (by decide +kernel) rfl
theorem e223_106 : amT 223 106 109 (.ifCond .ne 17) 0 := r223 (len := 3) (by decide +kernel) rfl
theorem t223_106 : amTg 106 17 = some 123 := by decide
theorem e223_109 : amT 223 109 111 (.iload 5) 0 := r223 (len := 2) (by decide +kernel) rfl
theorem e223_111 : amT 223 111 114 (.ifCond .ne 12) 0 := r223 (len := 3) (by decide +kernel) rfl
theorem t223_111 : amTg 111 12 = some 123 := by decide
theorem e223_114 : amT 223 114 115 (.aload_n 0) 0 := r223 (len := 1) (by decide +kernel) rfl
theorem e223_115 : amT 223 115 116 (.aload_n 0) 0 := r223 (len := 1) (by decide +kernel) rfl
theorem e223_116 : amT 223 116 119 (.getfield 337) 805 := r223 (len := 3) (by decide +kernel) rfl
theorem e223_119 : amT 223 119 122 (.invokevirtual 355) 222 := r223 (len := 3) (by decide +kernel) rfl
theorem e223_122 : amT 223 122 123 (.return_) 0 := r223 (len := 1) (by decide +kernel) rfl
theorem e223_123 : amT 223 123 124 (.iconst 0) 0 := r223 (len := 1) (by decide +kernel) rfl
theorem e223_124 : amT 223 124 126 (.istore 6) 0 := r223 (len := 2) (by decide +kernel) rfl
theorem e223_126 : amT 223 126 128 (.iload 5) 0 := r223 (len := 2) (by decide +kernel) rfl
theorem e223_128 : amT 223 128 131 (.ifCond .eq 85) 0 := r223 (len := 3) (by decide +kernel) rfl
theorem t223_128 : amTg 128 85 = some 213 := by decide
theorem e223_131 : amT 223 131 132 (.aload_n 0) 0 := r223 (len := 1) (by decide +kernel) rfl
theorem e223_132 : amT 223 132 133 (.dup) 0 := r223 (len := 1) (by decide +kernel) rfl
theorem e223_133 : amT 223 133 136 (.getfield 337) 805 := r223 (len := 3) (by decide +kernel) rfl
theorem e223_136 : amT 223 136 137 (.iconst 1) 0 := r223 (len := 1) (by decide +kernel) rfl
theorem e223_137 : amT 223 137 138 (.iadd) 0 := r223 (len := 1) (by decide +kernel) rfl
theorem e223_138 : amT 223 138 141 (.putfield 337) 805 := r223 (len := 3) (by decide +kernel) rfl
theorem e223_141 : amT 223 141 142 (.iconst 1) 0 := r223 (len := 1) (by decide +kernel) rfl
theorem e223_142 : amT 223 142 144 (.istore 6) 0 := r223 (len := 2) (by decide +kernel) rfl
theorem e223_144 : amT 223 144 145 (.aload_n 0) 0 := r223 (len := 1) (by decide +kernel) rfl
theorem e223_145 : amT 223 145 148 (.invokevirtual 346) 221 := r223 (len := 3) (by decide +kernel) rfl
theorem e223_148 : amT 223 148 150 (.bipush 94) 0 := r223 (len := 2) (by decide +kernel) rfl
theorem e223_150 : amT 223 150 153 (.if_icmp .ne 63) 0 := r223 (len := 3) (by decide +kernel) rfl
theorem t223_150 : amTg 150 63 = some 213 := by decide
theorem e223_153 : amT 223 153 154 (.aload_n 0) 0 := r223 (len := 1) (by decide +kernel) rfl
theorem e223_154 : amT 223 154 155 (.dup) 0 := r223 (len := 1) (by decide +kernel) rfl
theorem e223_155 : amT 223 155 158 (.getfield 337) 805 := r223 (len := 3) (by decide +kernel) rfl
theorem e223_158 : amT 223 158 159 (.iconst 1) 0 := r223 (len := 1) (by decide +kernel) rfl
theorem e223_159 : amT 223 159 160 (.iadd) 0 := r223 (len := 1) (by decide +kernel) rfl
theorem e223_160 : amT 223 160 163 (.putfield 337) 805 := r223 (len := 3) (by decide +kernel) rfl
theorem e223_163 : amT 223 163 164 (.aload_n 0) 0 := r223 (len := 1) (by decide +kernel) rfl
theorem e223_164 : amT 223 164 167 (.invokevirtual 346) 221 := r223 (len := 3) (by decide +kernel) rfl
theorem e223_167 : amT 223 167 168 (.i2l) 0 := r223 (len := 1) (by decide +kernel) rfl
theorem e223_168 : amT 223 168 171 (.ldc2_w 358) 18 := r223 (len := 3) (by decide +kernel) rfl
theorem e223_171 : amT 223 171 174 (.ldc2_w 360) 19 := r223 (len := 3) (by decide +kernel) rfl
theorem e223_174 : amT 223 174 177 (.invokestatic 107) 152 := r223 (len := 3) (by decide +kernel) rfl
theorem e223_177 : amT 223 177 180 (.ifCond .ne 12) 0 := r223 (len := 3) (by decide +kernel) rfl
theorem t223_177 : amTg 177 12 = some 189 := by decide
theorem e223_180 : amT 223 180 181 (.aload_n 0) 0 := r223 (len := 1) (by decide +kernel) rfl
theorem e223_181 : amT 223 181 182 (.aload_n 0) 0 := r223 (len := 1) (by decide +kernel) rfl
theorem e223_182 : amT 223 182 185 (.getfield 337) 805 := r223 (len := 3) (by decide +kernel) rfl
theorem e223_185 : amT 223 185 188 (.invokevirtual 355) 222 := r223 (len := 3) (by decide +kernel) rfl
theorem e223_188 : amT 223 188 189 (.return_) 0 := r223 (len := 1) (by decide +kernel) rfl
theorem e223_189 : amT 223 189 190 (.aload_n 0) 0 := r223 (len := 1) (by decide +kernel) rfl
theorem e223_190 : amT 223 190 193 (.getfield 92) 803 := r223 (len := 3) (by decide +kernel) rfl
theorem e223_193 : amT 223 193 194 (.aload_n 0) 0 := r223 (len := 1) (by decide +kernel) rfl
theorem e223_194 : amT 223 194 197 (.getfield 337) 805 := r223 (len := 3) (by decide +kernel) rfl
theorem e223_197 : amT 223 197 198 (.iaload) 0 := r223 (len := 1) (by decide +kernel) rfl
theorem e223_198 : amT 223 198 200 (.bipush 48) 0 := r223 (len := 2) (by decide +kernel) rfl
theorem e223_200 : amT 223 200 201 (.isub) 0 := r223 (len := 1) (by decide +kernel) rfl
theorem e223_201 : amT 223 201 203 (.istore 6) 0 := r223 (len := 2) (by decide +kernel) rfl
theorem e223_203 : amT 223 203 204 (.aload_n 0) 0 := r223 (len := 1) (by decide +kernel) rfl
theorem e223_204 : amT 223 204 205 (.dup) 0 := r223 (len := 1) (by decide +kernel) rfl
theorem e223_205 : amT 223 205 208 (.getfield 337) 805 := r223 (len := 3) (by decide +kernel) rfl
theorem e223_208 : amT 223 208 209 (.iconst 1) 0 := r223 (len := 1) (by decide +kernel) rfl
theorem e223_209 : amT 223 209 210 (.iadd) 0 := r223 (len := 1) (by decide +kernel) rfl
theorem e223_210 : amT 223 210 213 (.putfield 337) 805 := r223 (len := 3) (by decide +kernel) rfl
theorem e223_213 : amT 223 213 215 (.iload 6) 0 := r223 (len := 2) (by decide +kernel) rfl
theorem e223_215 : amT 223 215 216 (.aload_n 0) 0 := r223 (len := 1) (by decide +kernel) rfl
theorem e223_216 : amT 223 216 219 (.getfield 362) 811 := r223 (len := 3) (by decide +kernel) rfl
theorem e223_219 : amT 223 219 222 (.if_icmp .lt 9) 0 := r223 (len := 3) (by decide +kernel) rfl
theorem t223_219 : amTg 219 9 = some 228 := by decide
theorem e223_222 : amT 223 222 223 (.aload_n 0) 0 := r223 (len := 1) (by decide +kernel) rfl
theorem e223_223 : amT 223 223 224 (.iload_n 2) 0 := r223 (len := 1) (by decide +kernel) rfl
theorem e223_224 : amT 223 224 227 (.invokevirtual 355) 222 := r223 (len := 3) (by decide +kernel) rfl
theorem e223_227 : amT 223 227 228 (.return_) 0 := r223 (len := 1) (by decide +kernel) rfl
theorem e223_228 : amT 223 228 229 (.aload_n 0) 0 := r223 (len := 1) (by decide +kernel) rfl
theorem e223_229 : amT 223 229 231 (.iload 6) 0 := r223 (len := 2) (by decide +kernel) rfl
theorem e223_231 : amT 223 231 234 (.putfield 362) 811 := r223 (len := 3) (by decide +kernel) rfl
theorem e223_234 : amT 223 234 235 (.aload_n 0) 0 := r223 (len := 1) (by decide +kernel) rfl
theorem e223_235 : amT 223 235 238 (.getfield 32) 774 := r223 (len := 3) (by decide +kernel) rfl
theorem e223_238 : amT 223 238 240 (.iload 6) 0 := r223 (len := 2) (by decide +kernel) rfl
theorem e223_240 : amT 223 240 241 (.iload_n 1) 0 := r223 (len := 1) (by decide +kernel) rfl
theorem e223_241 : amT 223 241 242 (.i2l) 0 := r223 (len := 1) (by decide +kernel) rfl
theorem e223_242 : amT 223 242 243 (.iload_n 3) 0 := r223 (len := 1) (by decide +kernel) rfl
theorem e223_243 : amT 223 243 246 (.ifCond .eq 8) 0 := r223 (len := 3) (by decide +kernel) rfl
theorem t223_243 : amTg 243 8 = some 251 := by decide
theorem e223_246 : amT 223 246 248 (.iload 4) 0 := r223 (len := 2) (by decide +kernel) rfl
theorem e223_248 : amT 223 248 251 (.goto 4) 0 := r223 (len := 3) (by decide +kernel) rfl
theorem t223_248 : amTg 248 4 = some 252 := by decide
theorem e223_251 : amT 223 251 252 (.iconst 1) 0 := r223 (len := 1) (by decide +kernel) rfl
theorem e223_252 : amT 223 252 253 (.i2l) 0 := r223 (len := 1) (by decide +kernel) rfl
theorem e223_253 : amT 223 253 254 (.lmul) 0 := r223 (len := 1) (by decide +kernel) rfl
theorem e223_254 : amT 223 254 255 (.lastore) 0 := r223 (len := 1) (by decide +kernel) rfl
theorem e223_255 : amT 223 255 256 (.return_) 0 := r223 (len := 1) (by decide +kernel) rfl
theorem q224 : amCs.getD 224 [] = amC_224 := rfl
theorem r224 {pc pc' len op : Nat} {i : Instr} (h : amC_224.lookup pc = some (i, len, op)) (h2 : pc + len = pc') : amT 224 pc pc' i op := ⟨len, by unfold amEnt; rw [q224]; exact h, h2⟩
theorem e224_0 : amT 224 0 1 (.aload_n 0) 0 := r224 (len := 1) (by decide +kernel) rfl
theorem e224_1 : amT 224 1 4 (.getfield 32) 774 := r224 (len := 3) (by decide +kernel) rfl
theorem e224_4 : amT 224 4 7 (.invokestatic 127) 171 := r224 (len := 3) (by decide +kernel) rfl
theorem e224_7 : amT 224 7 8 (.aload_n 0) 0 := r224 (len := 1) (by decide +kernel) rfl
theorem e224_8 : amT 224 8 9 (.iconst 5) 0 := r224 (len := 1) (by decide +kernel) rfl
theorem e224_9 : amT 224 9 12 (.putfield 362) 811 := r224 (len := 3) (by decide +kernel) rfl
theorem e224_12 : amT 224 12 13 (.aload_n 0) 0 := r224 (len := 1) (by decide +kernel) rfl
theorem e224_13 : amT 224 13 16 (.invokevirtual 346) 221 := r224 (len := 3) (by decide +kernel) rfl
theorem e224_16 : amT 224 16 18 (.bipush 45) 0 := r224 (len := 2) (by decide +kernel) rfl
theorem e224_18 : amT 224 18 21 (.if_icmp .ne 7) 0 := r224 (len := 3) (by decide +kernel) rfl
theorem t224_18 : amTg 18 7 = some 25 := by decide
theorem e224_21 : amT 224 21 22 (.iconst 1) 0 := r224 (len := 1) (by decide +kernel) rfl
theorem e224_22 : amT 224 22 25 (.goto 4) 0 := r224 (len := 3) (by decide +kernel) rfl
theorem t224_22 : amTg 22 4 = some 26 := by decide
theorem e224_25 : amT 224 25 26 (.iconst 0) 0 := r224 (len := 1) (by decide +kernel) rfl
theorem e224_26 : amT 224 26 27 (.istore_n 1) 0 := r224 (len := 1) (by decide +kernel) rfl
theorem e224_27 : amT 224 27 28 (.iload_n 1) 0 := r224 (len := 1) (by decide +kernel) rfl
theorem e224_28 : amT 224 28 31 (.ifCond .eq 13) 0 := r224 (len := 3) (by decide +kernel) rfl
theorem t224_28 : amTg 28 13 = some 41 := by decide
theorem e224_31 : amT 224 31 32 (.aload_n 0) 0 := r224 (len := 1) (by decide +kernel) rfl
theorem e224_32 : amT 224 32 33 (.dup) 0 := r224 (len := 1) (by decide +kernel) rfl
theorem e224_33 : amT 224 33 36 (.getfield 337) 805 := r224 (len := 3) (by decide +kernel) rfl
theorem e224_36 : amT 224 36 37 (.iconst 1) 0 := r224 (len := 1) (by decide +kernel) rfl
theorem e224_37 : amT 224 37 38 (.iadd) 0 := r224 (len := 1) (by decide +kernel) rfl
theorem e224_38 : amT 224 38 41 (.putfield 337) 805 := r224 (len := 3) (by decide +kernel) rfl
theorem e224_41 : amT 224 41 42 (.aload_n 0) 0 := r224 (len := 1) (by decide +kernel) rfl
theorem e224_42 : amT 224 42 43 (.iload_n 1) 0 := r224 (len := 1) (by decide +kernel) rfl
theorem e224_43 : amT 224 43 46 (.ifCond .eq 7) 0 := r224 (len := 3) (by decide +kernel) rfl
theorem t224_43 : amTg 43 7 = some 50 := by decide
theorem e224_46 : amT 224 46 47 (.iconst (-1)) 0 := r224 (len := 1) (by decide +kernel) rfl
theorem e224_47 : amT 224 47 50 (.goto 4) 0 := r224 (len := 3) (by decide +kernel) rfl
theorem t224_47 : amTg 47 4 = some 51 := by decide
theorem e224_50 : amT 224 50 51 (.iconst 1) 0 := r224 (len := 1) (by decide +kernel) rfl
theorem e224_51 : amT 224 51 54 (.invokevirtual 365) 223 := r224 (len := 3) (by decide +kernel) rfl
theorem e224_54 : amT 224 54 55 (.aload_n 0) 0 := r224 (len := 1) (by decide +kernel) rfl
theorem e224_55 : amT 224 55 58 (.getfield 340) 806 := r224 (len := 3) (by decide +kernel) rfl
theorem e224_58 : amT 224 58 61 (.ifCond .ne 54) 0 := r224 (len := 3) (by decide +kernel) rfl
theorem t224_58 : amTg 58 54 = some 112 := by decide
theorem e224_61 : amT 224 61 62 (.aload_n 0) 0 := r224 (len := 1) (by decide +kernel) rfl
theorem e224_62 : amT 224 62 65 (.invokevirtual 346) 221 := r224 (len := 3) (by decide +kernel) rfl
theorem e224_65 : amT 224 65 67 (.bipush 43) 0 := r224 (len := 2) (by decide +kernel) rfl
theorem e224_67 : amT 224 67 70 (.if_icmp .eq 12) 0 := r224 (len := 3) (by decide +kernel) rfl
theorem t224_67 : amTg 67 12 = some 79 := by decide
theorem e224_70 : amT 224 70 71 (.aload_n 0) 0 := r224 (len := 1) (by decide +kernel) rfl
theorem e224_71 : amT 224 71 74 (.invokevirtual 346) 221 := r224 (len := 3) (by decide +kernel) rfl
theorem e224_74 : amT 224 74 76 (.bipush 45) 0 := r224 (len := 2) (by decide +kernel) rfl
theorem e224_76 : amT 224 76 79 (.if_icmp .ne 36) 0 := r224 (len := 3) (by decide +kernel) rfl
theorem t224_76 : amTg 76 36 = some 112 := by decide
theorem e224_79 : amT 224 79 80 (.aload_n 0) 0 := r224 (len := 1) (by decide +kernel) rfl
theorem e224_80 : amT 224 80 83 (.invokevirtual 346) 221 := r224 (len := 3) (by decide +kernel) rfl
theorem e224_83 : amT 224 83 85 (.bipush 43) 0 := r224 (len := 2) (by decide +kernel) rfl
theorem e224_85 : amT 224 85 88 (.if_icmp .ne 7) 0 := r224 (len := 3) (by decide +kernel) rfl
theorem t224_85 : amTg 85 7 = some 92 := by decide
theorem e224_88 : amT 224 88 89 (.iconst 1) 0 := r224 (len := 1) (by decide +kernel) rfl
theorem e224_89 : amT 224 89 92 (.goto 4) 0 := r224 (len := 3) (by decide +kernel) rfl
theorem t224_89 : amTg 89 4 = some 93 := by decide
theorem e224_92 : amT 224 92 93 (.iconst (-1)) 0 := r224 (len := 1) (by decide +kernel) rfl
theorem e224_93 : amT 224 93 94 (.istore_n 2) 0 := r224 (len := 1) (by decide +kernel) rfl
theorem e224_94 : amT 224 94 95 (.aload_n 0) 0 := r224 (len := 1) (by decide +kernel) rfl
theorem e224_95 : amT 224 95 96 (.dup) 0 := r224 (len := 1) (by decide +kernel) rfl
theorem e224_96 : amT 224 96 99 (.getfield 337) 805 := r224 (len := 3) (by decide +kernel) rfl
theorem e224_99 : amT 224 99 100 (.iconst 1) 0 := r224 (len := 1) (by decide +kernel) rfl
theorem e224_100 : amT 224 100 101 (.iadd) 0 := r224 (len := 1) (by decide +kernel) rfl
theorem e224_101 : amT 224 101 104 (.putfield 337) 805 := r224 (len := 3) (by decide +kernel) rfl
theorem e224_104 : amT 224 104 105 (.aload_n 0) 0 := r224 (len := 1) (by decide +kernel) rfl
theorem e224_105 : amT 224 105 106 (.iload_n 2) 0 := r224 (len := 1) (by decide +kernel) rfl
theorem e224_106 : amT 224 106 109 (.invokevirtual 365) 223 := r224 (len := 3) (by decide +kernel) rfl
theorem e224_109 : amT 224 109 112 (.goto (-55)) 0 := r224 (len := 3) (by decide +kernel) rfl
theorem t224_109 : amTg 109 (-55) = some 54 := by decide
theorem e224_112 : amT 224 112 113 (.return_) 0 := r224 (len := 1) (by decide +kernel) rfl
theorem q225 : amCs.getD 225 [] = amC_225 := rfl
theorem r225 {pc pc' len op : Nat} {i : Instr} (h : amC_225.lookup pc = some (i, len, op)) (h2 : pc + len = pc') : amT 225 pc pc' i op := ⟨len, by unfold amEnt; rw [q225]; exact h, h2⟩
theorem e225_0 : amT 225 0 1 (.aload_n 0) 0 := r225 (len := 1) (by decide +kernel) rfl
theorem e225_1 : amT 225 1 2 (.iload_n 1) 0 := r225 (len := 1) (by decide +kernel) rfl
theorem e225_2 : amT 225 2 3 (.iconst 0) 0 := r225 (len := 1) (by decide +kernel) rfl
theorem e225_3 : amT 225 3 4 (.iload_n 2) 0 := r225 (len := 1) (by decide +kernel) rfl
theorem e225_4 : amT 225 4 7 (.invokevirtual 368) 226 := r225 (len := 3) (by decide +kernel) rfl
theorem e225_7 : amT 225 7 10 (.ifCond .eq 84) 0 := r225 (len := 3) (by decide +kernel) rfl
theorem t225_7 : amTg 7 84 = some 91 := by decide
theorem e225_10 : amT 225 10 11 (.aload_n 0) 0 := r225 (len := 1) (by decide +kernel) rfl
theorem e225_11 : amT 225 11 12 (.iload_n 1) 0 := r225 (len := 1) (by decide +kernel) rfl
theorem e225_12 : amT 225 12 13 (.iconst 1) 0 := r225 (len := 1) (by decide +kernel) rfl
theorem e225_13 : amT 225 13 14 (.iload_n 3) 0 := r225 (len := 1) (by decide +kernel) rfl
theorem e225_14 : amT 225 14 17 (.invokevirtual 368) 226 := r225 (len := 3) (by decide +kernel) rfl
theorem e225_17 : amT 225 17 20 (.ifCond .eq 74) 0 := r225 (len := 3) (by decide +kernel) rfl
theorem t225_17 : amTg 17 74 = some 91 := by decide
theorem e225_20 : amT 225 20 21 (.aload_n 0) 0 := r225 (len := 1) (by decide +kernel) rfl
theorem e225_21 : amT 225 21 22 (.iload_n 1) 0 := r225 (len := 1) (by decide +kernel) rfl
theorem e225_22 : amT 225 22 23 (.iconst 2) 0 := r225 (len := 1) (by decide +kernel) rfl
theorem e225_23 : amT 225 23 25 (.iload 4) 0 := r225 (len := 2) (by decide +kernel) rfl
theorem e225_25 : amT 225 25 28 (.invokevirtual 368) 226 := r225 (len := 3) (by decide +kernel) rfl
theorem e225_28 : amT 225 28 31 (.ifCond .eq 63) 0 := r225 (len := 3) (by decide +kernel) rfl
theorem t225_28 : amTg 28 63 = some 91 := by decide
theorem e225_31 : amT 225 31 32 (.aload_n 0) 0 := r225 (len := 1) (by decide +kernel) rfl
theorem e225_32 : amT 225 32 33 (.iload_n 1) 0 := r225 (len := 1) (by decide +kernel) rfl
theorem e225_33 : amT 225 33 34 (.iconst 3) 0 := r225 (len := 1) (by decide +kernel) rfl
theorem e225_34 : amT 225 34 36 (.iload 5) 0 := r225 (len := 2) (by decide +kernel) rfl
theorem e225_36 : amT 225 36 39 (.invokevirtual 368) 226 := r225 (len := 3) (by decide +kernel) rfl
theorem e225_39 : amT 225 39 42 (.ifCond .eq 52) 0 := r225 (len := 3) (by decide +kernel) rfl
theorem t225_39 : amTg 39 52 = some 91 := by decide
theorem e225_42 : amT 225 42 43 (.aload_n 0) 0 := r225 (len := 1) (by decide +kernel) rfl
theorem e225_43 : amT 225 43 44 (.iload_n 1) 0 := r225 (len := 1) (by decide +kernel) rfl
theorem e225_44 : amT 225 44 45 (.iconst 4) 0 := r225 (len := 1) (by decide +kernel) rfl
theorem e225_45 : amT 225 45 47 (.iload 6) 0 := r225 (len := 2) (by decide +kernel) rfl
theorem e225_47 : amT 225 47 50 (.invokevirtual 368) 226 := r225 (len := 3) (by decide +kernel) rfl
theorem e225_50 : amT 225 50 53 (.ifCond .eq 41) 0 := r225 (len := 3) (by decide +kernel) rfl
theorem t225_50 : amTg 50 41 = some 91 := by decide
theorem e225_53 : amT 225 53 54 (.aload_n 0) 0 := r225 (len := 1) (by decide +kernel) rfl
theorem e225_54 : amT 225 54 55 (.iload_n 1) 0 := r225 (len := 1) (by decide +kernel) rfl
theorem e225_55 : amT 225 55 56 (.iconst 5) 0 := r225 (len := 1) (by decide +kernel) rfl
theorem e225_56 : amT 225 56 58 (.iload 7) 0 := r225 (len := 2) (by decide +kernel) rfl
theorem e225_58 : amT 225 58 61 (.invokevirtual 368) 226 := r225 (len := 3) (by decide +kernel) rfl
theorem e225_61 : amT 225 61 64 (.ifCond .eq 30) 0 := r225 (len := 3) (by decide +kernel) rfl
theorem t225_61 : amTg 61 30 = some 91 := by decide
theorem e225_64 : amT 225 64 65 (.aload_n 0) 0 := r225 (len := 1) (by decide +kernel) rfl
theorem e225_65 : amT 225 65 66 (.iload_n 1) 0 := r225 (len := 1) (by decide +kernel) rfl
theorem e225_66 : amT 225 66 68 (.bipush 6) 0 := r225 (len := 2) (by decide +kernel) rfl
theorem e225_68 : amT 225 68 70 (.iload 8) 0 := r225 (len := 2) (by decide +kernel) rfl
theorem e225_70 : amT 225 70 73 (.invokevirtual 368) 226 := r225 (len := 3) (by decide +kernel) rfl
theorem e225_73 : amT 225 73 76 (.ifCond .eq 18) 0 := r225 (len := 3) (by decide +kernel) rfl
theorem t225_73 : amTg 73 18 = some 91 := by decide
theorem e225_76 : amT 225 76 77 (.aload_n 0) 0 := r225 (len := 1) (by decide +kernel) rfl
theorem e225_77 : amT 225 77 80 (.getfield 337) 805 := r225 (len := 3) (by decide +kernel) rfl
theorem e225_80 : amT 225 80 81 (.iload_n 1) 0 := r225 (len := 1) (by decide +kernel) rfl
theorem e225_81 : amT 225 81 82 (.isub) 0 := r225 (len := 1) (by decide +kernel) rfl
theorem e225_82 : amT 225 82 84 (.bipush 7) 0 := r225 (len := 2) (by decide +kernel) rfl
theorem e225_84 : amT 225 84 87 (.if_icmp .gt 7) 0 := r225 (len := 3) (by decide +kernel) rfl
theorem t225_84 : amTg 84 7 = some 91 := by decide
theorem e225_87 : amT 225 87 88 (.iconst 1) 0 := r225 (len := 1) (by decide +kernel) rfl
theorem e225_88 : amT 225 88 91 (.goto 4) 0 := r225 (len := 3) (by decide +kernel) rfl
theorem t225_88 : amTg 88 4 = some 92 := by decide
theorem e225_91 : amT 225 91 92 (.iconst 0) 0 := r225 (len := 1) (by decide +kernel) rfl
theorem e225_92 : amT 225 92 93 (.ireturn) 0 := r225 (len := 1) (by decide +kernel) rfl
theorem q226 : amCs.getD 226 [] = amC_226 := rfl
theorem r226 {pc pc' len op : Nat} {i : Instr} (h : amC_226.lookup pc = some (i, len, op)) (h2 : pc + len = pc') : amT 226 pc pc' i op := ⟨len, by unfold amEnt; rw [q226]; exact h, h2⟩
theorem e226_0 : amT 226 0 1 (.iload_n 1) 0 := r226 (len := 1) (by decide +kernel) rfl
theorem e226_1 : amT 226 1 2 (.iload_n 2) 0 := r226 (len := 1) (by decide +kernel) rfl
theorem e226_2 : amT 226 2 3 (.iadd) 0 := r226 (len := 1) (by decide +kernel) rfl
theorem e226_3 : amT 226 3 4 (.aload_n 0) 0 := r226 (len := 1) (by decide +kernel) rfl
theorem e226_4 : amT 226 4 7 (.getfield 337) 805 := r226 (len := 3) (by decide +kernel) rfl
theorem e226_7 : amT 226 7 10 (.if_icmp .ge 23) 0 := r226 (len := 3) (by decide +kernel) rfl
theorem t226_7 : amTg 7 23 = some 30 := by decide
theorem e226_10 : amT 226 10 11 (.aload_n 0) 0 := r226 (len := 1) (by decide +kernel) rfl
theorem e226_11 : amT 226 11 14 (.getfield 92) 803 := r226 (len := 3) (by decide +kernel) rfl
theorem e226_14 : amT 226 14 15 (.iload_n 1) 0 := r226 (len := 1) (by decide +kernel) rfl
theorem e226_15 : amT 226 15 16 (.iload_n 2) 0 := r226 (len := 1) (by decide +kernel) rfl
theorem e226_16 : amT 226 16 17 (.iadd) 0 := r226 (len := 1) (by decide +kernel) rfl
theorem e226_17 : amT 226 17 18 (.iaload) 0 := r226 (len := 1) (by decide +kernel) rfl
theorem e226_18 : amT 226 18 19 (.iload_n 3) 0 := r226 (len := 1) (by decide +kernel) rfl
theorem e226_19 : amT 226 19 22 (.if_icmp .ne 7) 0 := r226 (len := 3) (by decide +kernel) rfl
theorem t226_19 : amTg 19 7 = some 26 := by decide
theorem e226_22 : amT 226 22 23 (.iconst 1) 0 := r226 (len := 1) (by decide +kernel) rfl
theorem e226_23 : amT 226 23 26 (.goto 16) 0 := r226 (len := 3) (by decide +kernel) rfl
theorem t226_23 : amTg 23 16 = some 39 := by decide
theorem e226_26 : amT 226 26 27 (.iconst 0) 0 := r226 (len := 1) (by decide +kernel) rfl
theorem e226_27 : amT 226 27 30 (.goto 12) 0 := r226 (len := 3) (by decide +kernel) rfl
theorem t226_27 : amTg 27 12 = some 39 := by decide
theorem e226_30 : amT 226 30 31 (.iload_n 3) 0 := r226 (len := 1) (by decide +kernel) rfl
theorem e226_31 : amT 226 31 34 (.ifCond .ne 7) 0 := r226 (len := 3) (by decide +kernel) rfl
theorem t226_31 : amTg 31 7 = some 38 := by decide
theorem e226_34 : amT 226 34 35 (.iconst 1) 0 := r226 (len := 1) (by decide +kernel) rfl
theorem e226_35 : amT 226 35 38 (.goto 4) 0 := r226 (len := 3) (by decide +kernel) rfl
theorem t226_35 : amTg 35 4 = some 39 := by decide
theorem e226_38 : amT 226 38 39 (.iconst 0) 0 := r226 (len := 1) (by decide +kernel) rfl
theorem e226_39 : amT 226 39 40 (.ireturn) 0 := r226 (len := 1) (by decide +kernel) rfl
theorem q227 : amCs.getD 227 [] = amC_227 := rfl
theorem r227 {pc pc' len op : Nat} {i : Instr} (h : amC_227.lookup pc = some (i, len, op)) (h2 : pc + len = pc') : amT 227 pc pc' i op := ⟨len, by unfold amEnt; rw [q227]; exact h, h2⟩
theorem e227_0 : amT 227 0 1 (.aload_n 0) 0 := r227 (len := 1) (by decide +kernel) rfl
theorem e227_1 : amT 227 1 2 (.iload_n 1) 0 := r227 (len := 1) (by decide +kernel) rfl
theorem e227_2 : amT 227 2 4 (.bipush 115) 0 := r227 (len := 2) (by decide +kernel) rfl
theorem e227_4 : amT 227 4 6 (.bipush 117) 0 := r227 (len := 2) (by decide +kernel) rfl
theorem e227_6 : amT 227 6 8 (.bipush 109) 0 := r227 (len := 2) (by decide +kernel) rfl
theorem e227_8 : amT 227 8 9 (.iconst 0) 0 := r227 (len := 1) (by decide +kernel) rfl
theorem e227_9 : amT 227 9 10 (.iconst 0) 0 := r227 (len := 1) (by decide +kernel) rfl
theorem e227_10 : amT 227 10 11 (.iconst 0) 0 := r227 (len := 1) (by decide +kernel) rfl
theorem e227_11 : amT 227 11 12 (.iconst 0) 0 := r227 (len := 1) (by decide +kernel) rfl
theorem e227_12 : amT 227 12 15 (.invokevirtual 371) 225 := r227 (len := 3) (by decide +kernel) rfl
theorem e227_15 : amT 227 15 18 (.ifCond .eq 5) 0 := r227 (len := 3) (by decide +kernel) rfl
theorem t227_15 : amTg 15 5 = some 20 := by decide
theorem e227_18 : amT 227 18 19 (.iconst 0) 0 := r227 (len := 1) (by decide +kernel) rfl
theorem e227_19 : amT 227 19 20 (.ireturn) 0 := r227 (len := 1) (by decide +kernel) rfl
theorem e227_20 : amT 227 20 21 (.aload_n 0) 0 := r227 (len := 1) (by decide +kernel) rfl
theorem e227_21 : amT 227 21 22 (.iload_n 1) 0 := r227 (len := 1) (by decide +kernel) rfl
theorem e227_22 : amT 227 22 24 (.bipush 112) 0 := r227 (len := 2) (by decide +kernel) rfl
theorem e227_24 : amT 227 24 26 (.bipush 114) 0 := r227 (len := 2) (by decide +kernel) rfl
theorem e227_26 : amT 227 26 28 (.bipush 111) 0 := r227 (len := 2) (by decide +kernel) rfl
theorem e227_28 : amT 227 28 30 (.bipush 100) 0 := r227 (len := 2) (by decide +kernel) rfl
theorem e227_30 : amT 227 30 32 (.bipush 117) 0 := r227 (len := 2) (by decide +kernel) rfl
theorem e227_32 : amT 227 32 34 (.bipush 99) 0 := r227 (len := 2) (by decide +kernel) rfl
theorem e227_34 : amT 227 34 36 (.bipush 116) 0 := r227 (len := 2) (by decide +kernel) rfl
theorem e227_36 : amT 227 36 39 (.invokevirtual 371) 225 := r227 (len := 3) (by decide +kernel) rfl
theorem e227_39 : amT 227 39 42 (.ifCond .eq 5) 0 := r227 (len := 3) (by decide +kernel) rfl
theorem t227_39 : amTg 39 5 = some 44 := by decide
theorem e227_42 : amT 227 42 43 (.iconst 1) 0 := r227 (len := 1) (by decide +kernel) rfl
theorem e227_43 : amT 227 43 44 (.ireturn) 0 := r227 (len := 1) (by decide +kernel) rfl
theorem e227_44 : amT 227 44 45 (.aload_n 0) 0 := r227 (len := 1) (by decide +kernel) rfl
theorem e227_45 : amT 227 45 46 (.iload_n 1) 0 := r227 (len := 1) (by decide +kernel) rfl
theorem e227_46 : amT 227 46 48 (.bipush 108) 0 := r227 (len := 2) (by decide +kernel) rfl
theorem e227_48 : amT 227 48 50 (.bipush 101) 0 := r227 (len := 2) (by decide +kernel) rfl
theorem e227_50 : amT 227 50 52 (.bipush 115) 0 := r227 (len := 2) (by decide +kernel) rfl
theorem e227_52 : amT 227 52 54 (.bipush 115) 0 := r227 (len := 2) (by decide +kernel) rfl
theorem e227_54 : amT 227 54 55 (.iconst 0) 0 := r227 (len := 1) (by decide +kernel) rfl
theorem e227_55 : amT 227 55 56 (.iconst 0) 0 := r227 (len := 1) (by decide +kernel) rfl
theorem e227_56 : amT 227 56 57 (.iconst 0) 0 := r227 (len := 1) (by decide +kernel) rfl
theorem e227_57 : amT 227 57 60 (.invokevirtual 371) 225 := r227 (len := 3) (by decide +kernel) rfl
theorem e227_60 : amT 227 60 63 (.ifCond .eq 5) 0 := r227 (len := 3) (by decide +kernel) rfl
theorem t227_60 : amTg 60 5 = some 65 := by decide
theorem e227_63 : amT 227 63 64 (.iconst 2) 0 := r227 (len := 1) (by decide +kernel) rfl
theorem e227_64 : amT 227 64 65 (.ireturn) 0 := r227 (len := 1) (by decide +kernel) rfl
theorem e227_65 : amT 227 65 66 (.aload_n 0) 0 := r227 (len := 1) (by decide +kernel) rfl
theorem e227_66 : amT 227 66 67 (.iload_n 1) 0 := r227 (len := 1) (by decide +kernel) rfl
theorem e227_67 : amT 227 67 69 (.bipush 99) 0 := r227 (len := 2) (by decide +kernel) rfl
theorem e227_69 : amT 227 69 71 (.bipush 111) 0 := r227 (len := 2) (by decide +kernel) rfl
theorem e227_71 : amT 227 71 73 (.bipush 109) 0 := r227 (len := 2) (by decide +kernel) rfl
theorem e227_73 : amT 227 73 75 (.bipush 109) 0 := r227 (len := 2) (by decide +kernel) rfl
theorem e227_75 : amT 227 75 77 (.bipush 111) 0 := r227 (len := 2) (by decide +kernel) rfl
theorem e227_77 : amT 227 77 79 (.bipush 110) 0 := r227 (len := 2) (by decide +kernel) rfl
theorem e227_79 : amT 227 79 80 (.iconst 0) 0 := r227 (len := 1) (by decide +kernel) rfl
theorem e227_80 : amT 227 80 83 (.invokevirtual 371) 225 := r227 (len := 3) (by decide +kernel) rfl
theorem e227_83 : amT 227 83 86 (.ifCond .eq 5) 0 := r227 (len := 3) (by decide +kernel) rfl
theorem t227_83 : amTg 83 5 = some 88 := by decide
theorem e227_86 : amT 227 86 87 (.iconst 3) 0 := r227 (len := 1) (by decide +kernel) rfl
theorem e227_87 : amT 227 87 88 (.ireturn) 0 := r227 (len := 1) (by decide +kernel) rfl
theorem e227_88 : amT 227 88 89 (.aload_n 0) 0 := r227 (len := 1) (by decide +kernel) rfl
theorem e227_89 : amT 227 89 90 (.iload_n 1) 0 := r227 (len := 1) (by decide +kernel) rfl
theorem e227_90 : amT 227 90 92 (.bipush 100) 0 := r227 (len := 2) (by decide +kernel) rfl
theorem e227_92 : amT 227 92 94 (.bipush 101) 0 := r227 (len := 2) (by decide +kernel) rfl
theorem e227_94 : amT 227 94 96 (.bipush 114) 0 := r227 (len := 2) (by decide +kernel) rfl
theorem e227_96 : amT 227 96 98 (.bipush 105) 0 := r227 (len := 2) (by decide +kernel) rfl
theorem e227_98 : amT 227 98 100 (.bipush 118) 0 := r227 (len := 2) (by decide +kernel) rfl
theorem e227_100 : amT 227 100 102 (.bipush 101) 0 := r227 (len := 2) (by decide +kernel) rfl
theorem e227_102 : amT 227 102 103 (.iconst 0) 0 := r227 (len := 1) (by decide +kernel) rfl
theorem e227_103 : amT 227 103 106 (.invokevirtual 371) 225 := r227 (len := 3) (by decide +kernel) rfl
theorem e227_106 : amT 227 106 109 (.ifCond .eq 5) 0 := r227 (len := 3) (by decide +kernel) rfl
theorem t227_106 : amTg 106 5 = some 111 := by decide
theorem e227_109 : amT 227 109 110 (.iconst 4) 0 := r227 (len := 1) (by decide +kernel) rfl
theorem e227_110 : amT 227 110 111 (.ireturn) 0 := r227 (len := 1) (by decide +kernel) rfl
theorem e227_111 : amT 227 111 112 (.aload_n 0) 0 := r227 (len := 1) (by decide +kernel) rfl
theorem e227_112 : amT 227 112 113 (.iload_n 1) 0 := r227 (len := 1) (by decide +kernel) rfl
theorem e227_113 : amT 227 113 115 (.bipush 116) 0 := r227 (len := 2) (by decide +kernel) rfl
theorem e227_115 : amT 227 115 117 (.bipush 117) 0 := r227 (len := 2) (by decide +kernel) rfl
theorem e227_117 : amT 227 117 119 (.bipush 114) 0 := r227 (len := 2) (by decide +kernel) rfl
theorem e227_119 : amT 227 119 121 (.bipush 110) 0 := r227 (len := 2) (by decide +kernel) rfl
theorem e227_121 : amT 227 121 122 (.iconst 0) 0 := r227 (len := 1) (by decide +kernel) rfl
theorem e227_122 : amT 227 122 123 (.iconst 0) 0 := r227 (len := 1) (by decide +kernel) rfl
theorem e227_123 : amT 227 123 124 (.iconst 0) 0 := r227 (len := 1) (by decide +kernel) rfl
theorem e227_124 : amT 227 124 127 (.invokevirtual 371) 225 := r227 (len := 3) (by decide +kernel) rfl
theorem e227_127 : amT 227 127 130 (.ifCond .eq 5) 0 := r227 (len := 3) (by decide +kernel) rfl
theorem t227_127 : amTg 127 5 = some 132 := by decide
theorem e227_130 : amT 227 130 131 (.iconst 5) 0 := r227 (len := 1) (by decide +kernel) rfl
theorem e227_131 : amT 227 131 132 (.ireturn) 0 := r227 (len := 1) (by decide +kernel) rfl
theorem e227_132 : amT 227 132 133 (.aload_n 0) 0 := r227 (len := 1) (by decide +kernel) rfl
theorem e227_133 : amT 227 133 134 (.iload_n 1) 0 := r227 (len := 1) (by decide +kernel) rfl
theorem e227_134 : amT 227 134 136 (.bipush 115) 0 := r227 (len := 2) (by decide +kernel) rfl
theorem e227_136 : amT 227 136 138 (.bipush 104) 0 := r227 (len := 2) (by decide +kernel) rfl
theorem e227_138 : amT 227 138 140 (.bipush 105) 0 := r227 (len := 2) (by decide +kernel) rfl
theorem e227_140 : amT 227 140 142 (.bipush 102) 0 := r227 (len := 2) (by decide +kernel) rfl
theorem e227_142 : amT 227 142 144 (.bipush 116) 0 := r227 (len := 2) (by decide +kernel) rfl
theorem e227_144 : amT 227 144 145 (.iconst 0) 0 := r227 (len := 1) (by decide +kernel) rfl
theorem e227_145 : amT 227 145 146 (.iconst 0) 0 := r227 (len := 1) (by decide +kernel) rfl
theorem e227_146 : amT 227 146 149 (.invokevirtual 371) 225 := r227 (len := 3) (by decide +kernel) rfl
theorem e227_149 : amT 227 149 152 (.ifCond .eq 6) 0 := r227 (len := 3) (by decide +kernel) rfl
theorem t227_149 : amTg 149 6 = some 155 := by decide
theorem e227_152 : amT 227 152 154 (.bipush 6) 0 := r227 (len := 2) (by decide +kernel) rfl
theorem e227_154 : amT 227 154 155 (.ireturn) 0 := r227 (len := 1) (by decide +kernel) rfl
theorem e227_155 : amT 227 155 156 (.aload_n 0) 0 := r227 (len := 1) (by decide +kernel) rfl
theorem e227_156 : amT 227 156 157 (.iload_n 1) 0 := r227 (len := 1) (by decide +kernel) rfl
theorem e227_157 : amT 227 157 159 (.bipush 115) 0 := r227 (len := 2) (by decide +kernel) rfl
theorem e227_159 : amT 227 159 161 (.bipush 116) 0 := r227 (len := 2) (by decide +kernel) rfl
theorem e227_161 : amT 227 161 163 (.bipush 114) 0 := r227 (len := 2) (by decide +kernel) rfl
theorem e227_163 : amT 227 163 165 (.bipush 101) 0 := r227 (len := 2) (by decide +kernel) rfl
theorem e227_165 : amT 227 165 167 (.bipush 116) 0 := r227 (len := 2) (by decide +kernel) rfl
theorem e227_167 : amT 227 167 169 (.bipush 99) 0 := r227 (len := 2) (by decide +kernel) rfl
theorem e227_169 : amT 227 169 171 (.bipush 104) 0 := r227 (len := 2) (by decide +kernel) rfl
theorem e227_171 : amT 227 171 174 (.invokevirtual 371) 225 := r227 (len := 3) (by decide +kernel) rfl
theorem e227_174 : amT 227 174 177 (.ifCond .eq 6) 0 := r227 (len := 3) (by decide +kernel) rfl
theorem t227_174 : amTg 174 6 = some 180 := by decide
theorem e227_177 : amT 227 177 179 (.bipush 7) 0 := r227 (len := 2) (by decide +kernel) rfl
theorem e227_179 : amT 227 179 180 (.ireturn) 0 := r227 (len := 1) (by decide +kernel) rfl
theorem e227_180 : amT 227 180 181 (.aload_n 0) 0 := r227 (len := 1) (by decide +kernel) rfl
theorem e227_181 : amT 227 181 182 (.iload_n 1) 0 := r227 (len := 1) (by decide +kernel) rfl
theorem e227_182 : amT 227 182 184 (.bipush 114) 0 := r227 (len := 2) (by decide +kernel) rfl
theorem e227_184 : amT 227 184 186 (.bipush 101) 0 := r227 (len := 2) (by decide +kernel) rfl
theorem e227_186 : amT 227 186 188 (.bipush 118) 0 := r227 (len := 2) (by decide +kernel) rfl
theorem e227_188 : amT 227 188 190 (.bipush 101) 0 := r227 (len := 2) (by decide +kernel) rfl
theorem e227_190 : amT 227 190 192 (.bipush 114) 0 := r227 (len := 2) (by decide +kernel) rfl
theorem e227_192 : amT 227 192 194 (.bipush 115) 0 := r227 (len := 2) (by decide +kernel) rfl
theorem e227_194 : amT 227 194 196 (.bipush 101) 0 := r227 (len := 2) (by decide +kernel) rfl
theorem e227_196 : amT 227 196 199 (.invokevirtual 371) 225 := r227 (len := 3) (by decide +kernel) rfl
theorem e227_199 : amT 227 199 202 (.ifCond .eq 6) 0 := r227 (len := 3) (by decide +kernel) rfl
theorem t227_199 : amTg 199 6 = some 205 := by decide
theorem e227_202 : amT 227 202 204 (.bipush 8) 0 := r227 (len := 2) (by decide +kernel) rfl
theorem e227_204 : amT 227 204 205 (.ireturn) 0 := r227 (len := 1) (by decide +kernel) rfl
theorem e227_205 : amT 227 205 206 (.aload_n 0) 0 := r227 (len := 1) (by decide +kernel) rfl
theorem e227_206 : amT 227 206 207 (.iload_n 1) 0 := r227 (len := 1) (by decide +kernel) rfl
theorem e227_207 : amT 227 207 209 (.bipush 102) 0 := r227 (len := 2) (by decide +kernel) rfl
theorem e227_209 : amT 227 209 211 (.bipush 114) 0 := r227 (len := 2) (by decide +kernel) rfl
theorem e227_211 : amT 227 211 213 (.bipush 101) 0 := r227 (len := 2) (by decide +kernel) rfl
theorem e227_213 : amT 227 213 215 (.bipush 101) 0 := r227 (len := 2) (by decide +kernel) rfl
theorem e227_215 : amT 227 215 216 (.iconst 0) 0 := r227 (len := 1) (by decide +kernel) rfl
theorem e227_216 : amT 227 216 217 (.iconst 0) 0 := r227 (len := 1) (by decide +kernel) rfl
theorem e227_217 : amT 227 217 218 (.iconst 0) 0 := r227 (len := 1) (by decide +kernel) rfl
theorem e227_218 : amT 227 218 221 (.invokevirtual 371) 225 := r227 (len := 3) (by decide +kernel) rfl
theorem e227_221 : amT 227 221 224 (.ifCond .eq 6) 0 := r227 (len := 3) (by decide +kernel) rfl
theorem t227_221 : amTg 221 6 = some 227 := by decide
theorem e227_224 : amT 227 224 226 (.bipush 9) 0 := r227 (len := 2) (by decide +kernel) rfl
theorem e227_226 : amT 227 226 227 (.ireturn) 0 := r227 (len := 1) (by decide +kernel) rfl
theorem e227_227 : amT 227 227 228 (.aload_n 0) 0 := r227 (len := 1) (by decide +kernel) rfl
theorem e227_228 : amT 227 228 229 (.iload_n 1) 0 := r227 (len := 1) (by decide +kernel) rfl
theorem e227_229 : amT 227 229 231 (.bipush 114) 0 := r227 (len := 2) (by decide +kernel) rfl
theorem e227_231 : amT 227 231 233 (.bipush 101) 0 := r227 (len := 2) (by decide +kernel) rfl
theorem e227_233 : amT 227 233 235 (.bipush 115) 0 := r227 (len := 2) (by decide +kernel) rfl
theorem e227_235 : amT 227 235 237 (.bipush 116) 0 := r227 (len := 2) (by decide +kernel) rfl
theorem e227_237 : amT 227 237 238 (.iconst 0) 0 := r227 (len := 1) (by decide +kernel) rfl
theorem e227_238 : amT 227 238 239 (.iconst 0) 0 := r227 (len := 1) (by decide +kernel) rfl
theorem e227_239 : amT 227 239 240 (.iconst 0) 0 := r227 (len := 1) (by decide +kernel) rfl
theorem e227_240 : amT 227 240 243 (.invokevirtual 371) 225 := r227 (len := 3) (by decide +kernel) rfl
theorem e227_243 : amT 227 243 246 (.ifCond .eq 6) 0 := r227 (len := 3) (by decide +kernel) rfl
theorem t227_243 : amTg 243 6 = some 249 := by decide
theorem e227_246 : amT 227 246 248 (.bipush 10) 0 := r227 (len := 2) (by decide +kernel) rfl
theorem e227_248 : amT 227 248 249 (.ireturn) 0 := r227 (len := 1) (by decide +kernel) rfl
theorem e227_249 : amT 227 249 250 (.aload_n 0) 0 := r227 (len := 1) (by decide +kernel) rfl
theorem e227_250 : amT 227 250 251 (.iload_n 1) 0 := r227 (len := 1) (by decide +kernel) rfl
theorem e227_251 : amT 227 251 253 (.bipush 112) 0 := r227 (len := 2) (by decide +kernel) rfl
theorem e227_253 : amT 227 253 255 (.bipush 97) 0 := r227 (len := 2) (by decide +kernel) rfl
theorem e227_255 : amT 227 255 257 (.bipush 114) 0 := r227 (len := 2) (by decide +kernel) rfl
theorem e227_257 : amT 227 257 259 (.bipush 116) 0 := r227 (len := 2) (by decide +kernel) rfl
theorem e227_259 : amT 227 259 260 (.iconst 0) 0 := r227 (len := 1) (by decide +kernel) rfl
theorem e227_260 : amT 227 260 261 (.iconst 0) 0 := r227 (len := 1) (by decide +kernel) rfl
theorem e227_261 : amT 227 261 262 (.iconst 0) 0 := r227 (len := 1) (by decide +kernel) rfl
theorem e227_262 : amT 227 262 265 (.invokevirtual 371) 225 := r227 (len := 3) (by decide +kernel) rfl
theorem e227_265 : amT 227 265 268 (.ifCond .eq 8) 0 := r227 (len := 3) (by decide +kernel) rfl
theorem t227_265 : amTg 265 8 = some 273 := by decide
theorem e227_268 : amT 227 268 270 (.bipush 11) 0 := r227 (len := 2) (by decide +kernel) rfl
theorem e227_270 : amT 227 270 273 (.goto 4) 0 := r227 (len := 3) (by decide +kernel) rfl
theorem t227_270 : amTg 270 4 = some 274 := by decide
theorem e227_273 : amT 227 273 274 (.iconst (-1)) 0 := r227 (len := 1) (by decide +kernel) rfl
theorem e227_274 : amT 227 274 275 (.ireturn) 0 := r227 (len := 1) (by decide +kernel) rfl
theorem q228 : amCs.getD 228 [] = amC_228 := rfl
theorem r228 {pc pc' len op : Nat} {i : Instr} (h : amC_228.lookup pc = some (i, len, op)) (h2 : pc + len = pc') : amT 228 pc pc' i op := ⟨len, by unfold amEnt; rw [q228]; exact h, h2⟩
theorem e228_0 : amT 228 0 1 (.aload_n 0) 0 := r228 (len := 1) (by decide +kernel) rfl
theorem e228_1 : amT 228 1 4 (.getfield 340) 806 := r228 (len := 3) (by decide +kernel) rfl
theorem e228_4 : amT 228 4 7 (.ifCond .ne 12) 0 := r228 (len := 3) (by decide +kernel) rfl
theorem t228_4 : amTg 4 12 = some 16 := by decide
theorem e228_7 : amT 228 7 8 (.aload_n 0) 0 := r228 (len := 1) (by decide +kernel) rfl
theorem e228_8 : amT 228 8 11 (.invokevirtual 346) 221 := r228 (len := 3) (by decide +kernel) rfl
theorem e228_11 : amT 228 11 13 (.bipush 32) 0 := r228 (len := 2) (by decide +kernel) rfl
theorem e228_13 : amT 228 13 16 (.if_icmp .eq 13) 0 := r228 (len := 3) (by decide +kernel) rfl
theorem t228_13 : amTg 13 13 = some 26 := by decide
theorem e228_16 : amT 228 16 17 (.aload_n 0) 0 := r228 (len := 1) (by decide +kernel) rfl
theorem e228_17 : amT 228 17 18 (.aload_n 0) 0 := r228 (len := 1) (by decide +kernel) rfl
theorem e228_18 : amT 228 18 21 (.getfield 337) 805 := r228 (len := 3) (by decide +kernel) rfl
theorem e228_21 : amT 228 21 24 (.invokevirtual 355) 222 := r228 (len := 3) (by decide +kernel) rfl
theorem e228_24 : amT 228 24 25 (.iconst 0) 0 := r228 (len := 1) (by decide +kernel) rfl
theorem e228_25 : amT 228 25 26 (.ireturn) 0 := r228 (len := 1) (by decide +kernel) rfl
theorem e228_26 : amT 228 26 27 (.aload_n 0) 0 := r228 (len := 1) (by decide +kernel) rfl
theorem e228_27 : amT 228 27 28 (.dup) 0 := r228 (len := 1) (by decide +kernel) rfl
theorem e228_28 : amT 228 28 31 (.getfield 337) 805 := r228 (len := 3) (by decide +kernel) rfl
theorem e228_31 : amT 228 31 32 (.iconst 1) 0 := r228 (len := 1) (by decide +kernel) rfl
theorem e228_32 : amT 228 32 33 (.iadd) 0 := r228 (len := 1) (by decide +kernel) rfl
theorem e228_33 : amT 228 33 36 (.putfield 337) 805 := r228 (len := 3) (by decide +kernel) rfl
theorem e228_36 : amT 228 36 37 (.iload_n 1) 0 := r228 (len := 1) (by decide +kernel) rfl
theorem e228_37 : amT 228 37 40 (.ifCond .eq 16) 0 := r228 (len := 3) (by decide +kernel) rfl
theorem t228_37 : amTg 37 16 = some 53 := by decide
theorem e228_40 : amT 228 40 41 (.aload_n 0) 0 := r228 (len := 1) (by decide +kernel) rfl
theorem e228_41 : amT 228 41 44 (.invokevirtual 346) 221 := r228 (len := 3) (by decide +kernel) rfl
theorem e228_44 : amT 228 44 46 (.bipush 45) 0 := r228 (len := 2) (by decide +kernel) rfl
theorem e228_46 : amT 228 46 49 (.if_icmp .ne 7) 0 := r228 (len := 3) (by decide +kernel) rfl
theorem t228_46 : amTg 46 7 = some 53 := by decide
theorem e228_49 : amT 228 49 50 (.iconst 1) 0 := r228 (len := 1) (by decide +kernel) rfl
theorem e228_50 : amT 228 50 53 (.goto 4) 0 := r228 (len := 3) (by decide +kernel) rfl
theorem t228_50 : amTg 50 4 = some 54 := by decide
theorem e228_53 : amT 228 53 54 (.iconst 0) 0 := r228 (len := 1) (by decide +kernel) rfl
theorem e228_54 : amT 228 54 55 (.istore_n 2) 0 := r228 (len := 1) (by decide +kernel) rfl
theorem e228_55 : amT 228 55 56 (.iload_n 2) 0 := r228 (len := 1) (by decide +kernel) rfl
theorem e228_56 : amT 228 56 59 (.ifCond .eq 13) 0 := r228 (len := 3) (by decide +kernel) rfl
theorem t228_56 : amTg 56 13 = some 69 := by decide
theorem e228_59 : amT 228 59 60 (.aload_n 0) 0 := r228 (len := 1) (by decide +kernel) rfl
theorem e228_60 : amT 228 60 61 (.dup) 0 := r228 (len := 1) (by decide +kernel) rfl
theorem e228_61 : amT 228 61 64 (.getfield 337) 805 := r228 (len := 3) (by decide +kernel) rfl
theorem e228_64 : amT 228 64 65 (.iconst 1) 0 := r228 (len := 1) (by decide +kernel) rfl
theorem e228_65 : amT 228 65 66 (.iadd) 0 := r228 (len := 1) (by decide +kernel) rfl
theorem e228_66 : amT 228 66 69 (.putfield 337) 805 := r228 (len := 3) (by decide +kernel) rfl
theorem e228_69 : amT 228 69 70 (.aload_n 0) 0 := r228 (len := 1) (by decide +kernel) rfl
theorem e228_70 : amT 228 70 73 (.invokevirtual 346) 221 := r228 (len := 3) (by decide +kernel) rfl
theorem e228_73 : amT 228 73 74 (.i2l) 0 := r228 (len := 1) (by decide +kernel) rfl
theorem e228_74 : amT 228 74 77 (.ldc2_w 353) 17 := r228 (len := 3) (by decide +kernel) rfl
theorem e228_77 : amT 228 77 80 (.ldc2_w 351) 16 := r228 (len := 3) (by decide +kernel) rfl
theorem e228_80 : amT 228 80 83 (.invokestatic 107) 152 := r228 (len := 3) (by decide +kernel) rfl
theorem e228_83 : amT 228 83 86 (.ifCond .ne 13) 0 := r228 (len := 3) (by decide +kernel) rfl
theorem t228_83 : amTg 83 13 = some 96 := by decide
theorem e228_86 : amT 228 86 87 (.aload_n 0) 0 := r228 (len := 1) (by decide +kernel) rfl
theorem e228_87 : amT 228 87 88 (.aload_n 0) 0 := r228 (len := 1) (by decide +kernel) rfl
theorem e228_88 : amT 228 88 91 (.getfield 337) 805 := r228 (len := 3) (by decide +kernel) rfl
theorem e228_91 : amT 228 91 94 (.invokevirtual 355) 222 := r228 (len := 3) (by decide +kernel) rfl
theorem e228_94 : amT 228 94 95 (.iconst 0) 0 := r228 (len := 1) (by decide +kernel) rfl
theorem e228_95 : amT 228 95 96 (.ireturn) 0 := r228 (len := 1) (by decide +kernel) rfl
theorem e228_96 : amT 228 96 97 (.aload_n 0) 0 := r228 (len := 1) (by decide +kernel) rfl
theorem e228_97 : amT 228 97 100 (.getfield 92) 803 := r228 (len := 3) (by decide +kernel) rfl
theorem e228_100 : amT 228 100 101 (.aload_n 0) 0 := r228 (len := 1) (by decide +kernel) rfl
theorem e228_101 : amT 228 101 104 (.getfield 337) 805 := r228 (len := 3) (by decide +kernel) rfl
theorem e228_104 : amT 228 104 105 (.iaload) 0 := r228 (len := 1) (by decide +kernel) rfl
theorem e228_105 : amT 228 105 107 (.bipush 48) 0 := r228 (len := 2) (by decide +kernel) rfl
theorem e228_107 : amT 228 107 108 (.isub) 0 := r228 (len := 1) (by decide +kernel) rfl
theorem e228_108 : amT 228 108 109 (.istore_n 3) 0 := r228 (len := 1) (by decide +kernel) rfl
theorem e228_109 : amT 228 109 110 (.aload_n 0) 0 := r228 (len := 1) (by decide +kernel) rfl
theorem e228_110 : amT 228 110 111 (.dup) 0 := r228 (len := 1) (by decide +kernel) rfl
theorem e228_111 : amT 228 111 114 (.getfield 337) 805 := r228 (len := 3) (by decide +kernel) rfl
theorem e228_114 : amT 228 114 115 (.iconst 1) 0 := r228 (len := 1) (by decide +kernel) rfl
theorem e228_115 : amT 228 115 116 (.iadd) 0 := r228 (len := 1) (by decide +kernel) rfl
theorem e228_116 : amT 228 116 119 (.putfield 337) 805 := r228 (len := 3) (by decide +kernel) rfl
theorem e228_119 : amT 228 119 120 (.iload_n 2) 0 := r228 (len := 1) (by decide +kernel) rfl
theorem e228_120 : amT 228 120 123 (.ifCond .eq 8) 0 := r228 (len := 3) (by decide +kernel) rfl
theorem t228_120 : amTg 120 8 = some 128 := by decide
theorem e228_123 : amT 228 123 124 (.iload_n 3) 0 := r228 (len := 1) (by decide +kernel) rfl
theorem e228_124 : amT 228 124 125 (.ineg) 0 := r228 (len := 1) (by decide +kernel) rfl
theorem e228_125 : amT 228 125 128 (.goto 4) 0 := r228 (len := 3) (by decide +kernel) rfl
theorem t228_125 : amTg 125 4 = some 129 := by decide
theorem e228_128 : amT 228 128 129 (.iload_n 3) 0 := r228 (len := 1) (by decide +kernel) rfl
theorem e228_129 : amT 228 129 130 (.ireturn) 0 := r228 (len := 1) (by decide +kernel) rfl
theorem q229 : amCs.getD 229 [] = amC_229 := rfl
theorem r229 {pc pc' len op : Nat} {i : Instr} (h : amC_229.lookup pc = some (i, len, op)) (h2 : pc + len = pc') : amT 229 pc pc' i op := ⟨len, by unfold amEnt; rw [q229]; exact h, h2⟩
theorem e229_0 : amT 229 0 1 (.aload_n 0) 0 := r229 (len := 1) (by decide +kernel) rfl
theorem e229_1 : amT 229 1 2 (.iconst (-1)) 0 := r229 (len := 1) (by decide +kernel) rfl
theorem e229_2 : amT 229 2 5 (.putfield 375) 808 := r229 (len := 3) (by decide +kernel) rfl
theorem e229_5 : amT 229 5 6 (.aload_n 0) 0 := r229 (len := 1) (by decide +kernel) rfl
theorem e229_6 : amT 229 6 9 (.invokevirtual 346) 221 := r229 (len := 3) (by decide +kernel) rfl
theorem e229_9 : amT 229 9 11 (.bipush 61) 0 := r229 (len := 2) (by decide +kernel) rfl
theorem e229_11 : amT 229 11 14 (.if_icmp .ne 18) 0 := r229 (len := 3) (by decide +kernel) rfl
theorem t229_11 : amTg 11 18 = some 29 := by decide
theorem e229_14 : amT 229 14 15 (.aload_n 0) 0 := r229 (len := 1) (by decide +kernel) rfl
theorem e229_15 : amT 229 15 16 (.dup) 0 := r229 (len := 1) (by decide +kernel) rfl
theorem e229_16 : amT 229 16 19 (.getfield 337) 805 := r229 (len := 3) (by decide +kernel) rfl
theorem e229_19 : amT 229 19 20 (.iconst 1) 0 := r229 (len := 1) (by decide +kernel) rfl
theorem e229_20 : amT 229 20 21 (.iadd) 0 := r229 (len := 1) (by decide +kernel) rfl
theorem e229_21 : amT 229 21 24 (.putfield 337) 805 := r229 (len := 3) (by decide +kernel) rfl
theorem e229_24 : amT 229 24 25 (.aload_n 0) 0 := r229 (len := 1) (by decide +kernel) rfl
theorem e229_25 : amT 229 25 28 (.invokevirtual 378) 224 := r229 (len := 3) (by decide +kernel) rfl
theorem e229_28 : amT 229 28 29 (.return_) 0 := r229 (len := 1) (by decide +kernel) rfl
theorem e229_29 : amT 229 29 30 (.aload_n 0) 0 := r229 (len := 1) (by decide +kernel) rfl
theorem e229_30 : amT 229 30 33 (.getfield 337) 805 := r229 (len := 3) (by decide +kernel) rfl
theorem e229_33 : amT 229 33 34 (.istore_n 1) 0 := r229 (len := 1) (by decide +kernel) rfl
theorem e229_34 : amT 229 34 35 (.aload_n 0) 0 := r229 (len := 1) (by decide +kernel) rfl
theorem e229_35 : amT 229 35 38 (.invokevirtual 346) 221 := r229 (len := 3) (by decide +kernel) rfl
theorem e229_38 : amT 229 38 39 (.i2l) 0 := r229 (len := 1) (by decide +kernel) rfl
theorem e229_39 : amT 229 39 42 (.ldc2_w 381) 20 := r229 (len := 3) (by decide +kernel) rfl
theorem e229_42 : amT 229 42 45 (.ldc2_w 383) 21 := r229 (len := 3) (by decide +kernel) rfl
theorem e229_45 : amT 229 45 48 (.invokestatic 107) 152 := r229 (len := 3) (by decide +kernel) rfl
theorem e229_48 : amT 229 48 51 (.ifCond .eq 16) 0 := r229 (len := 3) (by decide +kernel) rfl
theorem t229_48 : amTg 48 16 = some 64 := by decide
theorem e229_51 : amT 229 51 52 (.aload_n 0) 0 := r229 (len := 1) (by decide +kernel) rfl
theorem e229_52 : amT 229 52 53 (.dup) 0 := r229 (len := 1) (by decide +kernel) rfl
theorem e229_53 : amT 229 53 56 (.getfield 337) 805 := r229 (len := 3) (by decide +kernel) rfl
theorem e229_56 : amT 229 56 57 (.iconst 1) 0 := r229 (len := 1) (by decide +kernel) rfl
theorem e229_57 : amT 229 57 58 (.iadd) 0 := r229 (len := 1) (by decide +kernel) rfl
theorem e229_58 : amT 229 58 61 (.putfield 337) 805 := r229 (len := 3) (by decide +kernel) rfl
theorem e229_61 : amT 229 61 64 (.goto (-27)) 0 := r229 (len := 3) (by decide +kernel) rfl
theorem t229_61 : amTg 61 (-27) = some 34 := by decide
theorem e229_64 : amT 229 64 65 (.aload_n 0) 0 := r229 (len := 1) (by decide +kernel) rfl
theorem e229_65 : amT 229 65 66 (.aload_n 0) 0 := r229 (len := 1) (by decide +kernel) rfl
theorem e229_66 : amT 229 66 67 (.iload_n 1) 0 := r229 (len := 1) (by decide +kernel) rfl
theorem e229_67 : amT 229 67 70 (.invokevirtual 385) 227 := r229 (len := 3) (by decide +kernel) rfl
theorem e229_70 : amT 229 70 73 (.putfield 375) 808 := r229 (len := 3) (by decide +kernel) rfl
theorem e229_73 : amT 229 73 74 (.aload_n 0) 0 := r229 (len := 1) (by decide +kernel) rfl
theorem e229_74 : amT 229 74 77 (.getfield 375) 808 := r229 (len := 3) (by decide +kernel) rfl
theorem e229_77 : amT 229 77 78 (.iconst (-1)) 0 := r229 (len := 1) (by decide +kernel) rfl
theorem e229_78 : amT 229 78 81 (.if_icmp .ne 9) 0 := r229 (len := 3) (by decide +kernel) rfl
theorem t229_78 : amTg 78 9 = some 87 := by decide
theorem e229_81 : amT 229 81 82 (.aload_n 0) 0 := r229 (len := 1) (by decide +kernel) rfl
theorem e229_82 : amT 229 82 83 (.iload_n 1) 0 := r229 (len := 1) (by decide +kernel) rfl
theorem e229_83 : amT 229 83 86 (.invokevirtual 355) 222 := r229 (len := 3) (by decide +kernel) rfl
theorem e229_86 : amT 229 86 87 (.return_) 0 := r229 (len := 1) (by decide +kernel) rfl
theorem e229_87 : amT 229 87 88 (.aload_n 0) 0 := r229 (len := 1) (by decide +kernel) rfl
theorem e229_88 : amT 229 88 89 (.aload_n 0) 0 := r229 (len := 1) (by decide +kernel) rfl
theorem e229_89 : amT 229 89 90 (.iconst 0) 0 := r229 (len := 1) (by decide +kernel) rfl
theorem e229_90 : amT 229 90 93 (.invokevirtual 388) 228 := r229 (len := 3) (by decide +kernel) rfl
theorem e229_93 : amT 229 93 96 (.putfield 392) 809 := r229 (len := 3) (by decide +kernel) rfl
theorem e229_96 : amT 229 96 97 (.aload_n 0) 0 := r229 (len := 1) (by decide +kernel) rfl
theorem e229_97 : amT 229 97 98 (.aload_n 0) 0 := r229 (len := 1) (by decide +kernel) rfl
theorem e229_98 : amT 229 98 101 (.getfield 375) 808 := r229 (len := 3) (by decide +kernel) rfl
theorem e229_101 : amT 229 101 104 (.invokestatic 311) 213 := r229 (len := 3) (by decide +kernel) rfl
theorem e229_104 : amT 229 104 107 (.ifCond .ne 13) 0 := r229 (len := 3) (by decide +kernel) rfl
theorem t229_104 : amTg 104 13 = some 117 := by decide
theorem e229_107 : amT 229 107 108 (.aload_n 0) 0 := r229 (len := 1) (by decide +kernel) rfl
theorem e229_108 : amT 229 108 111 (.getfield 375) 808 := r229 (len := 3) (by decide +kernel) rfl
theorem e229_111 : amT 229 111 114 (.invokestatic 314) 214 := r229 (len := 3) (by decide +kernel) rfl
theorem e229_114 : amT 229 114 117 (.ifCond .eq 17) 0 := r229 (len := 3) (by decide +kernel) rfl
theorem t229_114 : amTg 114 17 = some 131 := by decide
theorem e229_117 : amT 229 117 118 (.aload_n 0) 0 := r229 (len := 1) (by decide +kernel) rfl
theorem e229_118 : amT 229 118 119 (.aload_n 0) 0 := r229 (len := 1) (by decide +kernel) rfl
theorem e229_119 : amT 229 119 122 (.getfield 375) 808 := r229 (len := 3) (by decide +kernel) rfl
theorem e229_122 : amT 229 122 125 (.invokestatic 314) 214 := r229 (len := 3) (by decide +kernel) rfl
theorem e229_125 : amT 229 125 128 (.invokevirtual 388) 228 := r229 (len := 3) (by decide +kernel) rfl
theorem e229_128 : amT 229 128 131 (.goto 4) 0 := r229 (len := 3) (by decide +kernel) rfl
theorem t229_128 : amTg 128 4 = some 132 := by decide
theorem e229_131 : amT 229 131 132 (.iconst 0) 0 := r229 (len := 1) (by decide +kernel) rfl
theorem e229_132 : amT 229 132 135 (.putfield 395) 810 := r229 (len := 3) (by decide +kernel) rfl
theorem e229_135 : amT 229 135 136 (.return_) 0 := r229 (len := 1) (by decide +kernel) rfl
theorem q230 : amCs.getD 230 [] = amC_230 := rfl
theorem r230 {pc pc' len op : Nat} {i : Instr} (h : amC_230.lookup pc = some (i, len, op)) (h2 : pc + len = pc') : amT 230 pc pc' i op := ⟨len, by unfold amEnt; rw [q230]; exact h, h2⟩
theorem e230_0 : amT 230 0 1 (.aload_n 0) 0 := r230 (len := 1) (by decide +kernel) rfl
theorem e230_1 : amT 230 1 2 (.iconst 0) 0 := r230 (len := 1) (by decide +kernel) rfl
theorem e230_2 : amT 230 2 5 (.putfield 337) 805 := r230 (len := 3) (by decide +kernel) rfl
theorem e230_5 : amT 230 5 6 (.iconst 0) 0 := r230 (len := 1) (by decide +kernel) rfl
theorem e230_6 : amT 230 6 7 (.istore_n 2) 0 := r230 (len := 1) (by decide +kernel) rfl
theorem e230_7 : amT 230 7 8 (.iconst 1) 0 := r230 (len := 1) (by decide +kernel) rfl
theorem e230_8 : amT 230 8 9 (.istore_n 3) 0 := r230 (len := 1) (by decide +kernel) rfl
theorem e230_9 : amT 230 9 10 (.iload_n 3) 0 := r230 (len := 1) (by decide +kernel) rfl
theorem e230_10 : amT 230 10 13 (.ifCond .eq 115) 0 := r230 (len := 3) (by decide +kernel) rfl
theorem t230_10 : amTg 10 115 = some 125 := by decide
theorem e230_13 : amT 230 13 14 (.aload_n 0) 0 := r230 (len := 1) (by decide +kernel) rfl
theorem e230_14 : amT 230 14 17 (.getfield 337) 805 := r230 (len := 3) (by decide +kernel) rfl
theorem e230_17 : amT 230 17 19 (.istore 4) 0 := r230 (len := 2) (by decide +kernel) rfl
theorem e230_19 : amT 230 19 20 (.aload_n 0) 0 := r230 (len := 1) (by decide +kernel) rfl
theorem e230_20 : amT 230 20 23 (.invokevirtual 398) 229 := r230 (len := 3) (by decide +kernel) rfl
theorem e230_23 : amT 230 23 24 (.aload_n 0) 0 := r230 (len := 1) (by decide +kernel) rfl
theorem e230_24 : amT 230 24 27 (.getfield 340) 806 := r230 (len := 3) (by decide +kernel) rfl
theorem e230_27 : amT 230 27 30 (.ifCond .eq 5) 0 := r230 (len := 3) (by decide +kernel) rfl
theorem t230_27 : amTg 27 5 = some 32 := by decide
theorem e230_30 : amT 230 30 31 (.iload_n 2) 0 := r230 (len := 1) (by decide +kernel) rfl
theorem e230_31 : amT 230 31 32 (.ireturn) 0 := r230 (len := 1) (by decide +kernel) rfl
theorem e230_32 : amT 230 32 33 (.iload_n 1) 0 := r230 (len := 1) (by decide +kernel) rfl
theorem e230_33 : amT 230 33 36 (.ifCond .eq 53) 0 := r230 (len := 3) (by decide +kernel) rfl
theorem t230_33 : amTg 33 53 = some 86 := by decide
theorem e230_36 : amT 230 36 37 (.aload_n 0) 0 := r230 (len := 1) (by decide +kernel) rfl
theorem e230_37 : amT 230 37 40 (.invokevirtual 225) 189 := r230 (len := 3) (by decide +kernel) rfl
theorem e230_40 : amT 230 40 41 (.aload_n 0) 0 := r230 (len := 1) (by decide +kernel) rfl
theorem e230_41 : amT 230 41 44 (.getfield 375) 808 := r230 (len := 3) (by decide +kernel) rfl
theorem e230_44 : amT 230 44 45 (.iconst (-1)) 0 := r230 (len := 1) (by decide +kernel) rfl
theorem e230_45 : amT 230 45 48 (.if_icmp .ne 10) 0 := r230 (len := 3) (by decide +kernel) rfl
theorem t230_45 : amTg 45 10 = some 55 := by decide
theorem e230_48 : amT 230 48 49 (.aload_n 0) 0 := r230 (len := 1) (by decide +kernel) rfl
theorem e230_49 : amT 230 49 52 (.invokevirtual 131) 158 := r230 (len := 3) (by decide +kernel) rfl
theorem e230_52 : amT 230 52 55 (.goto 19) 0 := r230 (len := 3) (by decide +kernel) rfl
theorem t230_52 : amTg 52 19 = some 71 := by decide
theorem e230_55 : amT 230 55 56 (.aload_n 0) 0 := r230 (len := 1) (by decide +kernel) rfl
theorem e230_56 : amT 230 56 57 (.aload_n 0) 0 := r230 (len := 1) (by decide +kernel) rfl
theorem e230_57 : amT 230 57 60 (.getfield 375) 808 := r230 (len := 3) (by decide +kernel) rfl
theorem e230_60 : amT 230 60 61 (.aload_n 0) 0 := r230 (len := 1) (by decide +kernel) rfl
theorem e230_61 : amT 230 61 64 (.getfield 392) 809 := r230 (len := 3) (by decide +kernel) rfl
theorem e230_64 : amT 230 64 65 (.aload_n 0) 0 := r230 (len := 1) (by decide +kernel) rfl
theorem e230_65 : amT 230 65 68 (.getfield 395) 810 := r230 (len := 3) (by decide +kernel) rfl
theorem e230_68 : amT 230 68 71 (.invokevirtual 401) 219 := r230 (len := 3) (by decide +kernel) rfl
theorem e230_71 : amT 230 71 73 (.istore 5) 0 := r230 (len := 2) (by decide +kernel) rfl
theorem e230_73 : amT 230 73 75 (.iload 5) 0 := r230 (len := 2) (by decide +kernel) rfl
theorem e230_75 : amT 230 75 78 (.ifCond .ge 11) 0 := r230 (len := 3) (by decide +kernel) rfl
theorem t230_75 : amTg 75 11 = some 86 := by decide
theorem e230_78 : amT 230 78 79 (.aload_n 0) 0 := r230 (len := 1) (by decide +kernel) rfl
theorem e230_79 : amT 230 79 81 (.iload 4) 0 := r230 (len := 2) (by decide +kernel) rfl
theorem e230_81 : amT 230 81 84 (.invokevirtual 355) 222 := r230 (len := 3) (by decide +kernel) rfl
theorem e230_84 : amT 230 84 85 (.iload_n 2) 0 := r230 (len := 1) (by decide +kernel) rfl
theorem e230_85 : amT 230 85 86 (.ireturn) 0 := r230 (len := 1) (by decide +kernel) rfl
theorem e230_86 : amT 230 86 89 (.iinc 2 1) 0 := r230 (len := 3) (by decide +kernel) rfl
theorem e230_89 : amT 230 89 90 (.aload_n 0) 0 := r230 (len := 1) (by decide +kernel) rfl
theorem e230_90 : amT 230 90 93 (.invokevirtual 346) 221 := r230 (len := 3) (by decide +kernel) rfl
theorem e230_93 : amT 230 93 95 (.bipush 59) 0 := r230 (len := 2) (by decide +kernel) rfl
theorem e230_95 : amT 230 95 98 (.if_icmp .ne 7) 0 := r230 (len := 3) (by decide +kernel) rfl
theorem t230_95 : amTg 95 7 = some 102 := by decide
theorem e230_98 : amT 230 98 99 (.iconst 1) 0 := r230 (len := 1) (by decide +kernel) rfl
theorem e230_99 : amT 230 99 102 (.goto 4) 0 := r230 (len := 3) (by decide +kernel) rfl
theorem t230_99 : amTg 99 4 = some 103 := by decide
theorem e230_102 : amT 230 102 103 (.iconst 0) 0 := r230 (len := 1) (by decide +kernel) rfl
theorem e230_103 : amT 230 103 104 (.istore_n 3) 0 := r230 (len := 1) (by decide +kernel) rfl
theorem e230_104 : amT 230 104 105 (.aload_n 0) 0 := r230 (len := 1) (by decide +kernel) rfl
theorem e230_105 : amT 230 105 106 (.dup) 0 := r230 (len := 1) (by decide +kernel) rfl
theorem e230_106 : amT 230 106 109 (.getfield 337) 805 := r230 (len := 3) (by decide +kernel) rfl
theorem e230_109 : amT 230 109 110 (.iload_n 3) 0 := r230 (len := 1) (by decide +kernel) rfl
theorem e230_110 : amT 230 110 113 (.ifCond .eq 7) 0 := r230 (len := 3) (by decide +kernel) rfl
theorem t230_110 : amTg 110 7 = some 117 := by decide
theorem e230_113 : amT 230 113 114 (.iconst 1) 0 := r230 (len := 1) (by decide +kernel) rfl
theorem e230_114 : amT 230 114 117 (.goto 4) 0 := r230 (len := 3) (by decide +kernel) rfl
theorem t230_114 : amTg 114 4 = some 118 := by decide
theorem e230_117 : amT 230 117 118 (.iconst 0) 0 := r230 (len := 1) (by decide +kernel) rfl
theorem e230_118 : amT 230 118 119 (.iadd) 0 := r230 (len := 1) (by decide +kernel) rfl
theorem e230_119 : amT 230 119 122 (.putfield 337) 805 := r230 (len := 3) (by decide +kernel) rfl
theorem e230_122 : amT 230 122 125 (.goto (-113)) 0 := r230 (len := 3) (by decide +kernel) rfl
theorem t230_122 : amTg 122 (-113) = some 9 := by decide
theorem e230_125 : amT 230 125 126 (.aload_n 0) 0 := r230 (len := 1) (by decide +kernel) rfl
theorem e230_126 : amT 230 126 129 (.getfield 337) 805 := r230 (len := 3) (by decide +kernel) rfl
theorem e230_129 : amT 230 129 130 (.aload_n 0) 0 := r230 (len := 1) (by decide +kernel) rfl
theorem e230_130 : amT 230 130 133 (.getfield 334) 804 := r230 (len := 3) (by decide +kernel) rfl
theorem e230_133 : amT 230 133 136 (.if_icmp .ge 11) 0 := r230 (len := 3) (by decide +kernel) rfl
theorem t230_133 : amTg 133 11 = some 144 := by decide
theorem e230_136 : amT 230 136 137 (.aload_n 0) 0 := r230 (len := 1) (by decide +kernel) rfl
theorem e230_137 : amT 230 137 138 (.aload_n 0) 0 := r230 (len := 1) (by decide +kernel) rfl
theorem e230_138 : amT 230 138 141 (.getfield 337) 805 := r230 (len := 3) (by decide +kernel) rfl
theorem e230_141 : amT 230 141 144 (.invokevirtual 355) 222 := r230 (len := 3) (by decide +kernel) rfl
theorem e230_144 : amT 230 144 145 (.iload_n 2) 0 := r230 (len := 1) (by decide +kernel) rfl
theorem e230_145 : amT 230 145 146 (.ireturn) 0 := r230 (len := 1) (by decide +kernel) rfl
theorem q231 : amCs.getD 231 [] = amC_231 := rfl
theorem r231 {pc pc' len op : Nat} {i : Instr} (h : amC_231.lookup pc = some (i, len, op)) (h2 : pc + len = pc') : amT 231 pc pc' i op := ⟨len, by unfold amEnt; rw [q231]; exact h, h2⟩
theorem e231_0 : amT 231 0 1 (.aload_n 0) 0 := r231 (len := 1) (by decide +kernel) rfl
theorem e231_1 : amT 231 1 2 (.iconst 0) 0 := r231 (len := 1) (by decide +kernel) rfl
theorem e231_2 : amT 231 2 5 (.putfield 340) 806 := r231 (len := 3) (by decide +kernel) rfl
theorem e231_5 : amT 231 5 6 (.aload_n 0) 0 := r231 (len := 1) (by decide +kernel) rfl
theorem e231_6 : amT 231 6 7 (.iconst 0) 0 := r231 (len := 1) (by decide +kernel) rfl
theorem e231_7 : amT 231 7 10 (.invokevirtual 405) 230 := r231 (len := 3) (by decide +kernel) rfl
theorem e231_10 : amT 231 10 11 (.pop) 0 := r231 (len := 1) (by decide +kernel) rfl
theorem e231_11 : amT 231 11 14 (.sipush 1000) 0 := r231 (len := 3) (by decide +kernel) rfl
theorem e231_14 : amT 231 14 15 (.istore_n 1) 0 := r231 (len := 1) (by decide +kernel) rfl
theorem e231_15 : amT 231 15 16 (.iconst 0) 0 := r231 (len := 1) (by decide +kernel) rfl
theorem e231_16 : amT 231 16 17 (.istore_n 2) 0 := r231 (len := 1) (by decide +kernel) rfl
theorem e231_17 : amT 231 17 18 (.aload_n 0) 0 := r231 (len := 1) (by decide +kernel) rfl
theorem e231_18 : amT 231 18 21 (.getfield 340) 806 := r231 (len := 3) (by decide +kernel) rfl
theorem e231_21 : amT 231 21 24 (.ifCond .ne 90) 0 := r231 (len := 3) (by decide +kernel) rfl
theorem t231_21 : amTg 21 90 = some 111 := by decide
theorem e231_24 : amT 231 24 25 (.aload_n 0) 0 := r231 (len := 1) (by decide +kernel) rfl
theorem e231_25 : amT 231 25 28 (.getfield 104) 770 := r231 (len := 3) (by decide +kernel) rfl
theorem e231_28 : amT 231 28 29 (.istore_n 3) 0 := r231 (len := 1) (by decide +kernel) rfl
theorem e231_29 : amT 231 29 30 (.iconst 0) 0 := r231 (len := 1) (by decide +kernel) rfl
theorem e231_30 : amT 231 30 32 (.istore 4) 0 := r231 (len := 2) (by decide +kernel) rfl
theorem e231_32 : amT 231 32 34 (.iload 4) 0 := r231 (len := 2) (by decide +kernel) rfl
theorem e231_34 : amT 231 34 36 (.bipush 40) 0 := r231 (len := 2) (by decide +kernel) rfl
theorem e231_36 : amT 231 36 39 (.if_icmp .ge 23) 0 := r231 (len := 3) (by decide +kernel) rfl
theorem t231_36 : amTg 36 23 = some 59 := by decide
theorem e231_39 : amT 231 39 40 (.aload_n 0) 0 := r231 (len := 1) (by decide +kernel) rfl
theorem e231_40 : amT 231 40 43 (.getfield 29) 773 := r231 (len := 3) (by decide +kernel) rfl
theorem e231_43 : amT 231 43 45 (.iload 4) 0 := r231 (len := 2) (by decide +kernel) rfl
theorem e231_45 : amT 231 45 46 (.aload_n 0) 0 := r231 (len := 1) (by decide +kernel) rfl
theorem e231_46 : amT 231 46 49 (.getfield 19) 769 := r231 (len := 3) (by decide +kernel) rfl
theorem e231_49 : amT 231 49 51 (.iload 4) 0 := r231 (len := 2) (by decide +kernel) rfl
theorem e231_51 : amT 231 51 52 (.iaload) 0 := r231 (len := 1) (by decide +kernel) rfl
theorem e231_52 : amT 231 52 53 (.iastore) 0 := r231 (len := 1) (by decide +kernel) rfl
theorem e231_53 : amT 231 53 56 (.iinc 4 1) 0 := r231 (len := 3) (by decide +kernel) rfl
theorem e231_56 : amT 231 56 59 (.goto (-24)) 0 := r231 (len := 3) (by decide +kernel) rfl
theorem t231_56 : amTg 56 (-24) = some 32 := by decide
theorem e231_59 : amT 231 59 62 (.sipush 2000) 0 := r231 (len := 3) (by decide +kernel) rfl
theorem e231_62 : amT 231 62 63 (.istore_n 1) 0 := r231 (len := 1) (by decide +kernel) rfl
theorem e231_63 : amT 231 63 64 (.aload_n 0) 0 := r231 (len := 1) (by decide +kernel) rfl
theorem e231_64 : amT 231 64 65 (.iconst 1) 0 := r231 (len := 1) (by decide +kernel) rfl
theorem e231_65 : amT 231 65 68 (.invokevirtual 405) 230 := r231 (len := 3) (by decide +kernel) rfl
theorem e231_68 : amT 231 68 69 (.istore_n 2) 0 := r231 (len := 1) (by decide +kernel) rfl
theorem e231_69 : amT 231 69 70 (.aload_n 0) 0 := r231 (len := 1) (by decide +kernel) rfl
theorem e231_70 : amT 231 70 73 (.getfield 340) 806 := r231 (len := 3) (by decide +kernel) rfl
theorem e231_73 : amT 231 73 76 (.ifCond .eq 38) 0 := r231 (len := 3) (by decide +kernel) rfl
theorem t231_73 : amTg 73 38 = some 111 := by decide
theorem e231_76 : amT 231 76 77 (.aload_n 0) 0 := r231 (len := 1) (by decide +kernel) rfl
theorem e231_77 : amT 231 77 78 (.iload_n 3) 0 := r231 (len := 1) (by decide +kernel) rfl
theorem e231_78 : amT 231 78 81 (.putfield 104) 770 := r231 (len := 3) (by decide +kernel) rfl
theorem e231_81 : amT 231 81 82 (.iconst 0) 0 := r231 (len := 1) (by decide +kernel) rfl
theorem e231_82 : amT 231 82 84 (.istore 4) 0 := r231 (len := 2) (by decide +kernel) rfl
theorem e231_84 : amT 231 84 86 (.iload 4) 0 := r231 (len := 2) (by decide +kernel) rfl
theorem e231_86 : amT 231 86 88 (.bipush 40) 0 := r231 (len := 2) (by decide +kernel) rfl
theorem e231_88 : amT 231 88 91 (.if_icmp .ge 23) 0 := r231 (len := 3) (by decide +kernel) rfl
theorem t231_88 : amTg 88 23 = some 111 := by decide
theorem e231_91 : amT 231 91 92 (.aload_n 0) 0 := r231 (len := 1) (by decide +kernel) rfl
theorem e231_92 : amT 231 92 95 (.getfield 19) 769 := r231 (len := 3) (by decide +kernel) rfl
theorem e231_95 : amT 231 95 97 (.iload 4) 0 := r231 (len := 2) (by decide +kernel) rfl
theorem e231_97 : amT 231 97 98 (.aload_n 0) 0 := r231 (len := 1) (by decide +kernel) rfl
theorem e231_98 : amT 231 98 101 (.getfield 29) 773 := r231 (len := 3) (by decide +kernel) rfl
theorem e231_101 : amT 231 101 103 (.iload 4) 0 := r231 (len := 2) (by decide +kernel) rfl
theorem e231_103 : amT 231 103 104 (.iaload) 0 := r231 (len := 1) (by decide +kernel) rfl
theorem e231_104 : amT 231 104 105 (.iastore) 0 := r231 (len := 1) (by decide +kernel) rfl
theorem e231_105 : amT 231 105 108 (.iinc 4 1) 0 := r231 (len := 3) (by decide +kernel) rfl
theorem e231_108 : amT 231 108 111 (.goto (-24)) 0 := r231 (len := 3) (by decide +kernel) rfl
theorem t231_108 : amTg 108 (-24) = some 84 := by decide
theorem e231_111 : amT 231 111 112 (.aload_n 0) 0 := r231 (len := 1) (by decide +kernel) rfl
theorem e231_112 : amT 231 112 113 (.iconst 0) 0 := r231 (len := 1) (by decide +kernel) rfl
theorem e231_113 : amT 231 113 116 (.putfield 334) 804 := r231 (len := 3) (by decide +kernel) rfl
theorem e231_116 : amT 231 116 117 (.aload_n 0) 0 := r231 (len := 1) (by decide +kernel) rfl
theorem e231_117 : amT 231 117 120 (.getfield 340) 806 := r231 (len := 3) (by decide +kernel) rfl
theorem e231_120 : amT 231 120 123 (.ifCond .eq 13) 0 := r231 (len := 3) (by decide +kernel) rfl
theorem t231_120 : amTg 120 13 = some 133 := by decide
theorem e231_123 : amT 231 123 124 (.iload_n 1) 0 := r231 (len := 1) (by decide +kernel) rfl
theorem e231_124 : amT 231 124 125 (.ineg) 0 := r231 (len := 1) (by decide +kernel) rfl
theorem e231_125 : amT 231 125 126 (.aload_n 0) 0 := r231 (len := 1) (by decide +kernel) rfl
theorem e231_126 : amT 231 126 129 (.getfield 343) 807 := r231 (len := 3) (by decide +kernel) rfl
theorem e231_129 : amT 231 129 130 (.isub) 0 := r231 (len := 1) (by decide +kernel) rfl
theorem e231_130 : amT 231 130 133 (.goto 4) 0 := r231 (len := 3) (by decide +kernel) rfl
theorem t231_130 : amTg 130 4 = some 134 := by decide
theorem e231_133 : amT 231 133 134 (.iload_n 2) 0 := r231 (len := 1) (by decide +kernel) rfl
theorem e231_134 : amT 231 134 135 (.ireturn) 0 := r231 (len := 1) (by decide +kernel) rfl
theorem q232 : amCs.getD 232 [] = amC_232 := rfl
theorem r232 {pc pc' len op : Nat} {i : Instr} (h : amC_232.lookup pc = some (i, len, op)) (h2 : pc + len = pc') : amT 232 pc pc' i op := ⟨len, by unfold amEnt; rw [q232]; exact h, h2⟩
theorem e232_0 : amT 232 0 1 (.aload_n 0) 0 := r232 (len := 1) (by decide +kernel) rfl
theorem e232_1 : amT 232 1 4 (.getfield 95) 812 := r232 (len := 3) (by decide +kernel) rfl
theorem e232_4 : amT 232 4 5 (.aload_n 0) 0 := r232 (len := 1) (by decide +kernel) rfl
theorem e232_5 : amT 232 5 8 (.getfield 408) 813 := r232 (len := 3) (by decide +kernel) rfl
theorem e232_8 : amT 232 8 9 (.iload_n 1) 0 := r232 (len := 1) (by decide +kernel) rfl
theorem e232_9 : amT 232 9 10 (.iastore) 0 := r232 (len := 1) (by decide +kernel) rfl
theorem e232_10 : amT 232 10 11 (.aload_n 0) 0 := r232 (len := 1) (by decide +kernel) rfl
theorem e232_11 : amT 232 11 12 (.dup) 0 := r232 (len := 1) (by decide +kernel) rfl
theorem e232_12 : amT 232 12 15 (.getfield 408) 813 := r232 (len := 3) (by decide +kernel) rfl
theorem e232_15 : amT 232 15 16 (.iconst 1) 0 := r232 (len := 1) (by decide +kernel) rfl
theorem e232_16 : amT 232 16 17 (.iadd) 0 := r232 (len := 1) (by decide +kernel) rfl
theorem e232_17 : amT 232 17 20 (.putfield 408) 813 := r232 (len := 3) (by decide +kernel) rfl
theorem e232_20 : amT 232 20 21 (.return_) 0 := r232 (len := 1) (by decide +kernel) rfl
theorem q233 : amCs.getD 233 [] = amC_233 := rfl
theorem r233 {pc pc' len op : Nat} {i : Instr} (h : amC_233.lookup pc = some (i, len, op)) (h2 : pc + len = pc') : amT 233 pc pc' i op := ⟨len, by unfold amEnt; rw [q233]; exact h, h2⟩
theorem e233_0 : amT 233 0 1 (.iload_n 1) 0 := r233 (len := 1) (by decide +kernel) rfl
theorem e233_1 : amT 233 1 3 (.bipush 9) 0 := r233 (len := 2) (by decide +kernel) rfl
theorem e233_3 : amT 233 3 6 (.if_icmp .le 11) 0 := r233 (len := 3) (by decide +kernel) rfl
theorem t233_3 : amTg 3 11 = some 14 := by decide
theorem e233_6 : amT 233 6 7 (.aload_n 0) 0 := r233 (len := 1) (by decide +kernel) rfl
theorem e233_7 : amT 233 7 8 (.iload_n 1) 0 := r233 (len := 1) (by decide +kernel) rfl
theorem e233_8 : amT 233 8 10 (.bipush 10) 0 := r233 (len := 2) (by decide +kernel) rfl
theorem e233_10 : amT 233 10 11 (.idiv) 0 := r233 (len := 1) (by decide +kernel) rfl
theorem e233_11 : amT 233 11 14 (.invokevirtual 411) 248 := r233 (len := 3) (by decide +kernel) rfl
theorem e233_14 : amT 233 14 15 (.aload_n 0) 0 := r233 (len := 1) (by decide +kernel) rfl
theorem e233_15 : amT 233 15 17 (.bipush 48) 0 := r233 (len := 2) (by decide +kernel) rfl
theorem e233_17 : amT 233 17 18 (.iload_n 1) 0 := r233 (len := 1) (by decide +kernel) rfl
theorem e233_18 : amT 233 18 20 (.bipush 10) 0 := r233 (len := 2) (by decide +kernel) rfl
theorem e233_20 : amT 233 20 21 (.irem) 0 := r233 (len := 1) (by decide +kernel) rfl
theorem e233_21 : amT 233 21 22 (.iadd) 0 := r233 (len := 1) (by decide +kernel) rfl
theorem e233_22 : amT 233 22 25 (.invokevirtual 414) 232 := r233 (len := 3) (by decide +kernel) rfl
theorem e233_25 : amT 233 25 26 (.return_) 0 := r233 (len := 1) (by decide +kernel) rfl
theorem q234 : amCs.getD 234 [] = amC_234 := rfl
theorem r234 {pc pc' len op : Nat} {i : Instr} (h : amC_234.lookup pc = some (i, len, op)) (h2 : pc + len = pc') : amT 234 pc pc' i op := ⟨len, by unfold amEnt; rw [q234]; exact h, h2⟩
theorem e234_0 : amT 234 0 1 (.aload_n 0) 0 := r234 (len := 1) (by decide +kernel) rfl
theorem e234_1 : amT 234 1 2 (.iload_n 1) 0 := r234 (len := 1) (by decide +kernel) rfl
theorem e234_2 : amT 234 2 5 (.invokevirtual 135) 157 := r234 (len := 3) (by decide +kernel) rfl
theorem e234_5 : amT 234 5 8 (.ifCond .ne 5) 0 := r234 (len := 3) (by decide +kernel) rfl
theorem t234_5 : amTg 5 5 = some 10 := by decide
theorem e234_8 : amT 234 8 9 (.iconst (-1)) 0 := r234 (len := 1) (by decide +kernel) rfl
theorem e234_9 : amT 234 9 10 (.ireturn) 0 := r234 (len := 1) (by decide +kernel) rfl
theorem e234_10 : amT 234 10 11 (.aload_n 0) 0 := r234 (len := 1) (by decide +kernel) rfl
theorem e234_11 : amT 234 11 12 (.iconst 0) 0 := r234 (len := 1) (by decide +kernel) rfl
theorem e234_12 : amT 234 12 15 (.putfield 408) 813 := r234 (len := 3) (by decide +kernel) rfl
theorem e234_15 : amT 234 15 16 (.iconst 4) 0 := r234 (len := 1) (by decide +kernel) rfl
theorem e234_16 : amT 234 16 17 (.istore_n 2) 0 := r234 (len := 1) (by decide +kernel) rfl
theorem e234_17 : amT 234 17 18 (.iload_n 2) 0 := r234 (len := 1) (by decide +kernel) rfl
theorem e234_18 : amT 234 18 21 (.ifCond .lt 110) 0 := r234 (len := 3) (by decide +kernel) rfl
theorem t234_18 : amTg 18 110 = some 128 := by decide
theorem e234_21 : amT 234 21 22 (.aload_n 0) 0 := r234 (len := 1) (by decide +kernel) rfl
theorem e234_22 : amT 234 22 25 (.getfield 19) 769 := r234 (len := 3) (by decide +kernel) rfl
theorem e234_25 : amT 234 25 26 (.iconst 5) 0 := r234 (len := 1) (by decide +kernel) rfl
theorem e234_26 : amT 234 26 27 (.iload_n 1) 0 := r234 (len := 1) (by decide +kernel) rfl
theorem e234_27 : amT 234 27 28 (.imul) 0 := r234 (len := 1) (by decide +kernel) rfl
theorem e234_28 : amT 234 28 29 (.iload_n 2) 0 := r234 (len := 1) (by decide +kernel) rfl
theorem e234_29 : amT 234 29 30 (.iadd) 0 := r234 (len := 1) (by decide +kernel) rfl
theorem e234_30 : amT 234 30 31 (.iaload) 0 := r234 (len := 1) (by decide +kernel) rfl
theorem e234_31 : amT 234 31 32 (.istore_n 3) 0 := r234 (len := 1) (by decide +kernel) rfl
theorem e234_32 : amT 234 32 33 (.iload_n 3) 0 := r234 (len := 1) (by decide +kernel) rfl
theorem e234_33 : amT 234 33 36 (.ifCond .ne 6) 0 := r234 (len := 3) (by decide +kernel) rfl
theorem t234_33 : amTg 33 6 = some 39 := by decide
theorem e234_36 : amT 234 36 39 (.goto 86) 0 := r234 (len := 3) (by decide +kernel) rfl
theorem t234_36 : amTg 36 86 = some 122 := by decide
theorem e234_39 : amT 234 39 40 (.iload_n 3) 0 := r234 (len := 1) (by decide +kernel) rfl
theorem e234_40 : amT 234 40 43 (.ifCond .ge 12) 0 := r234 (len := 3) (by decide +kernel) rfl
theorem t234_40 : amTg 40 12 = some 52 := by decide
theorem e234_43 : amT 234 43 44 (.aload_n 0) 0 := r234 (len := 1) (by decide +kernel) rfl
theorem e234_44 : amT 234 44 46 (.bipush 45) 0 := r234 (len := 2) (by decide +kernel) rfl
theorem e234_46 : amT 234 46 49 (.invokevirtual 414) 232 := r234 (len := 3) (by decide +kernel) rfl
theorem e234_49 : amT 234 49 52 (.goto 16) 0 := r234 (len := 3) (by decide +kernel) rfl
theorem t234_49 : amTg 49 16 = some 65 := by decide
theorem e234_52 : amT 234 52 53 (.aload_n 0) 0 := r234 (len := 1) (by decide +kernel) rfl
theorem e234_53 : amT 234 53 56 (.getfield 408) 813 := r234 (len := 3) (by decide +kernel) rfl
theorem e234_56 : amT 234 56 59 (.ifCond .le 9) 0 := r234 (len := 3) (by decide +kernel) rfl
theorem t234_56 : amTg 56 9 = some 65 := by decide
theorem e234_59 : amT 234 59 60 (.aload_n 0) 0 := r234 (len := 1) (by decide +kernel) rfl
theorem e234_60 : amT 234 60 62 (.bipush 43) 0 := r234 (len := 2) (by decide +kernel) rfl
theorem e234_62 : amT 234 62 65 (.invokevirtual 414) 232 := r234 (len := 3) (by decide +kernel) rfl
theorem e234_65 : amT 234 65 66 (.iload_n 3) 0 := r234 (len := 1) (by decide +kernel) rfl
theorem e234_66 : amT 234 66 69 (.ifCond .ge 8) 0 := r234 (len := 3) (by decide +kernel) rfl
theorem t234_66 : amTg 66 8 = some 74 := by decide
theorem e234_69 : amT 234 69 70 (.iload_n 3) 0 := r234 (len := 1) (by decide +kernel) rfl
theorem e234_70 : amT 234 70 71 (.ineg) 0 := r234 (len := 1) (by decide +kernel) rfl
theorem e234_71 : amT 234 71 74 (.goto 4) 0 := r234 (len := 3) (by decide +kernel) rfl
theorem t234_71 : amTg 71 4 = some 75 := by decide
theorem e234_74 : amT 234 74 75 (.iload_n 3) 0 := r234 (len := 1) (by decide +kernel) rfl
theorem e234_75 : amT 234 75 77 (.istore 4) 0 := r234 (len := 2) (by decide +kernel) rfl
theorem e234_77 : amT 234 77 79 (.iload 4) 0 := r234 (len := 2) (by decide +kernel) rfl
theorem e234_79 : amT 234 79 80 (.iconst 1) 0 := r234 (len := 1) (by decide +kernel) rfl
theorem e234_80 : amT 234 80 83 (.if_icmp .ne 7) 0 := r234 (len := 3) (by decide +kernel) rfl
theorem t234_80 : amTg 80 7 = some 87 := by decide
theorem e234_83 : amT 234 83 84 (.iload_n 2) 0 := r234 (len := 1) (by decide +kernel) rfl
theorem e234_84 : amT 234 84 87 (.ifCond .ne 9) 0 := r234 (len := 3) (by decide +kernel) rfl
theorem t234_84 : amTg 84 9 = some 93 := by decide
theorem e234_87 : amT 234 87 88 (.aload_n 0) 0 := r234 (len := 1) (by decide +kernel) rfl
theorem e234_88 : amT 234 88 90 (.iload 4) 0 := r234 (len := 2) (by decide +kernel) rfl
theorem e234_90 : amT 234 90 93 (.invokevirtual 411) 233 := r234 (len := 3) (by decide +kernel) rfl
theorem e234_93 : amT 234 93 94 (.iload_n 2) 0 := r234 (len := 1) (by decide +kernel) rfl
theorem e234_94 : amT 234 94 97 (.ifCond .le 9) 0 := r234 (len := 3) (by decide +kernel) rfl
theorem t234_94 : amTg 94 9 = some 103 := by decide
theorem e234_97 : amT 234 97 98 (.aload_n 0) 0 := r234 (len := 1) (by decide +kernel) rfl
theorem e234_98 : amT 234 98 100 (.bipush 120) 0 := r234 (len := 2) (by decide +kernel) rfl
theorem e234_100 : amT 234 100 103 (.invokevirtual 414) 232 := r234 (len := 3) (by decide +kernel) rfl
theorem e234_103 : amT 234 103 104 (.iload_n 2) 0 := r234 (len := 1) (by decide +kernel) rfl
theorem e234_104 : amT 234 104 105 (.iconst 1) 0 := r234 (len := 1) (by decide +kernel) rfl
theorem e234_105 : amT 234 105 108 (.if_icmp .le 17) 0 := r234 (len := 3) (by decide +kernel) rfl
theorem t234_105 : amTg 105 17 = some 122 := by decide
theorem e234_108 : amT 234 108 109 (.aload_n 0) 0 := r234 (len := 1) (by decide +kernel) rfl
theorem e234_109 : amT 234 109 111 (.bipush 94) 0 := r234 (len := 2) (by decide +kernel) rfl
theorem e234_111 : amT 234 111 114 (.invokevirtual 414) 232 := r234 (len := 3) (by decide +kernel) rfl
theorem e234_114 : amT 234 114 115 (.aload_n 0) 0 := r234 (len := 1) (by decide +kernel) rfl
theorem e234_115 : amT 234 115 117 (.bipush 48) 0 := r234 (len := 2) (by decide +kernel) rfl
theorem e234_117 : amT 234 117 118 (.iload_n 2) 0 := r234 (len := 1) (by decide +kernel) rfl
theorem e234_118 : amT 234 118 119 (.iadd) 0 := r234 (len := 1) (by decide +kernel) rfl
theorem e234_119 : amT 234 119 122 (.invokevirtual 414) 232 := r234 (len := 3) (by decide +kernel) rfl
theorem e234_122 : amT 234 122 125 (.iinc 2 (-1)) 0 := r234 (len := 3) (by decide +kernel) rfl
theorem e234_125 : amT 234 125 128 (.goto (-108)) 0 := r234 (len := 3) (by decide +kernel) rfl
theorem t234_125 : amTg 125 (-108) = some 17 := by decide
theorem e234_128 : amT 234 128 129 (.aload_n 0) 0 := r234 (len := 1) (by decide +kernel) rfl
theorem e234_129 : amT 234 129 132 (.getfield 408) 813 := r234 (len := 3) (by decide +kernel) rfl
theorem e234_132 : amT 234 132 133 (.ireturn) 0 := r234 (len := 1) (by decide +kernel) rfl
theorem q235 : amCs.getD 235 [] = amC_235 := rfl
theorem r235 {pc pc' len op : Nat} {i : Instr} (h : amC_235.lookup pc = some (i, len, op)) (h2 : pc + len = pc') : amT 235 pc pc' i op := ⟨len, by unfold amEnt; rw [q235]; exact h, h2⟩
theorem e235_0 : amT 235 0 1 (.iload_n 1) 0 := r235 (len := 1) (by decide +kernel) rfl
theorem e235_1 : amT 235 1 4 (.ifCond .ge 7) 0 := r235 (len := 3) (by decide +kernel) rfl
theorem t235_1 : amTg 1 7 = some 8 := by decide
theorem e235_4 : amT 235 4 5 (.iconst (-1)) 0 := r235 (len := 1) (by decide +kernel) rfl
theorem e235_5 : amT 235 5 8 (.goto 22) 0 := r235 (len := 3) (by decide +kernel) rfl
theorem t235_5 : amTg 5 22 = some 27 := by decide
theorem e235_8 : amT 235 8 9 (.iload_n 1) 0 := r235 (len := 1) (by decide +kernel) rfl
theorem e235_9 : amT 235 9 10 (.aload_n 0) 0 := r235 (len := 1) (by decide +kernel) rfl
theorem e235_10 : amT 235 10 13 (.getfield 408) 813 := r235 (len := 3) (by decide +kernel) rfl
theorem e235_13 : amT 235 13 16 (.if_icmp .ge 12) 0 := r235 (len := 3) (by decide +kernel) rfl
theorem t235_13 : amTg 13 12 = some 25 := by decide
theorem e235_16 : amT 235 16 17 (.aload_n 0) 0 := r235 (len := 1) (by decide +kernel) rfl
theorem e235_17 : amT 235 17 20 (.getfield 95) 812 := r235 (len := 3) (by decide +kernel) rfl
theorem e235_20 : amT 235 20 21 (.iload_n 1) 0 := r235 (len := 1) (by decide +kernel) rfl
theorem e235_21 : amT 235 21 22 (.iaload) 0 := r235 (len := 1) (by decide +kernel) rfl
theorem e235_22 : amT 235 22 25 (.goto 5) 0 := r235 (len := 3) (by decide +kernel) rfl
theorem t235_22 : amTg 22 5 = some 27 := by decide
theorem e235_25 : amT 235 25 27 (.bipush (-2)) 0 := r235 (len := 2) (by decide +kernel) rfl
theorem e235_27 : amT 235 27 28 (.ireturn) 0 := r235 (len := 1) (by decide +kernel) rfl
theorem q236 : amCs.getD 236 [] = amC_236 := rfl
theorem r236 {pc pc' len op : Nat} {i : Instr} (h : amC_236.lookup pc = some (i, len, op)) (h2 : pc + len = pc') : amT 236 pc pc' i op := ⟨len, by unfold amEnt; rw [q236]; exact h, h2⟩
theorem e236_0 : amT 236 0 1 (.aload_n 0) 0 := r236 (len := 1) (by decide +kernel) rfl
theorem e236_1 : amT 236 1 4 (.getfield 101) 816 := r236 (len := 3) (by decide +kernel) rfl
theorem e236_4 : amT 236 4 5 (.iload_n 1) 0 := r236 (len := 1) (by decide +kernel) rfl
theorem e236_5 : amT 236 5 6 (.iaload) 0 := r236 (len := 1) (by decide +kernel) rfl
theorem e236_6 : amT 236 6 7 (.istore_n 3) 0 := r236 (len := 1) (by decide +kernel) rfl
theorem e236_7 : amT 236 7 8 (.aload_n 0) 0 := r236 (len := 1) (by decide +kernel) rfl
theorem e236_8 : amT 236 8 11 (.getfield 101) 816 := r236 (len := 3) (by decide +kernel) rfl
theorem e236_11 : amT 236 11 12 (.iload_n 1) 0 := r236 (len := 1) (by decide +kernel) rfl
theorem e236_12 : amT 236 12 13 (.iconst 1) 0 := r236 (len := 1) (by decide +kernel) rfl
theorem e236_13 : amT 236 13 14 (.iadd) 0 := r236 (len := 1) (by decide +kernel) rfl
theorem e236_14 : amT 236 14 15 (.iaload) 0 := r236 (len := 1) (by decide +kernel) rfl
theorem e236_15 : amT 236 15 17 (.istore 4) 0 := r236 (len := 2) (by decide +kernel) rfl
theorem e236_17 : amT 236 17 18 (.aload_n 0) 0 := r236 (len := 1) (by decide +kernel) rfl
theorem e236_18 : amT 236 18 21 (.getfield 101) 816 := r236 (len := 3) (by decide +kernel) rfl
theorem e236_21 : amT 236 21 22 (.iload_n 1) 0 := r236 (len := 1) (by decide +kernel) rfl
theorem e236_22 : amT 236 22 23 (.iconst 2) 0 := r236 (len := 1) (by decide +kernel) rfl
theorem e236_23 : amT 236 23 24 (.iadd) 0 := r236 (len := 1) (by decide +kernel) rfl
theorem e236_24 : amT 236 24 25 (.iaload) 0 := r236 (len := 1) (by decide +kernel) rfl
theorem e236_25 : amT 236 25 27 (.istore 5) 0 := r236 (len := 2) (by decide +kernel) rfl
theorem e236_27 : amT 236 27 28 (.aload_n 0) 0 := r236 (len := 1) (by decide +kernel) rfl
theorem e236_28 : amT 236 28 31 (.getfield 101) 816 := r236 (len := 3) (by decide +kernel) rfl
theorem e236_31 : amT 236 31 32 (.iload_n 1) 0 := r236 (len := 1) (by decide +kernel) rfl
theorem e236_32 : amT 236 32 33 (.iconst 3) 0 := r236 (len := 1) (by decide +kernel) rfl
theorem e236_33 : amT 236 33 34 (.iadd) 0 := r236 (len := 1) (by decide +kernel) rfl
theorem e236_34 : amT 236 34 35 (.iaload) 0 := r236 (len := 1) (by decide +kernel) rfl
theorem e236_35 : amT 236 35 37 (.istore 6) 0 := r236 (len := 2) (by decide +kernel) rfl
theorem e236_37 : amT 236 37 38 (.iload_n 3) 0 := r236 (len := 1) (by decide +kernel) rfl
theorem e236_38 : amT 236 38 40 (.iload 4) 0 := r236 (len := 2) (by decide +kernel) rfl
theorem e236_40 : amT 236 40 43 (.invokestatic 167) 167 := r236 (len := 3) (by decide +kernel) rfl
theorem e236_43 : amT 236 43 46 (.ifCond .eq 30) 0 := r236 (len := 3) (by decide +kernel) rfl
theorem t236_43 : amTg 43 30 = some 73 := by decide
theorem e236_46 : amT 236 46 48 (.iload 5) 0 := r236 (len := 2) (by decide +kernel) rfl
theorem e236_48 : amT 236 48 50 (.iload 6) 0 := r236 (len := 2) (by decide +kernel) rfl
theorem e236_50 : amT 236 50 53 (.invokestatic 167) 167 := r236 (len := 3) (by decide +kernel) rfl
theorem e236_53 : amT 236 53 56 (.ifCond .eq 20) 0 := r236 (len := 3) (by decide +kernel) rfl
theorem t236_53 : amTg 53 20 = some 73 := by decide
theorem e236_56 : amT 236 56 57 (.iload_n 3) 0 := r236 (len := 1) (by decide +kernel) rfl
theorem e236_57 : amT 236 57 58 (.i2l) 0 := r236 (len := 1) (by decide +kernel) rfl
theorem e236_58 : amT 236 58 60 (.iload 6) 0 := r236 (len := 2) (by decide +kernel) rfl
theorem e236_60 : amT 236 60 61 (.i2l) 0 := r236 (len := 1) (by decide +kernel) rfl
theorem e236_61 : amT 236 61 62 (.lmul) 0 := r236 (len := 1) (by decide +kernel) rfl
theorem e236_62 : amT 236 62 64 (.iload 5) 0 := r236 (len := 2) (by decide +kernel) rfl
theorem e236_64 : amT 236 64 65 (.i2l) 0 := r236 (len := 1) (by decide +kernel) rfl
theorem e236_65 : amT 236 65 67 (.iload 4) 0 := r236 (len := 2) (by decide +kernel) rfl
theorem e236_67 : amT 236 67 68 (.i2l) 0 := r236 (len := 1) (by decide +kernel) rfl
theorem e236_68 : amT 236 68 69 (.lmul) 0 := r236 (len := 1) (by decide +kernel) rfl
theorem e236_69 : amT 236 69 70 (.lcmp) 0 := r236 (len := 1) (by decide +kernel) rfl
theorem e236_70 : amT 236 70 73 (.ifCond .lt 5) 0 := r236 (len := 3) (by decide +kernel) rfl
theorem t236_70 : amTg 70 5 = some 75 := by decide
theorem e236_73 : amT 236 73 74 (.iconst 0) 0 := r236 (len := 1) (by decide +kernel) rfl
theorem e236_74 : amT 236 74 75 (.ireturn) 0 := r236 (len := 1) (by decide +kernel) rfl
theorem e236_75 : amT 236 75 76 (.aload_n 0) 0 := r236 (len := 1) (by decide +kernel) rfl
theorem e236_76 : amT 236 76 77 (.iconst 0) 0 := r236 (len := 1) (by decide +kernel) rfl
theorem e236_77 : amT 236 77 78 (.iload_n 3) 0 := r236 (len := 1) (by decide +kernel) rfl
theorem e236_78 : amT 236 78 79 (.i2l) 0 := r236 (len := 1) (by decide +kernel) rfl
theorem e236_79 : amT 236 79 81 (.iload 4) 0 := r236 (len := 2) (by decide +kernel) rfl
theorem e236_81 : amT 236 81 82 (.i2l) 0 := r236 (len := 1) (by decide +kernel) rfl
theorem e236_82 : amT 236 82 85 (.invokevirtual 232) 186 := r236 (len := 3) (by decide +kernel) rfl
theorem e236_85 : amT 236 85 87 (.istore 7) 0 := r236 (len := 2) (by decide +kernel) rfl
theorem e236_87 : amT 236 87 89 (.iload 7) 0 := r236 (len := 2) (by decide +kernel) rfl
theorem e236_89 : amT 236 89 90 (.aload_n 0) 0 := r236 (len := 1) (by decide +kernel) rfl
theorem e236_90 : amT 236 90 91 (.iconst 0) 0 := r236 (len := 1) (by decide +kernel) rfl
theorem e236_91 : amT 236 91 93 (.iload 5) 0 := r236 (len := 2) (by decide +kernel) rfl
theorem e236_93 : amT 236 93 94 (.i2l) 0 := r236 (len := 1) (by decide +kernel) rfl
theorem e236_94 : amT 236 94 96 (.iload 6) 0 := r236 (len := 2) (by decide +kernel) rfl
theorem e236_96 : amT 236 96 97 (.i2l) 0 := r236 (len := 1) (by decide +kernel) rfl
theorem e236_97 : amT 236 97 100 (.invokevirtual 232) 186 := r236 (len := 3) (by decide +kernel) rfl
theorem e236_100 : amT 236 100 101 (.isub) 0 := r236 (len := 1) (by decide +kernel) rfl
theorem e236_101 : amT 236 101 102 (.iconst 1) 0 := r236 (len := 1) (by decide +kernel) rfl
theorem e236_102 : amT 236 102 105 (.if_icmp .ne 20) 0 := r236 (len := 3) (by decide +kernel) rfl
theorem t236_102 : amTg 102 20 = some 122 := by decide
theorem e236_105 : amT 236 105 106 (.aload_n 0) 0 := r236 (len := 1) (by decide +kernel) rfl
theorem e236_106 : amT 236 106 107 (.iconst 0) 0 := r236 (len := 1) (by decide +kernel) rfl
theorem e236_107 : amT 236 107 108 (.iconst (-1)) 0 := r236 (len := 1) (by decide +kernel) rfl
theorem e236_108 : amT 236 108 111 (.invokevirtual 221) 187 := r236 (len := 3) (by decide +kernel) rfl
theorem e236_111 : amT 236 111 113 (.iload 7) 0 := r236 (len := 2) (by decide +kernel) rfl
theorem e236_113 : amT 236 113 114 (.isub) 0 := r236 (len := 1) (by decide +kernel) rfl
theorem e236_114 : amT 236 114 115 (.iload_n 2) 0 := r236 (len := 1) (by decide +kernel) rfl
theorem e236_115 : amT 236 115 118 (.if_icmp .ne 7) 0 := r236 (len := 3) (by decide +kernel) rfl
theorem t236_115 : amTg 115 7 = some 122 := by decide
theorem e236_118 : amT 236 118 119 (.iconst 1) 0 := r236 (len := 1) (by decide +kernel) rfl
theorem e236_119 : amT 236 119 122 (.goto 4) 0 := r236 (len := 3) (by decide +kernel) rfl
theorem t236_119 : amTg 119 4 = some 123 := by decide
theorem e236_122 : amT 236 122 123 (.iconst 0) 0 := r236 (len := 1) (by decide +kernel) rfl
theorem e236_123 : amT 236 123 124 (.ireturn) 0 := r236 (len := 1) (by decide +kernel) rfl
theorem q237 : amCs.getD 237 [] = amC_237 := rfl
theorem r237 {pc pc' len op : Nat} {i : Instr} (h : amC_237.lookup pc = some (i, len, op)) (h2 : pc + len = pc') : amT 237 pc pc' i op := ⟨len, by unfold amEnt; rw [q237]; exact h, h2⟩
theorem e237_0 : amT 237 0 1 (.aload_n 0) 0 := r237 (len := 1) (by decide +kernel) rfl
theorem e237_1 : amT 237 1 2 (.iload_n 1) 0 := r237 (len := 1) (by decide +kernel) rfl
theorem e237_2 : amT 237 2 5 (.invokevirtual 135) 157 := r237 (len := 3) (by decide +kernel) rfl
theorem e237_5 : amT 237 5 8 (.ifCond .eq 14) 0 := r237 (len := 3) (by decide +kernel) rfl
theorem t237_5 : amTg 5 14 = some 19 := by decide
theorem e237_8 : amT 237 8 9 (.iload_n 2) 0 := r237 (len := 1) (by decide +kernel) rfl
theorem e237_9 : amT 237 9 12 (.invokestatic 417) 240 := r237 (len := 3) (by decide +kernel) rfl
theorem e237_12 : amT 237 12 15 (.ifCond .eq 7) 0 := r237 (len := 3) (by decide +kernel) rfl
theorem t237_12 : amTg 12 7 = some 19 := by decide
theorem e237_15 : amT 237 15 16 (.iload_n 3) 0 := r237 (len := 1) (by decide +kernel) rfl
theorem e237_16 : amT 237 16 19 (.ifCond .ge 5) 0 := r237 (len := 3) (by decide +kernel) rfl
theorem t237_16 : amTg 16 5 = some 21 := by decide
theorem e237_19 : amT 237 19 20 (.iconst (-1)) 0 := r237 (len := 1) (by decide +kernel) rfl
theorem e237_20 : amT 237 20 21 (.ireturn) 0 := r237 (len := 1) (by decide +kernel) rfl
theorem e237_21 : amT 237 21 22 (.aload_n 0) 0 := r237 (len := 1) (by decide +kernel) rfl
theorem e237_22 : amT 237 22 25 (.getfield 98) 815 := r237 (len := 3) (by decide +kernel) rfl
theorem e237_25 : amT 237 25 26 (.iload_n 2) 0 := r237 (len := 1) (by decide +kernel) rfl
theorem e237_26 : amT 237 26 27 (.iaload) 0 := r237 (len := 1) (by decide +kernel) rfl
theorem e237_27 : amT 237 27 30 (.ifCond .ge 6) 0 := r237 (len := 3) (by decide +kernel) rfl
theorem t237_27 : amTg 27 6 = some 33 := by decide
theorem e237_30 : amT 237 30 32 (.bipush (-11)) 0 := r237 (len := 2) (by decide +kernel) rfl
theorem e237_32 : amT 237 32 33 (.ireturn) 0 := r237 (len := 1) (by decide +kernel) rfl
theorem e237_33 : amT 237 33 34 (.aload_n 0) 0 := r237 (len := 1) (by decide +kernel) rfl
theorem e237_34 : amT 237 34 37 (.invokevirtual 225) 189 := r237 (len := 3) (by decide +kernel) rfl
theorem e237_37 : amT 237 37 38 (.aload_n 0) 0 := r237 (len := 1) (by decide +kernel) rfl
theorem e237_38 : amT 237 38 39 (.iconst 0) 0 := r237 (len := 1) (by decide +kernel) rfl
theorem e237_39 : amT 237 39 40 (.iload_n 1) 0 := r237 (len := 1) (by decide +kernel) rfl
theorem e237_40 : amT 237 40 43 (.invokevirtual 228) 185 := r237 (len := 3) (by decide +kernel) rfl
theorem e237_43 : amT 237 43 44 (.aload_n 0) 0 := r237 (len := 1) (by decide +kernel) rfl
theorem e237_44 : amT 237 44 47 (.getfield 111) 777 := r237 (len := 3) (by decide +kernel) rfl
theorem e237_47 : amT 237 47 50 (.ifCond .eq 6) 0 := r237 (len := 3) (by decide +kernel) rfl
theorem t237_47 : amTg 47 6 = some 53 := by decide
theorem e237_50 : amT 237 50 52 (.bipush (-3)) 0 := r237 (len := 2) (by decide +kernel) rfl
theorem e237_52 : amT 237 52 53 (.ireturn) 0 := r237 (len := 1) (by decide +kernel) rfl
theorem e237_53 : amT 237 53 54 (.aload_n 0) 0 := r237 (len := 1) (by decide +kernel) rfl
theorem e237_54 : amT 237 54 55 (.iconst 0) 0 := r237 (len := 1) (by decide +kernel) rfl
theorem e237_55 : amT 237 55 58 (.invokevirtual 236) 188 := r237 (len := 3) (by decide +kernel) rfl
theorem e237_58 : amT 237 58 60 (.istore 4) 0 := r237 (len := 2) (by decide +kernel) rfl
theorem e237_60 : amT 237 60 61 (.iconst 0) 0 := r237 (len := 1) (by decide +kernel) rfl
theorem e237_61 : amT 237 61 63 (.istore 5) 0 := r237 (len := 2) (by decide +kernel) rfl
theorem e237_63 : amT 237 63 65 (.iload 5) 0 := r237 (len := 2) (by decide +kernel) rfl
theorem e237_65 : amT 237 65 67 (.iload 4) 0 := r237 (len := 2) (by decide +kernel) rfl
theorem e237_67 : amT 237 67 70 (.if_icmp .ge 64) 0 := r237 (len := 3) (by decide +kernel) rfl
theorem t237_67 : amTg 67 64 = some 131 := by decide
theorem e237_70 : amT 237 70 71 (.iload_n 3) 0 := r237 (len := 1) (by decide +kernel) rfl
theorem e237_71 : amT 237 71 72 (.i2l) 0 := r237 (len := 1) (by decide +kernel) rfl
theorem e237_72 : amT 237 72 75 (.ldc2_w 138) 7 := r237 (len := 3) (by decide +kernel) rfl
theorem e237_75 : amT 237 75 77 (.iload 5) 0 := r237 (len := 2) (by decide +kernel) rfl
theorem e237_77 : amT 237 77 78 (.i2l) 0 := r237 (len := 1) (by decide +kernel) rfl
theorem e237_78 : amT 237 78 79 (.lmul) 0 := r237 (len := 1) (by decide +kernel) rfl
theorem e237_79 : amT 237 79 80 (.ladd) 0 := r237 (len := 1) (by decide +kernel) rfl
theorem e237_80 : amT 237 80 82 (.lstore 6) 0 := r237 (len := 2) (by decide +kernel) rfl
theorem e237_82 : amT 237 82 84 (.lload 6) 0 := r237 (len := 2) (by decide +kernel) rfl
theorem e237_84 : amT 237 84 87 (.ldc2_w 138) 7 := r237 (len := 3) (by decide +kernel) rfl
theorem e237_87 : amT 237 87 88 (.ladd) 0 := r237 (len := 1) (by decide +kernel) rfl
theorem e237_88 : amT 237 88 89 (.aload_n 0) 0 := r237 (len := 1) (by decide +kernel) rfl
theorem e237_89 : amT 237 89 92 (.getfield 98) 815 := r237 (len := 3) (by decide +kernel) rfl
theorem e237_92 : amT 237 92 93 (.iload_n 2) 0 := r237 (len := 1) (by decide +kernel) rfl
theorem e237_93 : amT 237 93 94 (.iaload) 0 := r237 (len := 1) (by decide +kernel) rfl
theorem e237_94 : amT 237 94 95 (.i2l) 0 := r237 (len := 1) (by decide +kernel) rfl
theorem e237_95 : amT 237 95 96 (.lcmp) 0 := r237 (len := 1) (by decide +kernel) rfl
theorem e237_96 : amT 237 96 99 (.ifCond .le 9) 0 := r237 (len := 3) (by decide +kernel) rfl
theorem t237_96 : amTg 96 9 = some 105 := by decide
theorem e237_99 : amT 237 99 101 (.bipush 100) 0 := r237 (len := 2) (by decide +kernel) rfl
theorem e237_101 : amT 237 101 103 (.iload 5) 0 := r237 (len := 2) (by decide +kernel) rfl
theorem e237_103 : amT 237 103 104 (.iadd) 0 := r237 (len := 1) (by decide +kernel) rfl
theorem e237_104 : amT 237 104 105 (.ireturn) 0 := r237 (len := 1) (by decide +kernel) rfl
theorem e237_105 : amT 237 105 106 (.aload_n 0) 0 := r237 (len := 1) (by decide +kernel) rfl
theorem e237_106 : amT 237 106 108 (.bipush 24) 0 := r237 (len := 2) (by decide +kernel) rfl
theorem e237_108 : amT 237 108 109 (.iload_n 2) 0 := r237 (len := 1) (by decide +kernel) rfl
theorem e237_109 : amT 237 109 110 (.imul) 0 := r237 (len := 1) (by decide +kernel) rfl
theorem e237_110 : amT 237 110 112 (.lload 6) 0 := r237 (len := 2) (by decide +kernel) rfl
theorem e237_112 : amT 237 112 113 (.l2i) 0 := r237 (len := 1) (by decide +kernel) rfl
theorem e237_113 : amT 237 113 114 (.iadd) 0 := r237 (len := 1) (by decide +kernel) rfl
theorem e237_114 : amT 237 114 116 (.iload 5) 0 := r237 (len := 2) (by decide +kernel) rfl
theorem e237_116 : amT 237 116 119 (.invokevirtual 420) 236 := r237 (len := 3) (by decide +kernel) rfl
theorem e237_119 : amT 237 119 122 (.ifCond .ne 6) 0 := r237 (len := 3) (by decide +kernel) rfl
theorem t237_119 : amTg 119 6 = some 125 := by decide
theorem e237_122 : amT 237 122 124 (.iload 5) 0 := r237 (len := 2) (by decide +kernel) rfl
theorem e237_124 : amT 237 124 125 (.ireturn) 0 := r237 (len := 1) (by decide +kernel) rfl
theorem e237_125 : amT 237 125 128 (.iinc 5 1) 0 := r237 (len := 3) (by decide +kernel) rfl
theorem e237_128 : amT 237 128 131 (.goto (-65)) 0 := r237 (len := 3) (by decide +kernel) rfl
theorem t237_128 : amTg 128 (-65) = some 63 := by decide
theorem e237_131 : amT 237 131 133 (.bipush (-5)) 0 := r237 (len := 2) (by decide +kernel) rfl
theorem e237_133 : amT 237 133 134 (.ireturn) 0 := r237 (len := 1) (by decide +kernel) rfl
theorem q238 : amCs.getD 238 [] = amC_238 := rfl
theorem r238 {pc pc' len op : Nat} {i : Instr} (h : amC_238.lookup pc = some (i, len, op)) (h2 : pc + len = pc') : amT 238 pc pc' i op := ⟨len, by unfold amEnt; rw [q238]; exact h, h2⟩
theorem e238_0 : amT 238 0 1 (.aload_n 0) 0 := r238 (len := 1) (by decide +kernel) rfl
theorem e238_1 : amT 238 1 2 (.aload_n 0) 0 := r238 (len := 1) (by decide +kernel) rfl
theorem e238_2 : amT 238 2 5 (.getfield 423) 814 := r238 (len := 3) (by decide +kernel) rfl
theorem e238_5 : amT 238 5 8 (.ldc_w 426) 0 := r238 (len := 3) (by decide +kernel) rfl
theorem e238_8 : amT 238 8 9 (.imul) 0 := r238 (len := 1) (by decide +kernel) rfl
theorem e238_9 : amT 238 9 12 (.sipush 12345) 0 := r238 (len := 3) (by decide +kernel) rfl
theorem e238_12 : amT 238 12 13 (.iadd) 0 := r238 (len := 1) (by decide +kernel) rfl
theorem e238_13 : amT 238 13 16 (.putfield 423) 814 := r238 (len := 3) (by decide +kernel) rfl
theorem e238_16 : amT 238 16 17 (.aload_n 0) 0 := r238 (len := 1) (by decide +kernel) rfl
theorem e238_17 : amT 238 17 20 (.getfield 423) 814 := r238 (len := 3) (by decide +kernel) rfl
theorem e238_20 : amT 238 20 23 (.ldc_w 427) 1 := r238 (len := 3) (by decide +kernel) rfl
theorem e238_23 : amT 238 23 24 (.iand) 0 := r238 (len := 1) (by decide +kernel) rfl
theorem e238_24 : amT 238 24 27 (.ldc_w 428) 2 := r238 (len := 3) (by decide +kernel) rfl
theorem e238_27 : amT 238 27 28 (.idiv) 0 := r238 (len := 1) (by decide +kernel) rfl
theorem e238_28 : amT 238 28 29 (.iload_n 1) 0 := r238 (len := 1) (by decide +kernel) rfl
theorem e238_29 : amT 238 29 30 (.irem) 0 := r238 (len := 1) (by decide +kernel) rfl
theorem e238_30 : amT 238 30 31 (.ireturn) 0 := r238 (len := 1) (by decide +kernel) rfl
theorem q239 : amCs.getD 239 [] = amC_239 := rfl
theorem r239 {pc pc' len op : Nat} {i : Instr} (h : amC_239.lookup pc = some (i, len, op)) (h2 : pc + len = pc') : amT 239 pc pc' i op := ⟨len, by unfold amEnt; rw [q239]; exact h, h2⟩
theorem e239_0 : amT 239 0 1 (.iload_n 1) 0 := r239 (len := 1) (by decide +kernel) rfl
theorem e239_1 : amT 239 1 2 (.i2l) 0 := r239 (len := 1) (by decide +kernel) rfl
theorem e239_2 : amT 239 2 3 (.lconst 1) 0 := r239 (len := 1) (by decide +kernel) rfl
theorem e239_3 : amT 239 3 6 (.ldc2_w 429) 22 := r239 (len := 3) (by decide +kernel) rfl
theorem e239_6 : amT 239 6 9 (.invokestatic 107) 152 := r239 (len := 3) (by decide +kernel) rfl
theorem e239_9 : amT 239 9 12 (.ifCond .eq 27) 0 := r239 (len := 3) (by decide +kernel) rfl
theorem t239_9 : amTg 9 27 = some 36 := by decide
theorem e239_12 : amT 239 12 13 (.iload_n 2) 0 := r239 (len := 1) (by decide +kernel) rfl
theorem e239_13 : amT 239 13 14 (.i2l) 0 := r239 (len := 1) (by decide +kernel) rfl
theorem e239_14 : amT 239 14 15 (.lconst 1) 0 := r239 (len := 1) (by decide +kernel) rfl
theorem e239_15 : amT 239 15 18 (.ldc2_w 257) 11 := r239 (len := 3) (by decide +kernel) rfl
theorem e239_18 : amT 239 18 21 (.invokestatic 107) 152 := r239 (len := 3) (by decide +kernel) rfl
theorem e239_21 : amT 239 21 24 (.ifCond .eq 15) 0 := r239 (len := 3) (by decide +kernel) rfl
theorem t239_21 : amTg 21 15 = some 36 := by decide
theorem e239_24 : amT 239 24 25 (.iload_n 3) 0 := r239 (len := 1) (by decide +kernel) rfl
theorem e239_25 : amT 239 25 26 (.i2l) 0 := r239 (len := 1) (by decide +kernel) rfl
theorem e239_26 : amT 239 26 27 (.lconst 1) 0 := r239 (len := 1) (by decide +kernel) rfl
theorem e239_27 : amT 239 27 30 (.ldc2_w 255) 10 := r239 (len := 3) (by decide +kernel) rfl
theorem e239_30 : amT 239 30 33 (.invokestatic 107) 152 := r239 (len := 3) (by decide +kernel) rfl
theorem e239_33 : amT 239 33 36 (.ifCond .ne 5) 0 := r239 (len := 3) (by decide +kernel) rfl
theorem t239_33 : amTg 33 5 = some 38 := by decide
theorem e239_36 : amT 239 36 37 (.iconst (-1)) 0 := r239 (len := 1) (by decide +kernel) rfl
theorem e239_37 : amT 239 37 38 (.ireturn) 0 := r239 (len := 1) (by decide +kernel) rfl
theorem e239_38 : amT 239 38 39 (.aload_n 0) 0 := r239 (len := 1) (by decide +kernel) rfl
theorem e239_39 : amT 239 39 41 (.iload 4) 0 := r239 (len := 2) (by decide +kernel) rfl
theorem e239_41 : amT 239 41 44 (.putfield 423) 814 := r239 (len := 3) (by decide +kernel) rfl
theorem e239_44 : amT 239 44 45 (.aload_n 0) 0 := r239 (len := 1) (by decide +kernel) rfl
theorem e239_45 : amT 239 45 48 (.invokevirtual 225) 189 := r239 (len := 3) (by decide +kernel) rfl
theorem e239_48 : amT 239 48 49 (.iconst 0) 0 := r239 (len := 1) (by decide +kernel) rfl
theorem e239_49 : amT 239 49 51 (.istore 5) 0 := r239 (len := 2) (by decide +kernel) rfl
theorem e239_51 : amT 239 51 52 (.iconst 0) 0 := r239 (len := 1) (by decide +kernel) rfl
theorem e239_52 : amT 239 52 54 (.istore 6) 0 := r239 (len := 2) (by decide +kernel) rfl
theorem e239_54 : amT 239 54 56 (.iload 6) 0 := r239 (len := 2) (by decide +kernel) rfl
theorem e239_56 : amT 239 56 57 (.iload_n 1) 0 := r239 (len := 1) (by decide +kernel) rfl
theorem e239_57 : amT 239 57 60 (.if_icmp .ge 106) 0 := r239 (len := 3) (by decide +kernel) rfl
theorem t239_57 : amTg 57 106 = some 163 := by decide
theorem e239_60 : amT 239 60 61 (.aload_n 0) 0 := r239 (len := 1) (by decide +kernel) rfl
theorem e239_61 : amT 239 61 64 (.getfield 36) 775 := r239 (len := 3) (by decide +kernel) rfl
theorem e239_64 : amT 239 64 67 (.invokestatic 127) 171 := r239 (len := 3) (by decide +kernel) rfl
theorem e239_67 : amT 239 67 68 (.iconst 0) 0 := r239 (len := 1) (by decide +kernel) rfl
theorem e239_68 : amT 239 68 70 (.istore 7) 0 := r239 (len := 2) (by decide +kernel) rfl
theorem e239_70 : amT 239 70 72 (.iload 7) 0 := r239 (len := 2) (by decide +kernel) rfl
theorem e239_72 : amT 239 72 73 (.iload_n 2) 0 := r239 (len := 1) (by decide +kernel) rfl
theorem e239_73 : amT 239 73 76 (.if_icmp .gt 28) 0 := r239 (len := 3) (by decide +kernel) rfl
theorem t239_73 : amTg 73 28 = some 101 := by decide
theorem e239_76 : amT 239 76 77 (.aload_n 0) 0 := r239 (len := 1) (by decide +kernel) rfl
theorem e239_77 : amT 239 77 80 (.getfield 36) 775 := r239 (len := 3) (by decide +kernel) rfl
theorem e239_80 : amT 239 80 82 (.iload 7) 0 := r239 (len := 2) (by decide +kernel) rfl
theorem e239_82 : amT 239 82 83 (.aload_n 0) 0 := r239 (len := 1) (by decide +kernel) rfl
theorem e239_83 : amT 239 83 84 (.iconst 2) 0 := r239 (len := 1) (by decide +kernel) rfl
theorem e239_84 : amT 239 84 85 (.iload_n 3) 0 := r239 (len := 1) (by decide +kernel) rfl
theorem e239_85 : amT 239 85 86 (.imul) 0 := r239 (len := 1) (by decide +kernel) rfl
theorem e239_86 : amT 239 86 87 (.iconst 1) 0 := r239 (len := 1) (by decide +kernel) rfl
theorem e239_87 : amT 239 87 88 (.iadd) 0 := r239 (len := 1) (by decide +kernel) rfl
theorem e239_88 : amT 239 88 91 (.invokevirtual 431) 238 := r239 (len := 3) (by decide +kernel) rfl
theorem e239_91 : amT 239 91 92 (.iload_n 3) 0 := r239 (len := 1) (by decide +kernel) rfl
theorem e239_92 : amT 239 92 93 (.isub) 0 := r239 (len := 1) (by decide +kernel) rfl
theorem e239_93 : amT 239 93 94 (.i2l) 0 := r239 (len := 1) (by decide +kernel) rfl
theorem e239_94 : amT 239 94 95 (.lastore) 0 := r239 (len := 1) (by decide +kernel) rfl
theorem e239_95 : amT 239 95 98 (.iinc 7 1) 0 := r239 (len := 3) (by decide +kernel) rfl
theorem e239_98 : amT 239 98 101 (.goto (-28)) 0 := r239 (len := 3) (by decide +kernel) rfl
theorem t239_98 : amTg 98 (-28) = some 70 := by decide
theorem e239_101 : amT 239 101 102 (.aload_n 0) 0 := r239 (len := 1) (by decide +kernel) rfl
theorem e239_102 : amT 239 102 105 (.getfield 36) 775 := r239 (len := 3) (by decide +kernel) rfl
theorem e239_105 : amT 239 105 106 (.iload_n 2) 0 := r239 (len := 1) (by decide +kernel) rfl
theorem e239_106 : amT 239 106 107 (.aload_n 0) 0 := r239 (len := 1) (by decide +kernel) rfl
theorem e239_107 : amT 239 107 110 (.getfield 36) 775 := r239 (len := 3) (by decide +kernel) rfl
theorem e239_110 : amT 239 110 111 (.iload_n 2) 0 := r239 (len := 1) (by decide +kernel) rfl
theorem e239_111 : amT 239 111 112 (.laload) 0 := r239 (len := 1) (by decide +kernel) rfl
theorem e239_112 : amT 239 112 113 (.lconst 0) 0 := r239 (len := 1) (by decide +kernel) rfl
theorem e239_113 : amT 239 113 114 (.lcmp) 0 := r239 (len := 1) (by decide +kernel) rfl
theorem e239_114 : amT 239 114 117 (.ifCond .ne 7) 0 := r239 (len := 3) (by decide +kernel) rfl
theorem t239_114 : amTg 114 7 = some 121 := by decide
theorem e239_117 : amT 239 117 118 (.lconst 1) 0 := r239 (len := 1) (by decide +kernel) rfl
theorem e239_118 : amT 239 118 121 (.goto 9) 0 := r239 (len := 3) (by decide +kernel) rfl
theorem t239_118 : amTg 118 9 = some 127 := by decide
theorem e239_121 : amT 239 121 122 (.aload_n 0) 0 := r239 (len := 1) (by decide +kernel) rfl
theorem e239_122 : amT 239 122 125 (.getfield 36) 775 := r239 (len := 3) (by decide +kernel) rfl
theorem e239_125 : amT 239 125 126 (.iload_n 2) 0 := r239 (len := 1) (by decide +kernel) rfl
theorem e239_126 : amT 239 126 127 (.laload) 0 := r239 (len := 1) (by decide +kernel) rfl
theorem e239_127 : amT 239 127 128 (.lastore) 0 := r239 (len := 1) (by decide +kernel) rfl
theorem e239_128 : amT 239 128 129 (.aload_n 0) 0 := r239 (len := 1) (by decide +kernel) rfl
theorem e239_129 : amT 239 129 130 (.iconst 0) 0 := r239 (len := 1) (by decide +kernel) rfl
theorem e239_130 : amT 239 130 131 (.aload_n 0) 0 := r239 (len := 1) (by decide +kernel) rfl
theorem e239_131 : amT 239 131 134 (.getfield 36) 775 := r239 (len := 3) (by decide +kernel) rfl
theorem e239_134 : amT 239 134 137 (.invokevirtual 218) 184 := r239 (len := 3) (by decide +kernel) rfl
theorem e239_137 : amT 239 137 138 (.aload_n 0) 0 := r239 (len := 1) (by decide +kernel) rfl
theorem e239_138 : amT 239 138 141 (.getfield 111) 777 := r239 (len := 3) (by decide +kernel) rfl
theorem e239_141 : amT 239 141 144 (.ifCond .eq 6) 0 := r239 (len := 3) (by decide +kernel) rfl
theorem t239_141 : amTg 141 6 = some 147 := by decide
theorem e239_144 : amT 239 144 146 (.bipush (-3)) 0 := r239 (len := 2) (by decide +kernel) rfl
theorem e239_146 : amT 239 146 147 (.ireturn) 0 := r239 (len := 1) (by decide +kernel) rfl
theorem e239_147 : amT 239 147 149 (.iload 5) 0 := r239 (len := 2) (by decide +kernel) rfl
theorem e239_149 : amT 239 149 150 (.aload_n 0) 0 := r239 (len := 1) (by decide +kernel) rfl
theorem e239_150 : amT 239 150 151 (.iconst 0) 0 := r239 (len := 1) (by decide +kernel) rfl
theorem e239_151 : amT 239 151 154 (.invokevirtual 236) 188 := r239 (len := 3) (by decide +kernel) rfl
theorem e239_154 : amT 239 154 155 (.iadd) 0 := r239 (len := 1) (by decide +kernel) rfl
theorem e239_155 : amT 239 155 157 (.istore 5) 0 := r239 (len := 2) (by decide +kernel) rfl
theorem e239_157 : amT 239 157 160 (.iinc 6 1) 0 := r239 (len := 3) (by decide +kernel) rfl
theorem e239_160 : amT 239 160 163 (.goto (-106)) 0 := r239 (len := 3) (by decide +kernel) rfl
theorem t239_160 : amTg 160 (-106) = some 54 := by decide
theorem e239_163 : amT 239 163 165 (.iload 5) 0 := r239 (len := 2) (by decide +kernel) rfl
theorem e239_165 : amT 239 165 166 (.ireturn) 0 := r239 (len := 1) (by decide +kernel) rfl
theorem q240 : amCs.getD 240 [] = amC_240 := rfl
theorem r240 {pc pc' len op : Nat} {i : Instr} (h : amC_240.lookup pc = some (i, len, op)) (h2 : pc + len = pc') : amT 240 pc pc' i op := ⟨len, by unfold amEnt; rw [q240]; exact h, h2⟩
theorem e240_0 : amT 240 0 1 (.iload_n 0) 0 := r240 (len := 1) (by decide +kernel) rfl
theorem e240_1 : amT 240 1 2 (.i2l) 0 := r240 (len := 1) (by decide +kernel) rfl
theorem e240_2 : amT 240 2 3 (.lconst 0) 0 := r240 (len := 1) (by decide +kernel) rfl
theorem e240_3 : amT 240 3 6 (.ldc2_w 257) 11 := r240 (len := 3) (by decide +kernel) rfl
theorem e240_6 : amT 240 6 9 (.invokestatic 107) 152 := r240 (len := 3) (by decide +kernel) rfl
theorem e240_9 : amT 240 9 10 (.ireturn) 0 := r240 (len := 1) (by decide +kernel) rfl
theorem q241 : amCs.getD 241 [] = amC_241 := rfl
theorem r241 {pc pc' len op : Nat} {i : Instr} (h : amC_241.lookup pc = some (i, len, op)) (h2 : pc + len = pc') : amT 241 pc pc' i op := ⟨len, by unfold amEnt; rw [q241]; exact h, h2⟩
theorem e241_0 : amT 241 0 1 (.iload_n 1) 0 := r241 (len := 1) (by decide +kernel) rfl
theorem e241_1 : amT 241 1 4 (.invokestatic 417) 240 := r241 (len := 3) (by decide +kernel) rfl
theorem e241_4 : amT 241 4 7 (.ifCond .eq 9) 0 := r241 (len := 3) (by decide +kernel) rfl
theorem t241_4 : amTg 4 9 = some 13 := by decide
theorem e241_7 : amT 241 7 8 (.iload_n 2) 0 := r241 (len := 1) (by decide +kernel) rfl
theorem e241_8 : amT 241 8 10 (.bipush 24) 0 := r241 (len := 2) (by decide +kernel) rfl
theorem e241_10 : amT 241 10 13 (.if_icmp .le 5) 0 := r241 (len := 3) (by decide +kernel) rfl
theorem t241_10 : amTg 10 5 = some 15 := by decide
theorem e241_13 : amT 241 13 14 (.iconst (-1)) 0 := r241 (len := 1) (by decide +kernel) rfl
theorem e241_14 : amT 241 14 15 (.ireturn) 0 := r241 (len := 1) (by decide +kernel) rfl
theorem e241_15 : amT 241 15 16 (.iload_n 2) 0 := r241 (len := 1) (by decide +kernel) rfl
theorem e241_16 : amT 241 16 19 (.ifCond .ge 6) 0 := r241 (len := 3) (by decide +kernel) rfl
theorem t241_16 : amTg 16 6 = some 22 := by decide
theorem e241_19 : amT 241 19 21 (.bipush (-14)) 0 := r241 (len := 2) (by decide +kernel) rfl
theorem e241_21 : amT 241 21 22 (.ireturn) 0 := r241 (len := 1) (by decide +kernel) rfl
theorem e241_22 : amT 241 22 23 (.aload_n 0) 0 := r241 (len := 1) (by decide +kernel) rfl
theorem e241_23 : amT 241 23 26 (.getfield 98) 815 := r241 (len := 3) (by decide +kernel) rfl
theorem e241_26 : amT 241 26 27 (.iload_n 1) 0 := r241 (len := 1) (by decide +kernel) rfl
theorem e241_27 : amT 241 27 28 (.iload_n 2) 0 := r241 (len := 1) (by decide +kernel) rfl
theorem e241_28 : amT 241 28 29 (.iastore) 0 := r241 (len := 1) (by decide +kernel) rfl
theorem e241_29 : amT 241 29 30 (.iconst 0) 0 := r241 (len := 1) (by decide +kernel) rfl
theorem e241_30 : amT 241 30 31 (.istore_n 3) 0 := r241 (len := 1) (by decide +kernel) rfl
theorem e241_31 : amT 241 31 32 (.iload_n 3) 0 := r241 (len := 1) (by decide +kernel) rfl
theorem e241_32 : amT 241 32 34 (.bipush 24) 0 := r241 (len := 2) (by decide +kernel) rfl
theorem e241_34 : amT 241 34 37 (.if_icmp .ge 21) 0 := r241 (len := 3) (by decide +kernel) rfl
theorem t241_34 : amTg 34 21 = some 55 := by decide
theorem e241_37 : amT 241 37 38 (.aload_n 0) 0 := r241 (len := 1) (by decide +kernel) rfl
theorem e241_38 : amT 241 38 41 (.getfield 101) 816 := r241 (len := 3) (by decide +kernel) rfl
theorem e241_41 : amT 241 41 43 (.bipush 24) 0 := r241 (len := 2) (by decide +kernel) rfl
theorem e241_43 : amT 241 43 44 (.iload_n 1) 0 := r241 (len := 1) (by decide +kernel) rfl
theorem e241_44 : amT 241 44 45 (.imul) 0 := r241 (len := 1) (by decide +kernel) rfl
theorem e241_45 : amT 241 45 46 (.iload_n 3) 0 := r241 (len := 1) (by decide +kernel) rfl
theorem e241_46 : amT 241 46 47 (.iadd) 0 := r241 (len := 1) (by decide +kernel) rfl
theorem e241_47 : amT 241 47 48 (.iconst 0) 0 := r241 (len := 1) (by decide +kernel) rfl
theorem e241_48 : amT 241 48 49 (.iastore) 0 := r241 (len := 1) (by decide +kernel) rfl
theorem e241_49 : amT 241 49 52 (.iinc 3 1) 0 := r241 (len := 3) (by decide +kernel) rfl
theorem e241_52 : amT 241 52 55 (.goto (-21)) 0 := r241 (len := 3) (by decide +kernel) rfl
theorem t241_52 : amTg 52 (-21) = some 31 := by decide
theorem e241_55 : amT 241 55 56 (.iconst 1) 0 := r241 (len := 1) (by decide +kernel) rfl
theorem e241_56 : amT 241 56 57 (.ireturn) 0 := r241 (len := 1) (by decide +kernel) rfl
theorem q242 : amCs.getD 242 [] = amC_242 := rfl
theorem r242 {pc pc' len op : Nat} {i : Instr} (h : amC_242.lookup pc = some (i, len, op)) (h2 : pc + len = pc') : amT 242 pc pc' i op := ⟨len, by unfold amEnt; rw [q242]; exact h, h2⟩
theorem e242_0 : amT 242 0 1 (.iload_n 1) 0 := r242 (len := 1) (by decide +kernel) rfl
theorem e242_1 : amT 242 1 4 (.invokestatic 417) 240 := r242 (len := 3) (by decide +kernel) rfl
theorem e242_4 : amT 242 4 7 (.ifCond .ne 5) 0 := r242 (len := 3) (by decide +kernel) rfl
theorem t242_4 : amTg 4 5 = some 9 := by decide
theorem e242_7 : amT 242 7 8 (.iconst (-1)) 0 := r242 (len := 1) (by decide +kernel) rfl
theorem e242_8 : amT 242 8 9 (.ireturn) 0 := r242 (len := 1) (by decide +kernel) rfl
theorem e242_9 : amT 242 9 10 (.aload_n 0) 0 := r242 (len := 1) (by decide +kernel) rfl
theorem e242_10 : amT 242 10 13 (.getfield 98) 815 := r242 (len := 3) (by decide +kernel) rfl
theorem e242_13 : amT 242 13 14 (.iload_n 1) 0 := r242 (len := 1) (by decide +kernel) rfl
theorem e242_14 : amT 242 14 15 (.iaload) 0 := r242 (len := 1) (by decide +kernel) rfl
theorem e242_15 : amT 242 15 18 (.ifCond .ge 6) 0 := r242 (len := 3) (by decide +kernel) rfl
theorem t242_15 : amTg 15 6 = some 21 := by decide
theorem e242_18 : amT 242 18 20 (.bipush (-11)) 0 := r242 (len := 2) (by decide +kernel) rfl
theorem e242_20 : amT 242 20 21 (.ireturn) 0 := r242 (len := 1) (by decide +kernel) rfl
theorem e242_21 : amT 242 21 22 (.iload_n 2) 0 := r242 (len := 1) (by decide +kernel) rfl
theorem e242_22 : amT 242 22 23 (.i2l) 0 := r242 (len := 1) (by decide +kernel) rfl
theorem e242_23 : amT 242 23 24 (.lconst 0) 0 := r242 (len := 1) (by decide +kernel) rfl
theorem e242_24 : amT 242 24 25 (.aload_n 0) 0 := r242 (len := 1) (by decide +kernel) rfl
theorem e242_25 : amT 242 25 28 (.getfield 98) 815 := r242 (len := 3) (by decide +kernel) rfl
theorem e242_28 : amT 242 28 29 (.iload_n 1) 0 := r242 (len := 1) (by decide +kernel) rfl
theorem e242_29 : amT 242 29 30 (.iaload) 0 := r242 (len := 1) (by decide +kernel) rfl
theorem e242_30 : amT 242 30 31 (.iconst 1) 0 := r242 (len := 1) (by decide +kernel) rfl
theorem e242_31 : amT 242 31 32 (.isub) 0 := r242 (len := 1) (by decide +kernel) rfl
theorem e242_32 : amT 242 32 33 (.i2l) 0 := r242 (len := 1) (by decide +kernel) rfl
theorem e242_33 : amT 242 33 36 (.invokestatic 107) 152 := r242 (len := 3) (by decide +kernel) rfl
theorem e242_36 : amT 242 36 39 (.ifCond .ne 6) 0 := r242 (len := 3) (by decide +kernel) rfl
theorem t242_36 : amTg 36 6 = some 42 := by decide
theorem e242_39 : amT 242 39 41 (.bipush (-13)) 0 := r242 (len := 2) (by decide +kernel) rfl
theorem e242_41 : amT 242 41 42 (.ireturn) 0 := r242 (len := 1) (by decide +kernel) rfl
theorem e242_42 : amT 242 42 43 (.aload_n 0) 0 := r242 (len := 1) (by decide +kernel) rfl
theorem e242_43 : amT 242 43 46 (.getfield 101) 816 := r242 (len := 3) (by decide +kernel) rfl
theorem e242_46 : amT 242 46 48 (.bipush 24) 0 := r242 (len := 2) (by decide +kernel) rfl
theorem e242_48 : amT 242 48 49 (.iload_n 1) 0 := r242 (len := 1) (by decide +kernel) rfl
theorem e242_49 : amT 242 49 50 (.imul) 0 := r242 (len := 1) (by decide +kernel) rfl
theorem e242_50 : amT 242 50 51 (.iload_n 2) 0 := r242 (len := 1) (by decide +kernel) rfl
theorem e242_51 : amT 242 51 52 (.iadd) 0 := r242 (len := 1) (by decide +kernel) rfl
theorem e242_52 : amT 242 52 53 (.iload_n 3) 0 := r242 (len := 1) (by decide +kernel) rfl
theorem e242_53 : amT 242 53 54 (.iastore) 0 := r242 (len := 1) (by decide +kernel) rfl
theorem e242_54 : amT 242 54 55 (.iconst 1) 0 := r242 (len := 1) (by decide +kernel) rfl
theorem e242_55 : amT 242 55 56 (.ireturn) 0 := r242 (len := 1) (by decide +kernel) rfl
theorem q243 : amCs.getD 243 [] = amC_243 := rfl
theorem r243 {pc pc' len op : Nat} {i : Instr} (h : amC_243.lookup pc = some (i, len, op)) (h2 : pc + len = pc') : amT 243 pc pc' i op := ⟨len, by unfold amEnt; rw [q243]; exact h, h2⟩
theorem e243_0 : amT 243 0 1 (.iload_n 1) 0 := r243 (len := 1) (by decide +kernel) rfl
theorem e243_1 : amT 243 1 4 (.invokestatic 417) 240 := r243 (len := 3) (by decide +kernel) rfl
theorem e243_4 : amT 243 4 7 (.ifCond .eq 36) 0 := r243 (len := 3) (by decide +kernel) rfl
theorem t243_4 : amTg 4 36 = some 40 := by decide
theorem e243_7 : amT 243 7 8 (.iload_n 2) 0 := r243 (len := 1) (by decide +kernel) rfl
theorem e243_8 : amT 243 8 9 (.i2l) 0 := r243 (len := 1) (by decide +kernel) rfl
theorem e243_9 : amT 243 9 10 (.lconst 0) 0 := r243 (len := 1) (by decide +kernel) rfl
theorem e243_10 : amT 243 10 11 (.aload_n 0) 0 := r243 (len := 1) (by decide +kernel) rfl
theorem e243_11 : amT 243 11 14 (.getfield 98) 815 := r243 (len := 3) (by decide +kernel) rfl
theorem e243_14 : amT 243 14 15 (.iload_n 1) 0 := r243 (len := 1) (by decide +kernel) rfl
theorem e243_15 : amT 243 15 16 (.iaload) 0 := r243 (len := 1) (by decide +kernel) rfl
theorem e243_16 : amT 243 16 17 (.iconst 1) 0 := r243 (len := 1) (by decide +kernel) rfl
theorem e243_17 : amT 243 17 18 (.isub) 0 := r243 (len := 1) (by decide +kernel) rfl
theorem e243_18 : amT 243 18 19 (.i2l) 0 := r243 (len := 1) (by decide +kernel) rfl
theorem e243_19 : amT 243 19 22 (.invokestatic 107) 152 := r243 (len := 3) (by decide +kernel) rfl
theorem e243_22 : amT 243 22 25 (.ifCond .eq 18) 0 := r243 (len := 3) (by decide +kernel) rfl
theorem t243_22 : amTg 22 18 = some 40 := by decide
theorem e243_25 : amT 243 25 26 (.aload_n 0) 0 := r243 (len := 1) (by decide +kernel) rfl
theorem e243_26 : amT 243 26 29 (.getfield 101) 816 := r243 (len := 3) (by decide +kernel) rfl
theorem e243_29 : amT 243 29 31 (.bipush 24) 0 := r243 (len := 2) (by decide +kernel) rfl
theorem e243_31 : amT 243 31 32 (.iload_n 1) 0 := r243 (len := 1) (by decide +kernel) rfl
theorem e243_32 : amT 243 32 33 (.imul) 0 := r243 (len := 1) (by decide +kernel) rfl
theorem e243_33 : amT 243 33 34 (.iload_n 2) 0 := r243 (len := 1) (by decide +kernel) rfl
theorem e243_34 : amT 243 34 35 (.iadd) 0 := r243 (len := 1) (by decide +kernel) rfl
theorem e243_35 : amT 243 35 36 (.iaload) 0 := r243 (len := 1) (by decide +kernel) rfl
theorem e243_36 : amT 243 36 37 (.i2l) 0 := r243 (len := 1) (by decide +kernel) rfl
theorem e243_37 : amT 243 37 40 (.goto 6) 0 := r243 (len := 3) (by decide +kernel) rfl
theorem t243_37 : amTg 37 6 = some 43 := by decide
theorem e243_40 : amT 243 40 43 (.ldc2_w 140) 4 := r243 (len := 3) (by decide +kernel) rfl
theorem e243_43 : amT 243 43 44 (.lreturn) 0 := r243 (len := 1) (by decide +kernel) rfl
theorem q244 : amCs.getD 244 [] = amC_244 := rfl
theorem r244 {pc pc' len op : Nat} {i : Instr} (h : amC_244.lookup pc = some (i, len, op)) (h2 : pc + len = pc') : amT 244 pc pc' i op := ⟨len, by unfold amEnt; rw [q244]; exact h, h2⟩
theorem e244_0 : amT 244 0 1 (.aload_n 0) 0 := r244 (len := 1) (by decide +kernel) rfl
theorem e244_1 : amT 244 1 2 (.iload_n 1) 0 := r244 (len := 1) (by decide +kernel) rfl
theorem e244_2 : amT 244 2 5 (.invokevirtual 135) 157 := r244 (len := 3) (by decide +kernel) rfl
theorem e244_5 : amT 244 5 8 (.ifCond .eq 10) 0 := r244 (len := 3) (by decide +kernel) rfl
theorem t244_5 : amTg 5 10 = some 15 := by decide
theorem e244_8 : amT 244 8 9 (.iload_n 2) 0 := r244 (len := 1) (by decide +kernel) rfl
theorem e244_9 : amT 244 9 12 (.invokestatic 417) 240 := r244 (len := 3) (by decide +kernel) rfl
theorem e244_12 : amT 244 12 15 (.ifCond .ne 5) 0 := r244 (len := 3) (by decide +kernel) rfl
theorem t244_12 : amTg 12 5 = some 17 := by decide
theorem e244_15 : amT 244 15 16 (.iconst (-1)) 0 := r244 (len := 1) (by decide +kernel) rfl
theorem e244_16 : amT 244 16 17 (.ireturn) 0 := r244 (len := 1) (by decide +kernel) rfl
theorem e244_17 : amT 244 17 18 (.aload_n 0) 0 := r244 (len := 1) (by decide +kernel) rfl
theorem e244_18 : amT 244 18 21 (.getfield 98) 815 := r244 (len := 3) (by decide +kernel) rfl
theorem e244_21 : amT 244 21 22 (.iload_n 2) 0 := r244 (len := 1) (by decide +kernel) rfl
theorem e244_22 : amT 244 22 23 (.iaload) 0 := r244 (len := 1) (by decide +kernel) rfl
theorem e244_23 : amT 244 23 26 (.ifCond .ge 6) 0 := r244 (len := 3) (by decide +kernel) rfl
theorem t244_23 : amTg 23 6 = some 29 := by decide
theorem e244_26 : amT 244 26 28 (.bipush (-11)) 0 := r244 (len := 2) (by decide +kernel) rfl
theorem e244_28 : amT 244 28 29 (.ireturn) 0 := r244 (len := 1) (by decide +kernel) rfl
theorem e244_29 : amT 244 29 30 (.iload_n 3) 0 := r244 (len := 1) (by decide +kernel) rfl
theorem e244_30 : amT 244 30 33 (.ifCond .ge 6) 0 := r244 (len := 3) (by decide +kernel) rfl
theorem t244_30 : amTg 30 6 = some 36 := by decide
theorem e244_33 : amT 244 33 35 (.bipush (-13)) 0 := r244 (len := 2) (by decide +kernel) rfl
theorem e244_35 : amT 244 35 36 (.ireturn) 0 := r244 (len := 1) (by decide +kernel) rfl
theorem e244_36 : amT 244 36 37 (.iconst 0) 0 := r244 (len := 1) (by decide +kernel) rfl
theorem e244_37 : amT 244 37 39 (.istore 4) 0 := r244 (len := 2) (by decide +kernel) rfl
theorem e244_39 : amT 244 39 41 (.iload 4) 0 := r244 (len := 2) (by decide +kernel) rfl
theorem e244_41 : amT 244 41 42 (.iconst 5) 0 := r244 (len := 1) (by decide +kernel) rfl
theorem e244_42 : amT 244 42 45 (.if_icmp .ge 47) 0 := r244 (len := 3) (by decide +kernel) rfl
theorem t244_42 : amTg 42 47 = some 89 := by decide
theorem e244_45 : amT 244 45 46 (.iload_n 3) 0 := r244 (len := 1) (by decide +kernel) rfl
theorem e244_46 : amT 244 46 47 (.aload_n 0) 0 := r244 (len := 1) (by decide +kernel) rfl
theorem e244_47 : amT 244 47 50 (.getfield 98) 815 := r244 (len := 3) (by decide +kernel) rfl
theorem e244_50 : amT 244 50 51 (.iload_n 2) 0 := r244 (len := 1) (by decide +kernel) rfl
theorem e244_51 : amT 244 51 52 (.iaload) 0 := r244 (len := 1) (by decide +kernel) rfl
theorem e244_52 : amT 244 52 54 (.iload 4) 0 := r244 (len := 2) (by decide +kernel) rfl
theorem e244_54 : amT 244 54 55 (.isub) 0 := r244 (len := 1) (by decide +kernel) rfl
theorem e244_55 : amT 244 55 58 (.if_icmp .ge 34) 0 := r244 (len := 3) (by decide +kernel) rfl
theorem t244_55 : amTg 55 34 = some 89 := by decide
theorem e244_58 : amT 244 58 59 (.aload_n 0) 0 := r244 (len := 1) (by decide +kernel) rfl
theorem e244_59 : amT 244 59 62 (.getfield 101) 816 := r244 (len := 3) (by decide +kernel) rfl
theorem e244_62 : amT 244 62 64 (.bipush 24) 0 := r244 (len := 2) (by decide +kernel) rfl
theorem e244_64 : amT 244 64 65 (.iload_n 2) 0 := r244 (len := 1) (by decide +kernel) rfl
theorem e244_65 : amT 244 65 66 (.imul) 0 := r244 (len := 1) (by decide +kernel) rfl
theorem e244_66 : amT 244 66 67 (.iload_n 3) 0 := r244 (len := 1) (by decide +kernel) rfl
theorem e244_67 : amT 244 67 68 (.iadd) 0 := r244 (len := 1) (by decide +kernel) rfl
theorem e244_68 : amT 244 68 70 (.iload 4) 0 := r244 (len := 2) (by decide +kernel) rfl
theorem e244_70 : amT 244 70 71 (.iadd) 0 := r244 (len := 1) (by decide +kernel) rfl
theorem e244_71 : amT 244 71 72 (.aload_n 0) 0 := r244 (len := 1) (by decide +kernel) rfl
theorem e244_72 : amT 244 72 75 (.getfield 19) 769 := r244 (len := 3) (by decide +kernel) rfl
theorem e244_75 : amT 244 75 76 (.iconst 5) 0 := r244 (len := 1) (by decide +kernel) rfl
theorem e244_76 : amT 244 76 77 (.iload_n 1) 0 := r244 (len := 1) (by decide +kernel) rfl
theorem e244_77 : amT 244 77 78 (.imul) 0 := r244 (len := 1) (by decide +kernel) rfl
theorem e244_78 : amT 244 78 80 (.iload 4) 0 := r244 (len := 2) (by decide +kernel) rfl
theorem e244_80 : amT 244 80 81 (.iadd) 0 := r244 (len := 1) (by decide +kernel) rfl
theorem e244_81 : amT 244 81 82 (.iaload) 0 := r244 (len := 1) (by decide +kernel) rfl
theorem e244_82 : amT 244 82 83 (.iastore) 0 := r244 (len := 1) (by decide +kernel) rfl
theorem e244_83 : amT 244 83 86 (.iinc 4 1) 0 := r244 (len := 3) (by decide +kernel) rfl
theorem e244_86 : amT 244 86 89 (.goto (-47)) 0 := r244 (len := 3) (by decide +kernel) rfl
theorem t244_86 : amTg 86 (-47) = some 39 := by decide
theorem e244_89 : amT 244 89 91 (.iload 4) 0 := r244 (len := 2) (by decide +kernel) rfl
theorem e244_91 : amT 244 91 92 (.ireturn) 0 := r244 (len := 1) (by decide +kernel) rfl
theorem q245 : amCs.getD 245 [] = amC_245 := rfl
theorem r245 {pc pc' len op : Nat} {i : Instr} (h : amC_245.lookup pc = some (i, len, op)) (h2 : pc + len = pc') : amT 245 pc pc' i op := ⟨len, by unfold amEnt; rw [q245]; exact h, h2⟩
theorem e245_0 : amT 245 0 1 (.iconst 0) 0 := r245 (len := 1) (by decide +kernel) rfl
theorem e245_1 : amT 245 1 2 (.istore_n 1) 0 := r245 (len := 1) (by decide +kernel) rfl
theorem e245_2 : amT 245 2 3 (.iload_n 1) 0 := r245 (len := 1) (by decide +kernel) rfl
theorem e245_3 : amT 245 3 5 (.bipush 40) 0 := r245 (len := 2) (by decide +kernel) rfl
theorem e245_5 : amT 245 5 8 (.if_icmp .ge 21) 0 := r245 (len := 3) (by decide +kernel) rfl
theorem t245_5 : amTg 5 21 = some 26 := by decide
theorem e245_8 : amT 245 8 9 (.aload_n 0) 0 := r245 (len := 1) (by decide +kernel) rfl
theorem e245_9 : amT 245 9 12 (.getfield 23) 771 := r245 (len := 3) (by decide +kernel) rfl
theorem e245_12 : amT 245 12 13 (.iload_n 1) 0 := r245 (len := 1) (by decide +kernel) rfl
theorem e245_13 : amT 245 13 14 (.aload_n 0) 0 := r245 (len := 1) (by decide +kernel) rfl
theorem e245_14 : amT 245 14 17 (.getfield 19) 769 := r245 (len := 3) (by decide +kernel) rfl
theorem e245_17 : amT 245 17 18 (.iload_n 1) 0 := r245 (len := 1) (by decide +kernel) rfl
theorem e245_18 : amT 245 18 19 (.iaload) 0 := r245 (len := 1) (by decide +kernel) rfl
theorem e245_19 : amT 245 19 20 (.iastore) 0 := r245 (len := 1) (by decide +kernel) rfl
theorem e245_20 : amT 245 20 23 (.iinc 1 1) 0 := r245 (len := 3) (by decide +kernel) rfl
theorem e245_23 : amT 245 23 26 (.goto (-21)) 0 := r245 (len := 3) (by decide +kernel) rfl
theorem t245_23 : amTg 23 (-21) = some 2 := by decide
theorem e245_26 : amT 245 26 27 (.aload_n 0) 0 := r245 (len := 1) (by decide +kernel) rfl
theorem e245_27 : amT 245 27 28 (.aload_n 0) 0 := r245 (len := 1) (by decide +kernel) rfl
theorem e245_28 : amT 245 28 31 (.getfield 104) 770 := r245 (len := 3) (by decide +kernel) rfl
theorem e245_31 : amT 245 31 34 (.putfield 26) 772 := r245 (len := 3) (by decide +kernel) rfl
theorem e245_34 : amT 245 34 35 (.aload_n 0) 0 := r245 (len := 1) (by decide +kernel) rfl
theorem e245_35 : amT 245 35 38 (.getfield 104) 770 := r245 (len := 3) (by decide +kernel) rfl
theorem e245_38 : amT 245 38 39 (.ireturn) 0 := r245 (len := 1) (by decide +kernel) rfl
theorem q246 : amCs.getD 246 [] = amC_246 := rfl
theorem r246 {pc pc' len op : Nat} {i : Instr} (h : amC_246.lookup pc = some (i, len, op)) (h2 : pc + len = pc') : amT 246 pc pc' i op := ⟨len, by unfold amEnt; rw [q246]; exact h, h2⟩
theorem e246_0 : amT 246 0 1 (.aload_n 0) 0 := r246 (len := 1) (by decide +kernel) rfl
theorem e246_1 : amT 246 1 4 (.getfield 26) 772 := r246 (len := 3) (by decide +kernel) rfl
theorem e246_4 : amT 246 4 7 (.ifCond .ge 6) 0 := r246 (len := 3) (by decide +kernel) rfl
theorem t246_4 : amTg 4 6 = some 10 := by decide
theorem e246_7 : amT 246 7 9 (.bipush (-6)) 0 := r246 (len := 2) (by decide +kernel) rfl
theorem e246_9 : amT 246 9 10 (.ireturn) 0 := r246 (len := 1) (by decide +kernel) rfl
theorem e246_10 : amT 246 10 11 (.iconst 0) 0 := r246 (len := 1) (by decide +kernel) rfl
theorem e246_11 : amT 246 11 12 (.istore_n 1) 0 := r246 (len := 1) (by decide +kernel) rfl
theorem e246_12 : amT 246 12 13 (.iload_n 1) 0 := r246 (len := 1) (by decide +kernel) rfl
theorem e246_13 : amT 246 13 15 (.bipush 40) 0 := r246 (len := 2) (by decide +kernel) rfl
theorem e246_15 : amT 246 15 18 (.if_icmp .ge 21) 0 := r246 (len := 3) (by decide +kernel) rfl
theorem t246_15 : amTg 15 21 = some 36 := by decide
theorem e246_18 : amT 246 18 19 (.aload_n 0) 0 := r246 (len := 1) (by decide +kernel) rfl
theorem e246_19 : amT 246 19 22 (.getfield 19) 769 := r246 (len := 3) (by decide +kernel) rfl
theorem e246_22 : amT 246 22 23 (.iload_n 1) 0 := r246 (len := 1) (by decide +kernel) rfl
theorem e246_23 : amT 246 23 24 (.aload_n 0) 0 := r246 (len := 1) (by decide +kernel) rfl
theorem e246_24 : amT 246 24 27 (.getfield 23) 771 := r246 (len := 3) (by decide +kernel) rfl
theorem e246_27 : amT 246 27 28 (.iload_n 1) 0 := r246 (len := 1) (by decide +kernel) rfl
theorem e246_28 : amT 246 28 29 (.iaload) 0 := r246 (len := 1) (by decide +kernel) rfl
theorem e246_29 : amT 246 29 30 (.iastore) 0 := r246 (len := 1) (by decide +kernel) rfl
theorem e246_30 : amT 246 30 33 (.iinc 1 1) 0 := r246 (len := 3) (by decide +kernel) rfl
theorem e246_33 : amT 246 33 36 (.goto (-21)) 0 := r246 (len := 3) (by decide +kernel) rfl
theorem t246_33 : amTg 33 (-21) = some 12 := by decide
theorem e246_36 : amT 246 36 37 (.aload_n 0) 0 := r246 (len := 1) (by decide +kernel) rfl
theorem e246_37 : amT 246 37 38 (.aload_n 0) 0 := r246 (len := 1) (by decide +kernel) rfl
theorem e246_38 : amT 246 38 41 (.getfield 26) 772 := r246 (len := 3) (by decide +kernel) rfl
theorem e246_41 : amT 246 41 44 (.putfield 104) 770 := r246 (len := 3) (by decide +kernel) rfl
theorem e246_44 : amT 246 44 45 (.aload_n 0) 0 := r246 (len := 1) (by decide +kernel) rfl
theorem e246_45 : amT 246 45 48 (.getfield 104) 770 := r246 (len := 3) (by decide +kernel) rfl
theorem e246_48 : amT 246 48 49 (.ireturn) 0 := r246 (len := 1) (by decide +kernel) rfl
theorem q247 : amCs.getD 247 [] = amC_247 := rfl
theorem r247 {pc pc' len op : Nat} {i : Instr} (h : amC_247.lookup pc = some (i, len, op)) (h2 : pc + len = pc') : amT 247 pc pc' i op := ⟨len, by unfold amEnt; rw [q247]; exact h, h2⟩
theorem e247_0 : amT 247 0 1 (.iload_n 1) 0 := r247 (len := 1) (by decide +kernel) rfl
theorem e247_1 : amT 247 1 4 (.ifCond .ne 10) 0 := r247 (len := 3) (by decide +kernel) rfl
theorem t247_1 : amTg 1 10 = some 11 := by decide
theorem e247_4 : amT 247 4 5 (.aload_n 0) 0 := r247 (len := 1) (by decide +kernel) rfl
theorem e247_5 : amT 247 5 8 (.getfield 104) 770 := r247 (len := 3) (by decide +kernel) rfl
theorem e247_8 : amT 247 8 11 (.goto 28) 0 := r247 (len := 3) (by decide +kernel) rfl
theorem t247_8 : amTg 8 28 = some 36 := by decide
theorem e247_11 : amT 247 11 12 (.iload_n 1) 0 := r247 (len := 1) (by decide +kernel) rfl
theorem e247_12 : amT 247 12 13 (.iconst 1) 0 := r247 (len := 1) (by decide +kernel) rfl
theorem e247_13 : amT 247 13 16 (.if_icmp .ne 10) 0 := r247 (len := 3) (by decide +kernel) rfl
theorem t247_13 : amTg 13 10 = some 23 := by decide
theorem e247_16 : amT 247 16 17 (.aload_n 0) 0 := r247 (len := 1) (by decide +kernel) rfl
theorem e247_17 : amT 247 17 20 (.getfield 334) 804 := r247 (len := 3) (by decide +kernel) rfl
theorem e247_20 : amT 247 20 23 (.goto 16) 0 := r247 (len := 3) (by decide +kernel) rfl
theorem t247_20 : amTg 20 16 = some 36 := by decide
theorem e247_23 : amT 247 23 24 (.iload_n 1) 0 := r247 (len := 1) (by decide +kernel) rfl
theorem e247_24 : amT 247 24 25 (.iconst 2) 0 := r247 (len := 1) (by decide +kernel) rfl
theorem e247_25 : amT 247 25 28 (.if_icmp .ne 10) 0 := r247 (len := 3) (by decide +kernel) rfl
theorem t247_25 : amTg 25 10 = some 35 := by decide
theorem e247_28 : amT 247 28 29 (.aload_n 0) 0 := r247 (len := 1) (by decide +kernel) rfl
theorem e247_29 : amT 247 29 32 (.getfield 408) 813 := r247 (len := 3) (by decide +kernel) rfl
theorem e247_32 : amT 247 32 35 (.goto 4) 0 := r247 (len := 3) (by decide +kernel) rfl
theorem t247_32 : amTg 32 4 = some 36 := by decide
theorem e247_35 : amT 247 35 36 (.iconst (-1)) 0 := r247 (len := 1) (by decide +kernel) rfl
theorem e247_36 : amT 247 36 37 (.ireturn) 0 := r247 (len := 1) (by decide +kernel) rfl
theorem q248 : amCs.getD 248 [] = amC_248 := rfl
theorem r248 {pc pc' len op : Nat} {i : Instr} (h : amC_248.lookup pc = some (i, len, op)) (h2 : pc + len = pc') : amT 248 pc pc' i op := ⟨len, by unfold amEnt; rw [q248]; exact h, h2⟩
theorem e248_0 : amT 248 0 1 (.iload_n 1) 0 := r248 (len := 1) (by decide +kernel) rfl
theorem e248_1 : amT 248 1 3 (.bipush 9) 0 := r248 (len := 2) (by decide +kernel) rfl
theorem e248_3 : amT 248 3 6 (.if_icmp .le 11) 0 := r248 (len := 3) (by decide +kernel) rfl
theorem t248_3 : amTg 3 11 = some 14 := by decide
theorem e248_6 : amT 248 6 7 (.aload_n 0) 0 := r248 (len := 1) (by decide +kernel) rfl
theorem e248_7 : amT 248 7 8 (.iload_n 1) 0 := r248 (len := 1) (by decide +kernel) rfl
theorem e248_8 : amT 248 8 10 (.bipush 10) 0 := r248 (len := 2) (by decide +kernel) rfl
theorem e248_10 : amT 248 10 11 (.idiv) 0 := r248 (len := 1) (by decide +kernel) rfl
theorem e248_11 : amT 248 11 14 (.invokevirtual 411) 249 := r248 (len := 3) (by decide +kernel) rfl
theorem e248_14 : amT 248 14 15 (.aload_n 0) 0 := r248 (len := 1) (by decide +kernel) rfl
theorem e248_15 : amT 248 15 17 (.bipush 48) 0 := r248 (len := 2) (by decide +kernel) rfl
theorem e248_17 : amT 248 17 18 (.iload_n 1) 0 := r248 (len := 1) (by decide +kernel) rfl
theorem e248_18 : amT 248 18 20 (.bipush 10) 0 := r248 (len := 2) (by decide +kernel) rfl
theorem e248_20 : amT 248 20 21 (.irem) 0 := r248 (len := 1) (by decide +kernel) rfl
theorem e248_21 : amT 248 21 22 (.iadd) 0 := r248 (len := 1) (by decide +kernel) rfl
theorem e248_22 : amT 248 22 25 (.invokevirtual 414) 232 := r248 (len := 3) (by decide +kernel) rfl
theorem e248_25 : amT 248 25 26 (.return_) 0 := r248 (len := 1) (by decide +kernel) rfl
theorem q249 : amCs.getD 249 [] = amC_249 := rfl
theorem r249 {pc pc' len op : Nat} {i : Instr} (h : amC_249.lookup pc = some (i, len, op)) (h2 : pc + len = pc') : amT 249 pc pc' i op := ⟨len, by unfold amEnt; rw [q249]; exact h, h2⟩
theorem e249_0 : amT 249 0 1 (.iload_n 1) 0 := r249 (len := 1) (by decide +kernel) rfl
theorem e249_1 : amT 249 1 3 (.bipush 9) 0 := r249 (len := 2) (by decide +kernel) rfl
theorem e249_3 : amT 249 3 6 (.if_icmp .le 11) 0 := r249 (len := 3) (by decide +kernel) rfl
theorem t249_3 : amTg 3 11 = some 14 := by decide
theorem e249_6 : amT 249 6 7 (.aload_n 0) 0 := r249 (len := 1) (by decide +kernel) rfl
theorem e249_7 : amT 249 7 8 (.iload_n 1) 0 := r249 (len := 1) (by decide +kernel) rfl
theorem e249_8 : amT 249 8 10 (.bipush 10) 0 := r249 (len := 2) (by decide +kernel) rfl
theorem e249_10 : amT 249 10 11 (.idiv) 0 := r249 (len := 1) (by decide +kernel) rfl
theorem e249_11 : amT 249 11 14 (.invokevirtual 411) 998 := r249 (len := 3) (by decide +kernel) rfl
theorem e249_14 : amT 249 14 15 (.aload_n 0) 0 := r249 (len := 1) (by decide +kernel) rfl
theorem e249_15 : amT 249 15 17 (.bipush 48) 0 := r249 (len := 2) (by decide +kernel) rfl
theorem e249_17 : amT 249 17 18 (.iload_n 1) 0 := r249 (len := 1) (by decide +kernel) rfl
theorem e249_18 : amT 249 18 20 (.bipush 10) 0 := r249 (len := 2) (by decide +kernel) rfl
theorem e249_20 : amT 249 20 21 (.irem) 0 := r249 (len := 1) (by decide +kernel) rfl
theorem e249_21 : amT 249 21 22 (.iadd) 0 := r249 (len := 1) (by decide +kernel) rfl
theorem e249_22 : amT 249 22 25 (.invokevirtual 414) 232 := r249 (len := 3) (by decide +kernel) rfl
theorem e249_25 : amT 249 25 26 (.return_) 0 := r249 (len := 1) (by decide +kernel) rfl
theorem q250 : amCs.getD 250 [] = amC_250 := rfl
theorem r250 {pc pc' len op : Nat} {i : Instr} (h : amC_250.lookup pc = some (i, len, op)) (h2 : pc + len = pc') : amT 250 pc pc' i op := ⟨len, by unfold amEnt; rw [q250]; exact h, h2⟩
theorem e250_0 : amT 250 0 1 (.iconst 0) 0 := r250 (len := 1) (by decide +kernel) rfl
theorem e250_1 : amT 250 1 2 (.istore_n 3) 0 := r250 (len := 1) (by decide +kernel) rfl
theorem e250_2 : amT 250 2 3 (.iconst 1) 0 := r250 (len := 1) (by decide +kernel) rfl
theorem e250_3 : amT 250 3 5 (.istore 4) 0 := r250 (len := 2) (by decide +kernel) rfl
theorem e250_5 : amT 250 5 7 (.iload 4) 0 := r250 (len := 2) (by decide +kernel) rfl
theorem e250_7 : amT 250 7 10 (.sipush 999) 0 := r250 (len := 3) (by decide +kernel) rfl
theorem e250_10 : amT 250 10 13 (.if_icmp .gt 33) 0 := r250 (len := 3) (by decide +kernel) rfl
theorem t250_10 : amTg 10 33 = some 43 := by decide
theorem e250_13 : amT 250 13 14 (.iload_n 3) 0 := r250 (len := 1) (by decide +kernel) rfl
theorem e250_14 : amT 250 14 15 (.aload_n 2) 0 := r250 (len := 1) (by decide +kernel) rfl
theorem e250_15 : amT 250 15 16 (.arraylength) 0 := r250 (len := 1) (by decide +kernel) rfl
theorem e250_16 : amT 250 16 19 (.if_icmp .ge 27) 0 := r250 (len := 3) (by decide +kernel) rfl
theorem t250_16 : amTg 16 27 = some 43 := by decide
theorem e250_19 : amT 250 19 20 (.lload_n 0) 0 := r250 (len := 1) (by decide +kernel) rfl
theorem e250_20 : amT 250 20 22 (.iload 4) 0 := r250 (len := 2) (by decide +kernel) rfl
theorem e250_22 : amT 250 22 23 (.i2l) 0 := r250 (len := 1) (by decide +kernel) rfl
theorem e250_23 : amT 250 23 24 (.lrem) 0 := r250 (len := 1) (by decide +kernel) rfl
theorem e250_24 : amT 250 24 25 (.lconst 0) 0 := r250 (len := 1) (by decide +kernel) rfl
theorem e250_25 : amT 250 25 26 (.lcmp) 0 := r250 (len := 1) (by decide +kernel) rfl
theorem e250_26 : amT 250 26 29 (.ifCond .ne 11) 0 := r250 (len := 3) (by decide +kernel) rfl
theorem t250_26 : amTg 26 11 = some 37 := by decide
theorem e250_29 : amT 250 29 30 (.aload_n 2) 0 := r250 (len := 1) (by decide +kernel) rfl
theorem e250_30 : amT 250 30 31 (.iload_n 3) 0 := r250 (len := 1) (by decide +kernel) rfl
theorem e250_31 : amT 250 31 33 (.iload 4) 0 := r250 (len := 2) (by decide +kernel) rfl
theorem e250_33 : amT 250 33 34 (.iastore) 0 := r250 (len := 1) (by decide +kernel) rfl
theorem e250_34 : amT 250 34 37 (.iinc 3 1) 0 := r250 (len := 3) (by decide +kernel) rfl
theorem e250_37 : amT 250 37 40 (.iinc 4 1) 0 := r250 (len := 3) (by decide +kernel) rfl
theorem e250_40 : amT 250 40 43 (.goto (-35)) 0 := r250 (len := 3) (by decide +kernel) rfl
theorem t250_40 : amTg 40 (-35) = some 5 := by decide
theorem e250_43 : amT 250 43 44 (.iload_n 3) 0 := r250 (len := 1) (by decide +kernel) rfl
theorem e250_44 : amT 250 44 45 (.ireturn) 0 := r250 (len := 1) (by decide +kernel) rfl
