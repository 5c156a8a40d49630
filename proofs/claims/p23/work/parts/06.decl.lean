theorem dL_low_0 : decode cL_low 0 = .ok (.iload_n 0, 1) := by decide +kernel
theorem dL_low_1 : decode cL_low 1 = .ok (.ldc 7, 2) := by decide +kernel
theorem dL_low_3 : decode cL_low 3 = .ok (.iand, 1) := by decide +kernel
theorem dL_low_4 : decode cL_low 4 = .ok (.iload_n 1, 1) := by decide +kernel
theorem dL_low_5 : decode cL_low 5 = .ok (.irem, 1) := by decide +kernel
theorem dL_low_6 : decode cL_low 6 = .ok (.ireturn, 1) := by decide +kernel
theorem dL_cell_0 : decode cL_cell 0 = .ok (.iload_n 1, 1) := by decide +kernel
theorem dL_cell_1 : decode cL_cell 1 = .ok (.aload_n 0, 1) := by decide +kernel
theorem dL_cell_2 : decode cL_cell 2 = .ok (.arraylength, 1) := by decide +kernel
theorem dL_cell_3 : decode cL_cell 3 = .ok (.if_icmp .ge 9, 3) := by decide +kernel
theorem dL_cell_6 : decode cL_cell 6 = .ok (.aload_n 0, 1) := by decide +kernel
theorem dL_cell_7 : decode cL_cell 7 = .ok (.iload_n 1, 1) := by decide +kernel
theorem dL_cell_8 : decode cL_cell 8 = .ok (.iaload, 1) := by decide +kernel
theorem dL_cell_9 : decode cL_cell 9 = .ok (.goto 11, 3) := by decide +kernel
theorem dL_cell_12 : decode cL_cell 12 = .ok (.ldc 8, 2) := by decide +kernel
theorem dL_cell_14 : decode cL_cell 14 = .ok (.iload_n 1, 1) := by decide +kernel
theorem dL_cell_15 : decode cL_cell 15 = .ok (.imul, 1) := by decide +kernel
theorem dL_cell_16 : decode cL_cell 16 = .ok (.sipush 977, 3) := by decide +kernel
theorem dL_cell_19 : decode cL_cell 19 = .ok (.iadd, 1) := by decide +kernel
theorem dL_cell_20 : decode cL_cell 20 = .ok (.ireturn, 1) := by decide +kernel
theorem dL_begin_0 : decode cL_begin 0 = .ok (.aload_n 0, 1) := by decide +kernel
theorem dL_begin_1 : decode cL_begin 1 = .ok (.iload_n 1, 1) := by decide +kernel
theorem dL_begin_2 : decode cL_begin 2 = .ok (.iload_n 2, 1) := by decide +kernel
theorem dL_begin_3 : decode cL_begin 3 = .ok (.iload_n 3, 1) := by decide +kernel
theorem dL_begin_4 : decode cL_begin 4 = .ok (.invokevirtual 9, 3) := by decide +kernel
theorem dL_begin_7 : decode cL_begin 7 = .ok (.ireturn, 1) := by decide +kernel
theorem dL_begin_8 : decode cL_begin 8 = .ok (.astore 4, 2) := by decide +kernel
theorem dL_begin_10 : decode cL_begin 10 = .ok (.bipush (-3), 2) := by decide +kernel
theorem dL_begin_12 : decode cL_begin 12 = .ok (.ireturn, 1) := by decide +kernel
theorem dL_surrender_0 : decode cL_surrender 0 = .ok (.aload_n 0, 1) := by decide +kernel
theorem dL_surrender_1 : decode cL_surrender 1 = .ok (.iload_n 1, 1) := by decide +kernel
theorem dL_surrender_2 : decode cL_surrender 2 = .ok (.invokevirtual 17, 3) := by decide +kernel
theorem dL_surrender_5 : decode cL_surrender 5 = .ok (.ireturn, 1) := by decide +kernel
theorem dL_surrender_6 : decode cL_surrender 6 = .ok (.astore_n 2, 1) := by decide +kernel
theorem dL_surrender_7 : decode cL_surrender 7 = .ok (.bipush (-3), 2) := by decide +kernel
theorem dL_surrender_9 : decode cL_surrender 9 = .ok (.ireturn, 1) := by decide +kernel
theorem dL_worth_0 : decode cL_worth 0 = .ok (.aload_n 0, 1) := by decide +kernel
theorem dL_worth_1 : decode cL_worth 1 = .ok (.iload_n 1, 1) := by decide +kernel
theorem dL_worth_2 : decode cL_worth 2 = .ok (.invokevirtual 21, 3) := by decide +kernel
theorem dL_worth_5 : decode cL_worth 5 = .ok (.ireturn, 1) := by decide +kernel
theorem dL_worth_6 : decode cL_worth 6 = .ok (.astore_n 2, 1) := by decide +kernel
theorem dL_worth_7 : decode cL_worth 7 = .ok (.bipush (-3), 2) := by decide +kernel
theorem dL_worth_9 : decode cL_worth 9 = .ok (.ireturn, 1) := by decide +kernel
theorem dL_run_0 : decode cL_run 0 = .ok (.aload_n 0, 1) := by decide +kernel
theorem dL_run_1 : decode cL_run 1 = .ok (.iload_n 1, 1) := by decide +kernel
theorem dL_run_2 : decode cL_run 2 = .ok (.invokevirtual 24, 3) := by decide +kernel
theorem dL_run_5 : decode cL_run 5 = .ok (.ireturn, 1) := by decide +kernel
theorem dL_run_6 : decode cL_run 6 = .ok (.astore_n 2, 1) := by decide +kernel
theorem dL_run_7 : decode cL_run 7 = .ok (.bipush (-3), 2) := by decide +kernel
theorem dL_run_9 : decode cL_run 9 = .ok (.ireturn, 1) := by decide +kernel
theorem dL_holds_0 : decode cL_holds 0 = .ok (.aload_n 0, 1) := by decide +kernel
theorem dL_holds_1 : decode cL_holds 1 = .ok (.invokevirtual 27, 3) := by decide +kernel
theorem dL_holds_4 : decode cL_holds 4 = .ok (.aload_n 0, 1) := by decide +kernel
theorem dL_holds_5 : decode cL_holds 5 = .ok (.invokevirtual 31, 3) := by decide +kernel
theorem dL_holds_8 : decode cL_holds 8 = .ok (.lcmp, 1) := by decide +kernel
theorem dL_holds_9 : decode cL_holds 9 = .ok (.ifCond .ne 14, 3) := by decide +kernel
theorem dL_holds_12 : decode cL_holds 12 = .ok (.aload_n 0, 1) := by decide +kernel
theorem dL_holds_13 : decode cL_holds 13 = .ok (.invokevirtual 34, 3) := by decide +kernel
theorem dL_holds_16 : decode cL_holds 16 = .ok (.ifCond .lt 7, 3) := by decide +kernel
theorem dL_holds_19 : decode cL_holds 19 = .ok (.iconst 1, 1) := by decide +kernel
theorem dL_holds_20 : decode cL_holds 20 = .ok (.goto 4, 3) := by decide +kernel
theorem dL_holds_23 : decode cL_holds 23 = .ok (.iconst 0, 1) := by decide +kernel
theorem dL_holds_24 : decode cL_holds 24 = .ok (.istore_n 1, 1) := by decide +kernel
theorem dL_holds_25 : decode cL_holds 25 = .ok (.iconst 0, 1) := by decide +kernel
theorem dL_holds_26 : decode cL_holds 26 = .ok (.istore_n 2, 1) := by decide +kernel
theorem dL_holds_27 : decode cL_holds 27 = .ok (.iconst 0, 1) := by decide +kernel
theorem dL_holds_28 : decode cL_holds 28 = .ok (.istore_n 3, 1) := by decide +kernel
theorem dL_holds_29 : decode cL_holds 29 = .ok (.iload_n 3, 1) := by decide +kernel
theorem dL_holds_30 : decode cL_holds 30 = .ok (.aload_n 0, 1) := by decide +kernel
theorem dL_holds_31 : decode cL_holds 31 = .ok (.invokevirtual 38, 3) := by decide +kernel
theorem dL_holds_34 : decode cL_holds 34 = .ok (.if_icmp .ge 107, 3) := by decide +kernel
theorem dL_holds_37 : decode cL_holds 37 = .ok (.iload_n 1, 1) := by decide +kernel
theorem dL_holds_38 : decode cL_holds 38 = .ok (.ifCond .eq 103, 3) := by decide +kernel
theorem dL_holds_41 : decode cL_holds 41 = .ok (.aload_n 0, 1) := by decide +kernel
theorem dL_holds_42 : decode cL_holds 42 = .ok (.iload_n 3, 1) := by decide +kernel
theorem dL_holds_43 : decode cL_holds 43 = .ok (.invokevirtual 41, 3) := by decide +kernel
theorem dL_holds_46 : decode cL_holds 46 = .ok (.istore 4, 2) := by decide +kernel
theorem dL_holds_48 : decode cL_holds 48 = .ok (.aload_n 0, 1) := by decide +kernel
theorem dL_holds_49 : decode cL_holds 49 = .ok (.iload_n 3, 1) := by decide +kernel
theorem dL_holds_50 : decode cL_holds 50 = .ok (.invokevirtual 44, 3) := by decide +kernel
theorem dL_holds_53 : decode cL_holds 53 = .ok (.istore 5, 2) := by decide +kernel
theorem dL_holds_55 : decode cL_holds 55 = .ok (.iload_n 2, 1) := by decide +kernel
theorem dL_holds_56 : decode cL_holds 56 = .ok (.iload 5, 2) := by decide +kernel
theorem dL_holds_58 : decode cL_holds 58 = .ok (.iadd, 1) := by decide +kernel
theorem dL_holds_59 : decode cL_holds 59 = .ok (.istore_n 2, 1) := by decide +kernel
theorem dL_holds_60 : decode cL_holds 60 = .ok (.iload 4, 2) := by decide +kernel
theorem dL_holds_62 : decode cL_holds 62 = .ok (.ifCond .lt 71, 3) := by decide +kernel
theorem dL_holds_65 : decode cL_holds 65 = .ok (.iload 4, 2) := by decide +kernel
theorem dL_holds_67 : decode cL_holds 67 = .ok (.iconst 2, 1) := by decide +kernel
theorem dL_holds_68 : decode cL_holds 68 = .ok (.if_icmp .gt 65, 3) := by decide +kernel
theorem dL_holds_71 : decode cL_holds 71 = .ok (.iload 5, 2) := by decide +kernel
theorem dL_holds_73 : decode cL_holds 73 = .ok (.ifCond .lt 60, 3) := by decide +kernel
theorem dL_holds_76 : decode cL_holds 76 = .ok (.iload 4, 2) := by decide +kernel
theorem dL_holds_78 : decode cL_holds 78 = .ok (.ifCond .eq 16, 3) := by decide +kernel
theorem dL_holds_81 : decode cL_holds 81 = .ok (.iload 5, 2) := by decide +kernel
theorem dL_holds_83 : decode cL_holds 83 = .ok (.ifCond .ne 50, 3) := by decide +kernel
theorem dL_holds_86 : decode cL_holds 86 = .ok (.aload_n 0, 1) := by decide +kernel
theorem dL_holds_87 : decode cL_holds 87 = .ok (.iload_n 3, 1) := by decide +kernel
theorem dL_holds_88 : decode cL_holds 88 = .ok (.invokevirtual 47, 3) := by decide +kernel
theorem dL_holds_91 : decode cL_holds 91 = .ok (.ifCond .ne 42, 3) := by decide +kernel
theorem dL_holds_94 : decode cL_holds 94 = .ok (.aload_n 0, 1) := by decide +kernel
theorem dL_holds_95 : decode cL_holds 95 = .ok (.iload_n 3, 1) := by decide +kernel
theorem dL_holds_96 : decode cL_holds 96 = .ok (.invokevirtual 50, 3) := by decide +kernel
theorem dL_holds_99 : decode cL_holds 99 = .ok (.iconst (-1), 1) := by decide +kernel
theorem dL_holds_100 : decode cL_holds 100 = .ok (.if_icmp .ne 7, 3) := by decide +kernel
theorem dL_holds_103 : decode cL_holds 103 = .ok (.iconst 1, 1) := by decide +kernel
theorem dL_holds_104 : decode cL_holds 104 = .ok (.goto 4, 3) := by decide +kernel
theorem dL_holds_107 : decode cL_holds 107 = .ok (.iconst 0, 1) := by decide +kernel
theorem dL_holds_108 : decode cL_holds 108 = .ok (.iload 4, 2) := by decide +kernel
theorem dL_holds_110 : decode cL_holds 110 = .ok (.ifCond .ne 7, 3) := by decide +kernel
theorem dL_holds_113 : decode cL_holds 113 = .ok (.iconst 1, 1) := by decide +kernel
theorem dL_holds_114 : decode cL_holds 114 = .ok (.goto 4, 3) := by decide +kernel
theorem dL_holds_117 : decode cL_holds 117 = .ok (.iconst 0, 1) := by decide +kernel
theorem dL_holds_118 : decode cL_holds 118 = .ok (.if_icmp .ne 15, 3) := by decide +kernel
theorem dL_holds_121 : decode cL_holds 121 = .ok (.aload_n 0, 1) := by decide +kernel
theorem dL_holds_122 : decode cL_holds 122 = .ok (.iload_n 3, 1) := by decide +kernel
theorem dL_holds_123 : decode cL_holds 123 = .ok (.invokevirtual 53, 3) := by decide +kernel
theorem dL_holds_126 : decode cL_holds 126 = .ok (.ifCond .lt 7, 3) := by decide +kernel
theorem dL_holds_129 : decode cL_holds 129 = .ok (.iconst 1, 1) := by decide +kernel
theorem dL_holds_130 : decode cL_holds 130 = .ok (.goto 4, 3) := by decide +kernel
theorem dL_holds_133 : decode cL_holds 133 = .ok (.iconst 0, 1) := by decide +kernel
theorem dL_holds_134 : decode cL_holds 134 = .ok (.istore_n 1, 1) := by decide +kernel
theorem dL_holds_135 : decode cL_holds 135 = .ok (.iinc 3 1, 3) := by decide +kernel
theorem dL_holds_138 : decode cL_holds 138 = .ok (.goto (-109), 3) := by decide +kernel
theorem dL_holds_141 : decode cL_holds 141 = .ok (.iload_n 1, 1) := by decide +kernel
theorem dL_holds_142 : decode cL_holds 142 = .ok (.ifCond .eq 22, 3) := by decide +kernel
theorem dL_holds_145 : decode cL_holds 145 = .ok (.iload_n 2, 1) := by decide +kernel
theorem dL_holds_146 : decode cL_holds 146 = .ok (.i2l, 1) := by decide +kernel
theorem dL_holds_147 : decode cL_holds 147 = .ok (.aload_n 0, 1) := by decide +kernel
theorem dL_holds_148 : decode cL_holds 148 = .ok (.invokevirtual 31, 3) := by decide +kernel
theorem dL_holds_151 : decode cL_holds 151 = .ok (.aload_n 0, 1) := by decide +kernel
theorem dL_holds_152 : decode cL_holds 152 = .ok (.invokevirtual 56, 3) := by decide +kernel
theorem dL_holds_155 : decode cL_holds 155 = .ok (.lsub, 1) := by decide +kernel
theorem dL_holds_156 : decode cL_holds 156 = .ok (.lcmp, 1) := by decide +kernel
theorem dL_holds_157 : decode cL_holds 157 = .ok (.ifCond .gt 7, 3) := by decide +kernel
theorem dL_holds_160 : decode cL_holds 160 = .ok (.iconst 1, 1) := by decide +kernel
theorem dL_holds_161 : decode cL_holds 161 = .ok (.goto 4, 3) := by decide +kernel
theorem dL_holds_164 : decode cL_holds 164 = .ok (.iconst 0, 1) := by decide +kernel
theorem dL_holds_165 : decode cL_holds 165 = .ok (.ireturn, 1) := by decide +kernel
theorem dL_generations_0 : decode cL_generations 0 = .ok (.lconst 0, 1) := by decide +kernel
theorem dL_generations_1 : decode cL_generations 1 = .ok (.lstore_n 1, 1) := by decide +kernel
theorem dL_generations_2 : decode cL_generations 2 = .ok (.iconst 0, 1) := by decide +kernel
theorem dL_generations_3 : decode cL_generations 3 = .ok (.istore_n 3, 1) := by decide +kernel
theorem dL_generations_4 : decode cL_generations 4 = .ok (.iload_n 3, 1) := by decide +kernel
theorem dL_generations_5 : decode cL_generations 5 = .ok (.bipush 40, 2) := by decide +kernel
theorem dL_generations_7 : decode cL_generations 7 = .ok (.if_icmp .gt 36, 3) := by decide +kernel
theorem dL_generations_10 : decode cL_generations 10 = .ok (.iconst 2, 1) := by decide +kernel
theorem dL_generations_11 : decode cL_generations 11 = .ok (.istore 4, 2) := by decide +kernel
theorem dL_generations_13 : decode cL_generations 13 = .ok (.iload 4, 2) := by decide +kernel
theorem dL_generations_15 : decode cL_generations 15 = .ok (.bipush 20, 2) := by decide +kernel
theorem dL_generations_17 : decode cL_generations 17 = .ok (.if_icmp .gt 20, 3) := by decide +kernel
theorem dL_generations_20 : decode cL_generations 20 = .ok (.lload_n 1, 1) := by decide +kernel
theorem dL_generations_21 : decode cL_generations 21 = .ok (.aload_n 0, 1) := by decide +kernel
theorem dL_generations_22 : decode cL_generations 22 = .ok (.iload_n 3, 1) := by decide +kernel
theorem dL_generations_23 : decode cL_generations 23 = .ok (.iload 4, 2) := by decide +kernel
theorem dL_generations_25 : decode cL_generations 25 = .ok (.invokevirtual 59, 3) := by decide +kernel
theorem dL_generations_28 : decode cL_generations 28 = .ok (.i2l, 1) := by decide +kernel
theorem dL_generations_29 : decode cL_generations 29 = .ok (.ladd, 1) := by decide +kernel
theorem dL_generations_30 : decode cL_generations 30 = .ok (.lstore_n 1, 1) := by decide +kernel
theorem dL_generations_31 : decode cL_generations 31 = .ok (.iinc 4 1, 3) := by decide +kernel
theorem dL_generations_34 : decode cL_generations 34 = .ok (.goto (-21), 3) := by decide +kernel
theorem dL_generations_37 : decode cL_generations 37 = .ok (.iinc 3 1, 3) := by decide +kernel
theorem dL_generations_40 : decode cL_generations 40 = .ok (.goto (-36), 3) := by decide +kernel
theorem dL_generations_43 : decode cL_generations 43 = .ok (.lload_n 1, 1) := by decide +kernel
theorem dL_generations_44 : decode cL_generations 44 = .ok (.aload_n 0, 1) := by decide +kernel
theorem dL_generations_45 : decode cL_generations 45 = .ok (.invokevirtual 31, 3) := by decide +kernel
theorem dL_generations_48 : decode cL_generations 48 = .ok (.aload_n 0, 1) := by decide +kernel
theorem dL_generations_49 : decode cL_generations 49 = .ok (.invokevirtual 56, 3) := by decide +kernel
theorem dL_generations_52 : decode cL_generations 52 = .ok (.lsub, 1) := by decide +kernel
theorem dL_generations_53 : decode cL_generations 53 = .ok (.lcmp, 1) := by decide +kernel
theorem dL_generations_54 : decode cL_generations 54 = .ok (.ifCond .ne 7, 3) := by decide +kernel
theorem dL_generations_57 : decode cL_generations 57 = .ok (.iconst 1, 1) := by decide +kernel
theorem dL_generations_58 : decode cL_generations 58 = .ok (.goto 4, 3) := by decide +kernel
theorem dL_generations_61 : decode cL_generations 61 = .ok (.iconst 0, 1) := by decide +kernel
theorem dL_generations_62 : decode cL_generations 62 = .ok (.ireturn, 1) := by decide +kernel
theorem dL_law_0 : decode cL_law 0 = .ok (.new 10, 3) := by decide +kernel
theorem dL_law_3 : decode cL_law 3 = .ok (.dup, 1) := by decide +kernel
theorem dL_law_4 : decode cL_law 4 = .ok (.invokespecial 63, 3) := by decide +kernel
theorem dL_law_7 : decode cL_law 7 = .ok (.astore_n 1, 1) := by decide +kernel
theorem dL_law_8 : decode cL_law 8 = .ok (.aload_n 1, 1) := by decide +kernel
theorem dL_law_9 : decode cL_law 9 = .ok (.invokestatic 64, 3) := by decide +kernel
theorem dL_law_12 : decode cL_law 12 = .ok (.ifCond .eq 30, 3) := by decide +kernel
theorem dL_law_15 : decode cL_law 15 = .ok (.aload_n 1, 1) := by decide +kernel
theorem dL_law_16 : decode cL_law 16 = .ok (.invokestatic 70, 3) := by decide +kernel
theorem dL_law_19 : decode cL_law 19 = .ok (.ifCond .eq 23, 3) := by decide +kernel
theorem dL_law_22 : decode cL_law 22 = .ok (.aload_n 1, 1) := by decide +kernel
theorem dL_law_23 : decode cL_law 23 = .ok (.invokevirtual 73, 3) := by decide +kernel
theorem dL_law_26 : decode cL_law 26 = .ok (.ifCond .ne 16, 3) := by decide +kernel
theorem dL_law_29 : decode cL_law 29 = .ok (.aload_n 1, 1) := by decide +kernel
theorem dL_law_30 : decode cL_law 30 = .ok (.iconst 2, 1) := by decide +kernel
theorem dL_law_31 : decode cL_law 31 = .ok (.invokevirtual 76, 3) := by decide +kernel
theorem dL_law_34 : decode cL_law 34 = .ok (.iconst (-1), 1) := by decide +kernel
theorem dL_law_35 : decode cL_law 35 = .ok (.if_icmp .ne 7, 3) := by decide +kernel
theorem dL_law_38 : decode cL_law 38 = .ok (.iconst 1, 1) := by decide +kernel
theorem dL_law_39 : decode cL_law 39 = .ok (.goto 4, 3) := by decide +kernel
theorem dL_law_42 : decode cL_law 42 = .ok (.iconst 0, 1) := by decide +kernel
theorem dL_law_43 : decode cL_law 43 = .ok (.istore_n 2, 1) := by decide +kernel
theorem dL_law_44 : decode cL_law 44 = .ok (.bipush 6, 2) := by decide +kernel
theorem dL_law_46 : decode cL_law 46 = .ok (.aload_n 0, 1) := by decide +kernel
theorem dL_law_47 : decode cL_law 47 = .ok (.iconst 0, 1) := by decide +kernel
theorem dL_law_48 : decode cL_law 48 = .ok (.invokestatic 79, 3) := by decide +kernel
theorem dL_law_51 : decode cL_law 51 = .ok (.bipush 55, 2) := by decide +kernel
theorem dL_law_53 : decode cL_law 53 = .ok (.invokestatic 83, 3) := by decide +kernel
theorem dL_law_56 : decode cL_law 56 = .ok (.iadd, 1) := by decide +kernel
theorem dL_law_57 : decode cL_law 57 = .ok (.istore_n 3, 1) := by decide +kernel
theorem dL_law_58 : decode cL_law 58 = .ok (.iconst 0, 1) := by decide +kernel
theorem dL_law_59 : decode cL_law 59 = .ok (.istore 4, 2) := by decide +kernel
theorem dL_law_61 : decode cL_law 61 = .ok (.iload 4, 2) := by decide +kernel
theorem dL_law_63 : decode cL_law 63 = .ok (.iload_n 3, 1) := by decide +kernel
theorem dL_law_64 : decode cL_law 64 = .ok (.if_icmp .ge 615, 3) := by decide +kernel
theorem dL_law_67 : decode cL_law 67 = .ok (.iload_n 2, 1) := by decide +kernel
theorem dL_law_68 : decode cL_law 68 = .ok (.ifCond .eq 611, 3) := by decide +kernel
theorem dL_law_71 : decode cL_law 71 = .ok (.aload_n 0, 1) := by decide +kernel
theorem dL_law_72 : decode cL_law 72 = .ok (.iconst 1, 1) := by decide +kernel
theorem dL_law_73 : decode cL_law 73 = .ok (.iload 4, 2) := by decide +kernel
theorem dL_law_75 : decode cL_law 75 = .ok (.iadd, 1) := by decide +kernel
theorem dL_law_76 : decode cL_law 76 = .ok (.invokestatic 79, 3) := by decide +kernel
theorem dL_law_79 : decode cL_law 79 = .ok (.istore 5, 2) := by decide +kernel
theorem dL_law_81 : decode cL_law 81 = .ok (.aload_n 1, 1) := by decide +kernel
theorem dL_law_82 : decode cL_law 82 = .ok (.invokevirtual 38, 3) := by decide +kernel
theorem dL_law_85 : decode cL_law 85 = .ok (.istore 6, 2) := by decide +kernel
theorem dL_law_87 : decode cL_law 87 = .ok (.iload 6, 2) := by decide +kernel
theorem dL_law_89 : decode cL_law 89 = .ok (.ifCond .ne 7, 3) := by decide +kernel
theorem dL_law_92 : decode cL_law 92 = .ok (.iconst 0, 1) := by decide +kernel
theorem dL_law_93 : decode cL_law 93 = .ok (.goto 12, 3) := by decide +kernel
theorem dL_law_96 : decode cL_law 96 = .ok (.iload 5, 2) := by decide +kernel
theorem dL_law_98 : decode cL_law 98 = .ok (.iconst 3, 1) := by decide +kernel
theorem dL_law_99 : decode cL_law 99 = .ok (.ishr, 1) := by decide +kernel
theorem dL_law_100 : decode cL_law 100 = .ok (.iload 6, 2) := by decide +kernel
theorem dL_law_102 : decode cL_law 102 = .ok (.invokestatic 83, 3) := by decide +kernel
theorem dL_law_105 : decode cL_law 105 = .ok (.istore 7, 2) := by decide +kernel
theorem dL_law_107 : decode cL_law 107 = .ok (.iload 5, 2) := by decide +kernel
theorem dL_law_109 : decode cL_law 109 = .ok (.bipush 20, 2) := by decide +kernel
theorem dL_law_111 : decode cL_law 111 = .ok (.ishr, 1) := by decide +kernel
theorem dL_law_112 : decode cL_law 112 = .ok (.bipush 14, 2) := by decide +kernel
theorem dL_law_114 : decode cL_law 114 = .ok (.invokestatic 83, 3) := by decide +kernel
theorem dL_law_117 : decode cL_law 117 = .ok (.istore 8, 2) := by decide +kernel
theorem dL_law_119 : decode cL_law 119 = .ok (.iload 6, 2) := by decide +kernel
theorem dL_law_121 : decode cL_law 121 = .ok (.ifCond .eq 9, 3) := by decide +kernel
theorem dL_law_124 : decode cL_law 124 = .ok (.iload 8, 2) := by decide +kernel
theorem dL_law_126 : decode cL_law 126 = .ok (.iconst 4, 1) := by decide +kernel
theorem dL_law_127 : decode cL_law 127 = .ok (.if_icmp .ge 130, 3) := by decide +kernel
theorem dL_law_130 : decode cL_law 130 = .ok (.aload_n 1, 1) := by decide +kernel
theorem dL_law_131 : decode cL_law 131 = .ok (.iconst 2, 1) := by decide +kernel
theorem dL_law_132 : decode cL_law 132 = .ok (.iload 5, 2) := by decide +kernel
theorem dL_law_134 : decode cL_law 134 = .ok (.iconst 5, 1) := by decide +kernel
theorem dL_law_135 : decode cL_law 135 = .ok (.ishr, 1) := by decide +kernel
theorem dL_law_136 : decode cL_law 136 = .ok (.iload 5, 2) := by decide +kernel
theorem dL_law_138 : decode cL_law 138 = .ok (.bipush 17, 2) := by decide +kernel
theorem dL_law_140 : decode cL_law 140 = .ok (.ishr, 1) := by decide +kernel
theorem dL_law_141 : decode cL_law 141 = .ok (.iconst 2, 1) := by decide +kernel
theorem dL_law_142 : decode cL_law 142 = .ok (.invokestatic 83, 3) := by decide +kernel
theorem dL_law_145 : decode cL_law 145 = .ok (.ifCond .ne 8, 3) := by decide +kernel
theorem dL_law_148 : decode cL_law 148 = .ok (.bipush 19, 2) := by decide +kernel
theorem dL_law_150 : decode cL_law 150 = .ok (.goto 4, 3) := by decide +kernel
theorem dL_law_153 : decode cL_law 153 = .ok (.iconst 4, 1) := by decide +kernel
theorem dL_law_154 : decode cL_law 154 = .ok (.invokestatic 83, 3) := by decide +kernel
theorem dL_law_157 : decode cL_law 157 = .ok (.iadd, 1) := by decide +kernel
theorem dL_law_158 : decode cL_law 158 = .ok (.iconst 1, 1) := by decide +kernel
theorem dL_law_159 : decode cL_law 159 = .ok (.iload 5, 2) := by decide +kernel
theorem dL_law_161 : decode cL_law 161 = .ok (.sipush 1000, 3) := by decide +kernel
theorem dL_law_164 : decode cL_law 164 = .ok (.invokestatic 83, 3) := by decide +kernel
theorem dL_law_167 : decode cL_law 167 = .ok (.iadd, 1) := by decide +kernel
theorem dL_law_168 : decode cL_law 168 = .ok (.iload 5, 2) := by decide +kernel
theorem dL_law_170 : decode cL_law 170 = .ok (.bipush 7, 2) := by decide +kernel
theorem dL_law_172 : decode cL_law 172 = .ok (.ishr, 1) := by decide +kernel
theorem dL_law_173 : decode cL_law 173 = .ok (.iload 5, 2) := by decide +kernel
theorem dL_law_175 : decode cL_law 175 = .ok (.bipush 18, 2) := by decide +kernel
theorem dL_law_177 : decode cL_law 177 = .ok (.ishr, 1) := by decide +kernel
theorem dL_law_178 : decode cL_law 178 = .ok (.iconst 2, 1) := by decide +kernel
theorem dL_law_179 : decode cL_law 179 = .ok (.invokestatic 83, 3) := by decide +kernel
theorem dL_law_182 : decode cL_law 182 = .ok (.ifCond .ne 8, 3) := by decide +kernel
theorem dL_law_185 : decode cL_law 185 = .ok (.ldc 86, 2) := by decide +kernel
theorem dL_law_187 : decode cL_law 187 = .ok (.goto 6, 3) := by decide +kernel
theorem dL_law_190 : decode cL_law 190 = .ok (.sipush 2000, 3) := by decide +kernel
theorem dL_law_193 : decode cL_law 193 = .ok (.invokestatic 83, 3) := by decide +kernel
theorem dL_law_196 : decode cL_law 196 = .ok (.invokestatic 87, 3) := by decide +kernel
theorem dL_law_199 : decode cL_law 199 = .ok (.istore 9, 2) := by decide +kernel
theorem dL_law_201 : decode cL_law 201 = .ok (.iload 9, 2) := by decide +kernel
theorem dL_law_203 : decode cL_law 203 = .ok (.bipush (-3), 2) := by decide +kernel
theorem dL_law_205 : decode cL_law 205 = .ok (.if_icmp .ne 18, 3) := by decide +kernel
theorem dL_law_208 : decode cL_law 208 = .ok (.iload 6, 2) := by decide +kernel
theorem dL_law_210 : decode cL_law 210 = .ok (.bipush 30, 2) := by decide +kernel
theorem dL_law_212 : decode cL_law 212 = .ok (.if_icmp .ne 7, 3) := by decide +kernel
theorem dL_law_215 : decode cL_law 215 = .ok (.iconst 1, 1) := by decide +kernel
theorem dL_law_216 : decode cL_law 216 = .ok (.goto 37, 3) := by decide +kernel
theorem dL_law_219 : decode cL_law 219 = .ok (.iconst 0, 1) := by decide +kernel
theorem dL_law_220 : decode cL_law 220 = .ok (.goto 33, 3) := by decide +kernel
theorem dL_law_223 : decode cL_law 223 = .ok (.iload 9, 2) := by decide +kernel
theorem dL_law_225 : decode cL_law 225 = .ok (.iload 6, 2) := by decide +kernel
theorem dL_law_227 : decode cL_law 227 = .ok (.if_icmp .ne 25, 3) := by decide +kernel
theorem dL_law_230 : decode cL_law 230 = .ok (.aload_n 1, 1) := by decide +kernel
theorem dL_law_231 : decode cL_law 231 = .ok (.iload 9, 2) := by decide +kernel
theorem dL_law_233 : decode cL_law 233 = .ok (.invokevirtual 41, 3) := by decide +kernel
theorem dL_law_236 : decode cL_law 236 = .ok (.ifCond .ne 16, 3) := by decide +kernel
theorem dL_law_239 : decode cL_law 239 = .ok (.aload_n 1, 1) := by decide +kernel
theorem dL_law_240 : decode cL_law 240 = .ok (.iload 9, 2) := by decide +kernel
theorem dL_law_242 : decode cL_law 242 = .ok (.invokevirtual 44, 3) := by decide +kernel
theorem dL_law_245 : decode cL_law 245 = .ok (.ifCond .ne 7, 3) := by decide +kernel
theorem dL_law_248 : decode cL_law 248 = .ok (.iconst 1, 1) := by decide +kernel
theorem dL_law_249 : decode cL_law 249 = .ok (.goto 4, 3) := by decide +kernel
theorem dL_law_252 : decode cL_law 252 = .ok (.iconst 0, 1) := by decide +kernel
theorem dL_law_253 : decode cL_law 253 = .ok (.istore_n 2, 1) := by decide +kernel
theorem dL_law_254 : decode cL_law 254 = .ok (.goto 387, 3) := by decide +kernel
theorem dL_law_257 : decode cL_law 257 = .ok (.iload 8, 2) := by decide +kernel
theorem dL_law_259 : decode cL_law 259 = .ok (.iconst 5, 1) := by decide +kernel
theorem dL_law_260 : decode cL_law 260 = .ok (.if_icmp .ge 88, 3) := by decide +kernel
theorem dL_law_263 : decode cL_law 263 = .ok (.aload_n 1, 1) := by decide +kernel
theorem dL_law_264 : decode cL_law 264 = .ok (.iload 7, 2) := by decide +kernel
theorem dL_law_266 : decode cL_law 266 = .ok (.invokestatic 90, 3) := by decide +kernel
theorem dL_law_269 : decode cL_law 269 = .ok (.istore 9, 2) := by decide +kernel
theorem dL_law_271 : decode cL_law 271 = .ok (.aload_n 1, 1) := by decide +kernel
theorem dL_law_272 : decode cL_law 272 = .ok (.invokevirtual 27, 3) := by decide +kernel
theorem dL_law_275 : decode cL_law 275 = .ok (.lstore 10, 2) := by decide +kernel
theorem dL_law_277 : decode cL_law 277 = .ok (.aload_n 1, 1) := by decide +kernel
theorem dL_law_278 : decode cL_law 278 = .ok (.iload 7, 2) := by decide +kernel
theorem dL_law_280 : decode cL_law 280 = .ok (.invokestatic 93, 3) := by decide +kernel
theorem dL_law_283 : decode cL_law 283 = .ok (.istore 12, 2) := by decide +kernel
theorem dL_law_285 : decode cL_law 285 = .ok (.iload 12, 2) := by decide +kernel
theorem dL_law_287 : decode cL_law 287 = .ok (.iload 9, 2) := by decide +kernel
theorem dL_law_289 : decode cL_law 289 = .ok (.if_icmp .ne 54, 3) := by decide +kernel
theorem dL_law_292 : decode cL_law 292 = .ok (.iload 12, 2) := by decide +kernel
theorem dL_law_294 : decode cL_law 294 = .ok (.bipush (-3), 2) := by decide +kernel
theorem dL_law_296 : decode cL_law 296 = .ok (.if_icmp .eq 43, 3) := by decide +kernel
theorem dL_law_299 : decode cL_law 299 = .ok (.iload 12, 2) := by decide +kernel
theorem dL_law_301 : decode cL_law 301 = .ok (.ifCond .lt 42, 3) := by decide +kernel
theorem dL_law_304 : decode cL_law 304 = .ok (.aload_n 1, 1) := by decide +kernel
theorem dL_law_305 : decode cL_law 305 = .ok (.iload 7, 2) := by decide +kernel
theorem dL_law_307 : decode cL_law 307 = .ok (.invokevirtual 50, 3) := by decide +kernel
theorem dL_law_310 : decode cL_law 310 = .ok (.iload 12, 2) := by decide +kernel
theorem dL_law_312 : decode cL_law 312 = .ok (.if_icmp .ne 31, 3) := by decide +kernel
theorem dL_law_315 : decode cL_law 315 = .ok (.aload_n 1, 1) := by decide +kernel
theorem dL_law_316 : decode cL_law 316 = .ok (.iload 7, 2) := by decide +kernel
theorem dL_law_318 : decode cL_law 318 = .ok (.invokevirtual 41, 3) := by decide +kernel
theorem dL_law_321 : decode cL_law 321 = .ok (.iconst 2, 1) := by decide +kernel
theorem dL_law_322 : decode cL_law 322 = .ok (.if_icmp .ne 21, 3) := by decide +kernel
theorem dL_law_325 : decode cL_law 325 = .ok (.aload_n 1, 1) := by decide +kernel
theorem dL_law_326 : decode cL_law 326 = .ok (.invokevirtual 27, 3) := by decide +kernel
theorem dL_law_329 : decode cL_law 329 = .ok (.lload 10, 2) := by decide +kernel
theorem dL_law_331 : decode cL_law 331 = .ok (.iload 12, 2) := by decide +kernel
theorem dL_law_333 : decode cL_law 333 = .ok (.i2l, 1) := by decide +kernel
theorem dL_law_334 : decode cL_law 334 = .ok (.lsub, 1) := by decide +kernel
theorem dL_law_335 : decode cL_law 335 = .ok (.lcmp, 1) := by decide +kernel
theorem dL_law_336 : decode cL_law 336 = .ok (.ifCond .ne 7, 3) := by decide +kernel
theorem dL_law_339 : decode cL_law 339 = .ok (.iconst 1, 1) := by decide +kernel
theorem dL_law_340 : decode cL_law 340 = .ok (.goto 4, 3) := by decide +kernel
theorem dL_law_343 : decode cL_law 343 = .ok (.iconst 0, 1) := by decide +kernel
theorem dL_law_344 : decode cL_law 344 = .ok (.istore_n 2, 1) := by decide +kernel
theorem dL_law_345 : decode cL_law 345 = .ok (.goto 296, 3) := by decide +kernel
theorem dL_law_348 : decode cL_law 348 = .ok (.iload 8, 2) := by decide +kernel
theorem dL_law_350 : decode cL_law 350 = .ok (.bipush 6, 2) := by decide +kernel
theorem dL_law_352 : decode cL_law 352 = .ok (.if_icmp .ge 60, 3) := by decide +kernel
theorem dL_law_355 : decode cL_law 355 = .ok (.iload 5, 2) := by decide +kernel
theorem dL_law_357 : decode cL_law 357 = .ok (.sipush 201, 3) := by decide +kernel
theorem dL_law_360 : decode cL_law 360 = .ok (.invokestatic 83, 3) := by decide +kernel
theorem dL_law_363 : decode cL_law 363 = .ok (.istore 9, 2) := by decide +kernel
theorem dL_law_365 : decode cL_law 365 = .ok (.aload_n 1, 1) := by decide +kernel
theorem dL_law_366 : decode cL_law 366 = .ok (.iload 9, 2) := by decide +kernel
theorem dL_law_368 : decode cL_law 368 = .ok (.iload 5, 2) := by decide +kernel
theorem dL_law_370 : decode cL_law 370 = .ok (.bipush 8, 2) := by decide +kernel
theorem dL_law_372 : decode cL_law 372 = .ok (.ishr, 1) := by decide +kernel
theorem dL_law_373 : decode cL_law 373 = .ok (.bipush 101, 2) := by decide +kernel
theorem dL_law_375 : decode cL_law 375 = .ok (.invokestatic 83, 3) := by decide +kernel
theorem dL_law_378 : decode cL_law 378 = .ok (.invokevirtual 95, 3) := by decide +kernel
theorem dL_law_381 : decode cL_law 381 = .ok (.pop, 1) := by decide +kernel
theorem dL_law_382 : decode cL_law 382 = .ok (.aload_n 1, 1) := by decide +kernel
theorem dL_law_383 : decode cL_law 383 = .ok (.iload 9, 2) := by decide +kernel
theorem dL_law_385 : decode cL_law 385 = .ok (.iload 5, 2) := by decide +kernel
theorem dL_law_387 : decode cL_law 387 = .ok (.bipush 8, 2) := by decide +kernel
theorem dL_law_389 : decode cL_law 389 = .ok (.ishr, 1) := by decide +kernel
theorem dL_law_390 : decode cL_law 390 = .ok (.bipush 101, 2) := by decide +kernel
theorem dL_law_392 : decode cL_law 392 = .ok (.invokestatic 83, 3) := by decide +kernel
theorem dL_law_395 : decode cL_law 395 = .ok (.invokevirtual 95, 3) := by decide +kernel
theorem dL_law_398 : decode cL_law 398 = .ok (.iload 9, 2) := by decide +kernel
theorem dL_law_400 : decode cL_law 400 = .ok (.if_icmp .ne 7, 3) := by decide +kernel
theorem dL_law_403 : decode cL_law 403 = .ok (.iconst 1, 1) := by decide +kernel
theorem dL_law_404 : decode cL_law 404 = .ok (.goto 4, 3) := by decide +kernel
theorem dL_law_407 : decode cL_law 407 = .ok (.iconst 0, 1) := by decide +kernel
theorem dL_law_408 : decode cL_law 408 = .ok (.istore_n 2, 1) := by decide +kernel
theorem dL_law_409 : decode cL_law 409 = .ok (.goto 232, 3) := by decide +kernel
theorem dL_law_412 : decode cL_law 412 = .ok (.iload 8, 2) := by decide +kernel
theorem dL_law_414 : decode cL_law 414 = .ok (.bipush 7, 2) := by decide +kernel
theorem dL_law_416 : decode cL_law 416 = .ok (.if_icmp .ge 86, 3) := by decide +kernel
theorem dL_law_419 : decode cL_law 419 = .ok (.sipush 500, 3) := by decide +kernel
theorem dL_law_422 : decode cL_law 422 = .ok (.iload 5, 2) := by decide +kernel
theorem dL_law_424 : decode cL_law 424 = .ok (.sipush 1001, 3) := by decide +kernel
theorem dL_law_427 : decode cL_law 427 = .ok (.invokestatic 83, 3) := by decide +kernel
theorem dL_law_430 : decode cL_law 430 = .ok (.iadd, 1) := by decide +kernel
theorem dL_law_431 : decode cL_law 431 = .ok (.istore 9, 2) := by decide +kernel
theorem dL_law_433 : decode cL_law 433 = .ok (.aload_n 1, 1) := by decide +kernel
theorem dL_law_434 : decode cL_law 434 = .ok (.iload 9, 2) := by decide +kernel
theorem dL_law_436 : decode cL_law 436 = .ok (.iload 5, 2) := by decide +kernel
theorem dL_law_438 : decode cL_law 438 = .ok (.iconst 5, 1) := by decide +kernel
theorem dL_law_439 : decode cL_law 439 = .ok (.ishr, 1) := by decide +kernel
theorem dL_law_440 : decode cL_law 440 = .ok (.sipush 1001, 3) := by decide +kernel
theorem dL_law_443 : decode cL_law 443 = .ok (.invokestatic 83, 3) := by decide +kernel
theorem dL_law_446 : decode cL_law 446 = .ok (.iload 5, 2) := by decide +kernel
theorem dL_law_448 : decode cL_law 448 = .ok (.bipush 9, 2) := by decide +kernel
theorem dL_law_450 : decode cL_law 450 = .ok (.ishr, 1) := by decide +kernel
theorem dL_law_451 : decode cL_law 451 = .ok (.sipush 1001, 3) := by decide +kernel
theorem dL_law_454 : decode cL_law 454 = .ok (.invokestatic 83, 3) := by decide +kernel
theorem dL_law_457 : decode cL_law 457 = .ok (.invokevirtual 98, 3) := by decide +kernel
theorem dL_law_460 : decode cL_law 460 = .ok (.pop, 1) := by decide +kernel
theorem dL_law_461 : decode cL_law 461 = .ok (.aload_n 1, 1) := by decide +kernel
theorem dL_law_462 : decode cL_law 462 = .ok (.iload 9, 2) := by decide +kernel
theorem dL_law_464 : decode cL_law 464 = .ok (.iload 5, 2) := by decide +kernel
theorem dL_law_466 : decode cL_law 466 = .ok (.iconst 5, 1) := by decide +kernel
theorem dL_law_467 : decode cL_law 467 = .ok (.ishr, 1) := by decide +kernel
theorem dL_law_468 : decode cL_law 468 = .ok (.sipush 1001, 3) := by decide +kernel
theorem dL_law_471 : decode cL_law 471 = .ok (.invokestatic 83, 3) := by decide +kernel
theorem dL_law_474 : decode cL_law 474 = .ok (.iload 5, 2) := by decide +kernel
theorem dL_law_476 : decode cL_law 476 = .ok (.bipush 9, 2) := by decide +kernel
theorem dL_law_478 : decode cL_law 478 = .ok (.ishr, 1) := by decide +kernel
theorem dL_law_479 : decode cL_law 479 = .ok (.sipush 1001, 3) := by decide +kernel
theorem dL_law_482 : decode cL_law 482 = .ok (.invokestatic 83, 3) := by decide +kernel
theorem dL_law_485 : decode cL_law 485 = .ok (.invokevirtual 98, 3) := by decide +kernel
theorem dL_law_488 : decode cL_law 488 = .ok (.iload 9, 2) := by decide +kernel
theorem dL_law_490 : decode cL_law 490 = .ok (.if_icmp .ne 7, 3) := by decide +kernel
theorem dL_law_493 : decode cL_law 493 = .ok (.iconst 1, 1) := by decide +kernel
theorem dL_law_494 : decode cL_law 494 = .ok (.goto 4, 3) := by decide +kernel
theorem dL_law_497 : decode cL_law 497 = .ok (.iconst 0, 1) := by decide +kernel
theorem dL_law_498 : decode cL_law 498 = .ok (.istore_n 2, 1) := by decide +kernel
theorem dL_law_499 : decode cL_law 499 = .ok (.goto 142, 3) := by decide +kernel
theorem dL_law_502 : decode cL_law 502 = .ok (.iload 8, 2) := by decide +kernel
theorem dL_law_504 : decode cL_law 504 = .ok (.bipush 8, 2) := by decide +kernel
theorem dL_law_506 : decode cL_law 506 = .ok (.if_icmp .ge 60, 3) := by decide +kernel
theorem dL_law_509 : decode cL_law 509 = .ok (.aload_n 1, 1) := by decide +kernel
theorem dL_law_510 : decode cL_law 510 = .ok (.invokevirtual 56, 3) := by decide +kernel
theorem dL_law_513 : decode cL_law 513 = .ok (.lstore 9, 2) := by decide +kernel
theorem dL_law_515 : decode cL_law 515 = .ok (.iload 5, 2) := by decide +kernel
theorem dL_law_517 : decode cL_law 517 = .ok (.ldc 101, 2) := by decide +kernel
theorem dL_law_519 : decode cL_law 519 = .ok (.invokestatic 83, 3) := by decide +kernel
theorem dL_law_522 : decode cL_law 522 = .ok (.ldc 102, 2) := by decide +kernel
theorem dL_law_524 : decode cL_law 524 = .ok (.isub, 1) := by decide +kernel
theorem dL_law_525 : decode cL_law 525 = .ok (.istore 11, 2) := by decide +kernel
theorem dL_law_527 : decode cL_law 527 = .ok (.aload_n 1, 1) := by decide +kernel
theorem dL_law_528 : decode cL_law 528 = .ok (.iload 11, 2) := by decide +kernel
theorem dL_law_530 : decode cL_law 530 = .ok (.invokevirtual 103, 3) := by decide +kernel
theorem dL_law_533 : decode cL_law 533 = .ok (.lload 9, 2) := by decide +kernel
theorem dL_law_535 : decode cL_law 535 = .ok (.iload 11, 2) := by decide +kernel
theorem dL_law_537 : decode cL_law 537 = .ok (.i2l, 1) := by decide +kernel
theorem dL_law_538 : decode cL_law 538 = .ok (.ladd, 1) := by decide +kernel
theorem dL_law_539 : decode cL_law 539 = .ok (.lcmp, 1) := by decide +kernel
theorem dL_law_540 : decode cL_law 540 = .ok (.ifCond .ne 21, 3) := by decide +kernel
theorem dL_law_543 : decode cL_law 543 = .ok (.aload_n 1, 1) := by decide +kernel
theorem dL_law_544 : decode cL_law 544 = .ok (.invokevirtual 56, 3) := by decide +kernel
theorem dL_law_547 : decode cL_law 547 = .ok (.lload 9, 2) := by decide +kernel
theorem dL_law_549 : decode cL_law 549 = .ok (.iload 11, 2) := by decide +kernel
theorem dL_law_551 : decode cL_law 551 = .ok (.i2l, 1) := by decide +kernel
theorem dL_law_552 : decode cL_law 552 = .ok (.ladd, 1) := by decide +kernel
theorem dL_law_553 : decode cL_law 553 = .ok (.lcmp, 1) := by decide +kernel
theorem dL_law_554 : decode cL_law 554 = .ok (.ifCond .ne 7, 3) := by decide +kernel
theorem dL_law_557 : decode cL_law 557 = .ok (.iconst 1, 1) := by decide +kernel
theorem dL_law_558 : decode cL_law 558 = .ok (.goto 4, 3) := by decide +kernel
theorem dL_law_561 : decode cL_law 561 = .ok (.iconst 0, 1) := by decide +kernel
theorem dL_law_562 : decode cL_law 562 = .ok (.istore_n 2, 1) := by decide +kernel
theorem dL_law_563 : decode cL_law 563 = .ok (.goto 78, 3) := by decide +kernel
theorem dL_law_566 : decode cL_law 566 = .ok (.aload_n 1, 1) := by decide +kernel
theorem dL_law_567 : decode cL_law 567 = .ok (.invokevirtual 73, 3) := by decide +kernel
theorem dL_law_570 : decode cL_law 570 = .ok (.istore 9, 2) := by decide +kernel
theorem dL_law_572 : decode cL_law 572 = .ok (.aload_n 1, 1) := by decide +kernel
theorem dL_law_573 : decode cL_law 573 = .ok (.iload 5, 2) := by decide +kernel
theorem dL_law_575 : decode cL_law 575 = .ok (.sipush 401, 3) := by decide +kernel
theorem dL_law_578 : decode cL_law 578 = .ok (.invokestatic 83, 3) := by decide +kernel
theorem dL_law_581 : decode cL_law 581 = .ok (.sipush 200, 3) := by decide +kernel
theorem dL_law_584 : decode cL_law 584 = .ok (.isub, 1) := by decide +kernel
theorem dL_law_585 : decode cL_law 585 = .ok (.invokestatic 107, 3) := by decide +kernel
theorem dL_law_588 : decode cL_law 588 = .ok (.istore 10, 2) := by decide +kernel
theorem dL_law_590 : decode cL_law 590 = .ok (.iload 10, 2) := by decide +kernel
theorem dL_law_592 : decode cL_law 592 = .ok (.bipush (-3), 2) := by decide +kernel
theorem dL_law_594 : decode cL_law 594 = .ok (.if_icmp .ne 18, 3) := by decide +kernel
theorem dL_law_597 : decode cL_law 597 = .ok (.iload 9, 2) := by decide +kernel
theorem dL_law_599 : decode cL_law 599 = .ok (.bipush 40, 2) := by decide +kernel
theorem dL_law_601 : decode cL_law 601 = .ok (.if_icmp .ne 7, 3) := by decide +kernel
theorem dL_law_604 : decode cL_law 604 = .ok (.iconst 1, 1) := by decide +kernel
theorem dL_law_605 : decode cL_law 605 = .ok (.goto 35, 3) := by decide +kernel
theorem dL_law_608 : decode cL_law 608 = .ok (.iconst 0, 1) := by decide +kernel
theorem dL_law_609 : decode cL_law 609 = .ok (.goto 31, 3) := by decide +kernel
theorem dL_law_612 : decode cL_law 612 = .ok (.iload 10, 2) := by decide +kernel
theorem dL_law_614 : decode cL_law 614 = .ok (.ifCond .lt 25, 3) := by decide +kernel
theorem dL_law_617 : decode cL_law 617 = .ok (.iload 10, 2) := by decide +kernel
theorem dL_law_619 : decode cL_law 619 = .ok (.iload 6, 2) := by decide +kernel
theorem dL_law_621 : decode cL_law 621 = .ok (.if_icmp .gt 18, 3) := by decide +kernel
theorem dL_law_624 : decode cL_law 624 = .ok (.aload_n 1, 1) := by decide +kernel
theorem dL_law_625 : decode cL_law 625 = .ok (.invokevirtual 73, 3) := by decide +kernel
theorem dL_law_628 : decode cL_law 628 = .ok (.iload 9, 2) := by decide +kernel
theorem dL_law_630 : decode cL_law 630 = .ok (.iconst 1, 1) := by decide +kernel
theorem dL_law_631 : decode cL_law 631 = .ok (.iadd, 1) := by decide +kernel
theorem dL_law_632 : decode cL_law 632 = .ok (.if_icmp .ne 7, 3) := by decide +kernel
theorem dL_law_635 : decode cL_law 635 = .ok (.iconst 1, 1) := by decide +kernel
theorem dL_law_636 : decode cL_law 636 = .ok (.goto 4, 3) := by decide +kernel
theorem dL_law_639 : decode cL_law 639 = .ok (.iconst 0, 1) := by decide +kernel
theorem dL_law_640 : decode cL_law 640 = .ok (.istore_n 2, 1) := by decide +kernel
theorem dL_law_641 : decode cL_law 641 = .ok (.iload_n 2, 1) := by decide +kernel
theorem dL_law_642 : decode cL_law 642 = .ok (.ifCond .eq 29, 3) := by decide +kernel
theorem dL_law_645 : decode cL_law 645 = .ok (.aload_n 1, 1) := by decide +kernel
theorem dL_law_646 : decode cL_law 646 = .ok (.invokestatic 64, 3) := by decide +kernel
theorem dL_law_649 : decode cL_law 649 = .ok (.ifCond .eq 22, 3) := by decide +kernel
theorem dL_law_652 : decode cL_law 652 = .ok (.iload 4, 2) := by decide +kernel
theorem dL_law_654 : decode cL_law 654 = .ok (.bipush 6, 2) := by decide +kernel
theorem dL_law_656 : decode cL_law 656 = .ok (.irem, 1) := by decide +kernel
theorem dL_law_657 : decode cL_law 657 = .ok (.ifCond .gt 10, 3) := by decide +kernel
theorem dL_law_660 : decode cL_law 660 = .ok (.aload_n 1, 1) := by decide +kernel
theorem dL_law_661 : decode cL_law 661 = .ok (.invokestatic 70, 3) := by decide +kernel
theorem dL_law_664 : decode cL_law 664 = .ok (.ifCond .eq 7, 3) := by decide +kernel
theorem dL_law_667 : decode cL_law 667 = .ok (.iconst 1, 1) := by decide +kernel
theorem dL_law_668 : decode cL_law 668 = .ok (.goto 4, 3) := by decide +kernel
theorem dL_law_671 : decode cL_law 671 = .ok (.iconst 0, 1) := by decide +kernel
theorem dL_law_672 : decode cL_law 672 = .ok (.istore_n 2, 1) := by decide +kernel
theorem dL_law_673 : decode cL_law 673 = .ok (.iinc 4 1, 3) := by decide +kernel
theorem dL_law_676 : decode cL_law 676 = .ok (.goto (-615), 3) := by decide +kernel
theorem dL_law_679 : decode cL_law 679 = .ok (.iload_n 2, 1) := by decide +kernel
theorem dL_law_680 : decode cL_law 680 = .ok (.ifCond .eq 14, 3) := by decide +kernel
theorem dL_law_683 : decode cL_law 683 = .ok (.aload_n 1, 1) := by decide +kernel
theorem dL_law_684 : decode cL_law 684 = .ok (.invokestatic 70, 3) := by decide +kernel
theorem dL_law_687 : decode cL_law 687 = .ok (.ifCond .eq 7, 3) := by decide +kernel
theorem dL_law_690 : decode cL_law 690 = .ok (.iconst 1, 1) := by decide +kernel
theorem dL_law_691 : decode cL_law 691 = .ok (.goto 4, 3) := by decide +kernel
theorem dL_law_694 : decode cL_law 694 = .ok (.iconst 0, 1) := by decide +kernel
theorem dL_law_695 : decode cL_law 695 = .ok (.ireturn, 1) := by decide +kernel
