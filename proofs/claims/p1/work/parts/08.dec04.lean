/-! decode rows, printed by a program -/
theorem d_Machine_addOperation_3 : decode prog_5_method_5_code 3 = .ok (.imul, 1) := by decide +kernel
theorem d_Machine_addOperation_4 : decode prog_5_method_5_code 4 = .ok (.aload_n 0, 1) := by decide +kernel
theorem d_Machine_addOperation_5 : decode prog_5_method_5_code 5 = .ok (.getfield 45, 3) := by decide +kernel
theorem d_Machine_addOperation_8 : decode prog_5_method_5_code 8 = .ok (.iload_n 1, 1) := by decide +kernel
theorem d_Machine_addOperation_9 : decode prog_5_method_5_code 9 = .ok (.iaload, 1) := by decide +kernel
theorem d_Machine_addOperation_10 : decode prog_5_method_5_code 10 = .ok (.iadd, 1) := by decide +kernel
theorem d_Machine_addOperation_11 : decode prog_5_method_5_code 11 = .ok (.istore 5, 2) := by decide +kernel
theorem d_Machine_addOperation_13 : decode prog_5_method_5_code 13 = .ok (.aload_n 0, 1) := by decide +kernel
theorem d_Machine_addOperation_14 : decode prog_5_method_5_code 14 = .ok (.getfield 38, 3) := by decide +kernel
theorem d_Machine_addOperation_17 : decode prog_5_method_5_code 17 = .ok (.iload 5, 2) := by decide +kernel
theorem d_Machine_addOperation_19 : decode prog_5_method_5_code 19 = .ok (.iload_n 2, 1) := by decide +kernel
theorem d_Machine_addOperation_20 : decode prog_5_method_5_code 20 = .ok (.iastore, 1) := by decide +kernel
theorem d_Machine_addOperation_21 : decode prog_5_method_5_code 21 = .ok (.aload_n 0, 1) := by decide +kernel
theorem d_Machine_addOperation_22 : decode prog_5_method_5_code 22 = .ok (.getfield 41, 3) := by decide +kernel
theorem d_Machine_addOperation_25 : decode prog_5_method_5_code 25 = .ok (.iload 5, 2) := by decide +kernel
theorem d_Machine_addOperation_27 : decode prog_5_method_5_code 27 = .ok (.iload_n 2, 1) := by decide +kernel
theorem d_Machine_addOperation_28 : decode prog_5_method_5_code 28 = .ok (.bipush 13, 2) := by decide +kernel
theorem d_Machine_addOperation_30 : decode prog_5_method_5_code 30 = .ok (.if_icmp .lt 11, 3) := by decide +kernel
theorem d_Machine_addOperation_33 : decode prog_5_method_5_code 33 = .ok (.lload_n 3, 1) := by decide +kernel
theorem d_Machine_addOperation_34 : decode prog_5_method_5_code 34 = .ok (.lconst 0, 1) := by decide +kernel
theorem d_Machine_addOperation_35 : decode prog_5_method_5_code 35 = .ok (.invokestatic 76, 3) := by decide +kernel
theorem d_Machine_addOperation_38 : decode prog_5_method_5_code 38 = .ok (.goto 4, 3) := by decide +kernel
theorem d_Machine_addOperation_41 : decode prog_5_method_5_code 41 = .ok (.lload_n 3, 1) := by decide +kernel
theorem d_Machine_addOperation_42 : decode prog_5_method_5_code 42 = .ok (.lastore, 1) := by decide +kernel
theorem d_Machine_addOperation_43 : decode prog_5_method_5_code 43 = .ok (.aload_n 0, 1) := by decide +kernel
theorem d_Machine_addOperation_44 : decode prog_5_method_5_code 44 = .ok (.getfield 45, 3) := by decide +kernel
theorem d_Machine_addOperation_47 : decode prog_5_method_5_code 47 = .ok (.iload_n 1, 1) := by decide +kernel
theorem d_Machine_addOperation_48 : decode prog_5_method_5_code 48 = .ok (.dup2, 1) := by decide +kernel
theorem d_Machine_addOperation_49 : decode prog_5_method_5_code 49 = .ok (.iaload, 1) := by decide +kernel
theorem d_Machine_addOperation_50 : decode prog_5_method_5_code 50 = .ok (.iconst 1, 1) := by decide +kernel
theorem d_Machine_addOperation_51 : decode prog_5_method_5_code 51 = .ok (.iadd, 1) := by decide +kernel
theorem d_Machine_addOperation_52 : decode prog_5_method_5_code 52 = .ok (.iastore, 1) := by decide +kernel
theorem d_Machine_addOperation_53 : decode prog_5_method_5_code 53 = .ok (.aload_n 0, 1) := by decide +kernel
theorem d_Machine_addOperation_54 : decode prog_5_method_5_code 54 = .ok (.getfield 45, 3) := by decide +kernel
theorem d_Machine_addOperation_57 : decode prog_5_method_5_code 57 = .ok (.iload_n 1, 1) := by decide +kernel
theorem d_Machine_addOperation_58 : decode prog_5_method_5_code 58 = .ok (.iaload, 1) := by decide +kernel
theorem d_Machine_addOperation_59 : decode prog_5_method_5_code 59 = .ok (.ireturn, 1) := by decide +kernel
theorem d_Machine_dropOperations_0 : decode prog_5_method_6_code 0 = .ok (.aload_n 0, 1) := by decide +kernel
theorem d_Machine_dropOperations_1 : decode prog_5_method_6_code 1 = .ok (.getfield 45, 3) := by decide +kernel
theorem d_Machine_dropOperations_4 : decode prog_5_method_6_code 4 = .ok (.iload_n 1, 1) := by decide +kernel
theorem d_Machine_dropOperations_5 : decode prog_5_method_6_code 5 = .ok (.iaload, 1) := by decide +kernel
theorem d_Machine_dropOperations_6 : decode prog_5_method_6_code 6 = .ok (.istore_n 2, 1) := by decide +kernel
theorem d_Machine_dropOperations_7 : decode prog_5_method_6_code 7 = .ok (.aload_n 0, 1) := by decide +kernel
theorem d_Machine_dropOperations_8 : decode prog_5_method_6_code 8 = .ok (.getfield 45, 3) := by decide +kernel
theorem d_Machine_dropOperations_11 : decode prog_5_method_6_code 11 = .ok (.iload_n 1, 1) := by decide +kernel
theorem d_Machine_dropOperations_12 : decode prog_5_method_6_code 12 = .ok (.iconst 0, 1) := by decide +kernel
theorem d_Machine_dropOperations_13 : decode prog_5_method_6_code 13 = .ok (.iastore, 1) := by decide +kernel
theorem d_Machine_dropOperations_14 : decode prog_5_method_6_code 14 = .ok (.iload_n 2, 1) := by decide +kernel
theorem d_Machine_dropOperations_15 : decode prog_5_method_6_code 15 = .ok (.ireturn, 1) := by decide +kernel
theorem d_Machine_start_0 : decode prog_5_method_8_code 0 = .ok (.aload_n 0, 1) := by decide +kernel
theorem d_Machine_start_1 : decode prog_5_method_8_code 1 = .ok (.iconst 0, 1) := by decide +kernel
theorem d_Machine_start_2 : decode prog_5_method_8_code 2 = .ok (.putfield 82, 3) := by decide +kernel
theorem d_Machine_start_5 : decode prog_5_method_8_code 5 = .ok (.aload_n 0, 1) := by decide +kernel
theorem d_Machine_start_6 : decode prog_5_method_8_code 6 = .ok (.aconst_null, 1) := by decide +kernel
theorem d_Machine_start_7 : decode prog_5_method_8_code 7 = .ok (.putfield 86, 3) := by decide +kernel
theorem d_Machine_start_10 : decode prog_5_method_8_code 10 = .ok (.iload_n 2, 1) := by decide +kernel
theorem d_Machine_start_11 : decode prog_5_method_8_code 11 = .ok (.ifCond .ne 11, 3) := by decide +kernel
theorem d_Machine_start_14 : decode prog_5_method_8_code 14 = .ok (.aload_n 0, 1) := by decide +kernel
theorem d_Machine_start_15 : decode prog_5_method_8_code 15 = .ok (.iload_n 1, 1) := by decide +kernel
theorem d_Machine_start_16 : decode prog_5_method_8_code 16 = .ok (.i2l, 1) := by decide +kernel
theorem d_Machine_start_17 : decode prog_5_method_8_code 17 = .ok (.iconst 1, 1) := by decide +kernel
theorem d_Machine_start_18 : decode prog_5_method_8_code 18 = .ok (.invokevirtual 90, 3) := by decide +kernel
theorem d_Machine_start_21 : decode prog_5_method_8_code 21 = .ok (.ireturn, 1) := by decide +kernel
theorem d_Machine_start_22 : decode prog_5_method_8_code 22 = .ok (.aload_n 0, 1) := by decide +kernel
theorem d_Machine_start_23 : decode prog_5_method_8_code 23 = .ok (.getfield 15, 3) := by decide +kernel
theorem d_Machine_start_26 : decode prog_5_method_8_code 26 = .ok (.invokevirtual 94, 3) := by decide +kernel
theorem d_Machine_start_29 : decode prog_5_method_8_code 29 = .ok (.istore_n 3, 1) := by decide +kernel
theorem d_Machine_start_30 : decode prog_5_method_8_code 30 = .ok (.iconst 0, 1) := by decide +kernel
theorem d_Machine_start_31 : decode prog_5_method_8_code 31 = .ok (.istore 4, 2) := by decide +kernel
theorem d_Machine_start_33 : decode prog_5_method_8_code 33 = .ok (.iload 4, 2) := by decide +kernel
theorem d_Machine_start_35 : decode prog_5_method_8_code 35 = .ok (.iload_n 3, 1) := by decide +kernel
theorem d_Machine_start_36 : decode prog_5_method_8_code 36 = .ok (.if_icmp .ge 48, 3) := by decide +kernel
theorem d_Machine_start_39 : decode prog_5_method_8_code 39 = .ok (.aload_n 0, 1) := by decide +kernel
theorem d_Machine_start_40 : decode prog_5_method_8_code 40 = .ok (.aload_n 0, 1) := by decide +kernel
theorem d_Machine_start_41 : decode prog_5_method_8_code 41 = .ok (.getfield 15, 3) := by decide +kernel
theorem d_Machine_start_44 : decode prog_5_method_8_code 44 = .ok (.iload_n 2, 1) := by decide +kernel
theorem d_Machine_start_45 : decode prog_5_method_8_code 45 = .ok (.iconst 1, 1) := by decide +kernel
theorem d_Machine_start_46 : decode prog_5_method_8_code 46 = .ok (.if_icmp .ne 8, 3) := by decide +kernel
theorem d_Machine_start_49 : decode prog_5_method_8_code 49 = .ok (.iload 4, 2) := by decide +kernel
theorem d_Machine_start_51 : decode prog_5_method_8_code 51 = .ok (.goto 9, 3) := by decide +kernel
theorem d_Machine_start_54 : decode prog_5_method_8_code 54 = .ok (.iload_n 3, 1) := by decide +kernel
theorem d_Machine_start_55 : decode prog_5_method_8_code 55 = .ok (.iconst 1, 1) := by decide +kernel
theorem d_Machine_start_56 : decode prog_5_method_8_code 56 = .ok (.isub, 1) := by decide +kernel
theorem d_Machine_start_57 : decode prog_5_method_8_code 57 = .ok (.iload 4, 2) := by decide +kernel
theorem d_Machine_start_59 : decode prog_5_method_8_code 59 = .ok (.isub, 1) := by decide +kernel
theorem d_Machine_start_60 : decode prog_5_method_8_code 60 = .ok (.invokevirtual 100, 3) := by decide +kernel
theorem d_Machine_start_63 : decode prog_5_method_8_code 63 = .ok (.putfield 86, 3) := by decide +kernel
theorem d_Machine_start_66 : decode prog_5_method_8_code 66 = .ok (.aload_n 0, 1) := by decide +kernel
theorem d_Machine_start_67 : decode prog_5_method_8_code 67 = .ok (.iload_n 1, 1) := by decide +kernel
theorem d_Machine_start_68 : decode prog_5_method_8_code 68 = .ok (.i2l, 1) := by decide +kernel
theorem d_Machine_start_69 : decode prog_5_method_8_code 69 = .ok (.iconst 1, 1) := by decide +kernel
theorem d_Machine_start_70 : decode prog_5_method_8_code 70 = .ok (.invokevirtual 90, 3) := by decide +kernel
theorem d_Machine_start_73 : decode prog_5_method_8_code 73 = .ok (.ifCond .ne 5, 3) := by decide +kernel
theorem d_Machine_start_76 : decode prog_5_method_8_code 76 = .ok (.iconst 0, 1) := by decide +kernel
theorem d_Machine_start_77 : decode prog_5_method_8_code 77 = .ok (.ireturn, 1) := by decide +kernel
theorem d_Machine_start_78 : decode prog_5_method_8_code 78 = .ok (.iinc 4 1, 3) := by decide +kernel
theorem d_Machine_start_81 : decode prog_5_method_8_code 81 = .ok (.goto (-48), 3) := by decide +kernel
theorem d_Machine_start_84 : decode prog_5_method_8_code 84 = .ok (.iconst 1, 1) := by decide +kernel
theorem d_Machine_start_85 : decode prog_5_method_8_code 85 = .ok (.ireturn, 1) := by decide +kernel
theorem d_Machine_runFunction_0 : decode prog_5_method_9_code 0 = .ok (.iload_n 3, 1) := by decide +kernel
theorem d_Machine_runFunction_1 : decode prog_5_method_9_code 1 = .ok (.bipush 8, 2) := by decide +kernel
theorem d_Machine_runFunction_3 : decode prog_5_method_9_code 3 = .ok (.if_icmp .le 5, 3) := by decide +kernel
theorem d_Machine_runFunction_6 : decode prog_5_method_9_code 6 = .ok (.iconst 0, 1) := by decide +kernel
theorem d_Machine_runFunction_7 : decode prog_5_method_9_code 7 = .ok (.ireturn, 1) := by decide +kernel
theorem d_Machine_runFunction_8 : decode prog_5_method_9_code 8 = .ok (.lload_n 1, 1) := by decide +kernel
theorem d_Machine_runFunction_9 : decode prog_5_method_9_code 9 = .ok (.l2i, 1) := by decide +kernel
theorem d_Machine_runFunction_10 : decode prog_5_method_9_code 10 = .ok (.bipush 24, 2) := by decide +kernel
theorem d_Machine_runFunction_12 : decode prog_5_method_9_code 12 = .ok (.imul, 1) := by decide +kernel
theorem d_Machine_runFunction_13 : decode prog_5_method_9_code 13 = .ok (.istore 4, 2) := by decide +kernel
theorem d_Machine_runFunction_15 : decode prog_5_method_9_code 15 = .ok (.iload 4, 2) := by decide +kernel
theorem d_Machine_runFunction_17 : decode prog_5_method_9_code 17 = .ok (.aload_n 0, 1) := by decide +kernel
theorem d_Machine_runFunction_18 : decode prog_5_method_9_code 18 = .ok (.getfield 45, 3) := by decide +kernel
theorem d_Machine_runFunction_21 : decode prog_5_method_9_code 21 = .ok (.lload_n 1, 1) := by decide +kernel
theorem d_Machine_runFunction_22 : decode prog_5_method_9_code 22 = .ok (.l2i, 1) := by decide +kernel
theorem d_Machine_runFunction_23 : decode prog_5_method_9_code 23 = .ok (.iaload, 1) := by decide +kernel
theorem d_Machine_runFunction_24 : decode prog_5_method_9_code 24 = .ok (.iadd, 1) := by decide +kernel
theorem d_Machine_runFunction_25 : decode prog_5_method_9_code 25 = .ok (.istore 5, 2) := by decide +kernel
theorem d_Machine_runFunction_27 : decode prog_5_method_9_code 27 = .ok (.iload 4, 2) := by decide +kernel
theorem d_Machine_runFunction_29 : decode prog_5_method_9_code 29 = .ok (.istore 6, 2) := by decide +kernel
theorem d_Machine_runFunction_31 : decode prog_5_method_9_code 31 = .ok (.iload 6, 2) := by decide +kernel
theorem d_Machine_runFunction_33 : decode prog_5_method_9_code 33 = .ok (.iload 5, 2) := by decide +kernel
theorem d_Machine_runFunction_35 : decode prog_5_method_9_code 35 = .ok (.if_icmp .ge 130, 3) := by decide +kernel
theorem d_Machine_runFunction_38 : decode prog_5_method_9_code 38 = .ok (.aload_n 0, 1) := by decide +kernel
theorem d_Machine_runFunction_39 : decode prog_5_method_9_code 39 = .ok (.getfield 82, 3) := by decide +kernel
theorem d_Machine_runFunction_42 : decode prog_5_method_9_code 42 = .ok (.sipush 400, 3) := by decide +kernel
theorem d_Machine_runFunction_45 : decode prog_5_method_9_code 45 = .ok (.if_icmp .lt 5, 3) := by decide +kernel
theorem d_Machine_runFunction_48 : decode prog_5_method_9_code 48 = .ok (.iconst 0, 1) := by decide +kernel
theorem d_Machine_runFunction_49 : decode prog_5_method_9_code 49 = .ok (.ireturn, 1) := by decide +kernel
theorem d_Machine_runFunction_50 : decode prog_5_method_9_code 50 = .ok (.aload_n 0, 1) := by decide +kernel
theorem d_Machine_runFunction_51 : decode prog_5_method_9_code 51 = .ok (.dup, 1) := by decide +kernel
theorem d_Machine_runFunction_52 : decode prog_5_method_9_code 52 = .ok (.getfield 82, 3) := by decide +kernel
theorem d_Machine_runFunction_55 : decode prog_5_method_9_code 55 = .ok (.iconst 1, 1) := by decide +kernel
theorem d_Machine_runFunction_56 : decode prog_5_method_9_code 56 = .ok (.iadd, 1) := by decide +kernel
theorem d_Machine_runFunction_57 : decode prog_5_method_9_code 57 = .ok (.putfield 82, 3) := by decide +kernel
theorem d_Machine_runFunction_60 : decode prog_5_method_9_code 60 = .ok (.aload_n 0, 1) := by decide +kernel
theorem d_Machine_runFunction_61 : decode prog_5_method_9_code 61 = .ok (.getfield 38, 3) := by decide +kernel
theorem d_Machine_runFunction_64 : decode prog_5_method_9_code 64 = .ok (.iload 6, 2) := by decide +kernel
theorem d_Machine_runFunction_66 : decode prog_5_method_9_code 66 = .ok (.iaload, 1) := by decide +kernel
theorem d_Machine_runFunction_67 : decode prog_5_method_9_code 67 = .ok (.istore 7, 2) := by decide +kernel
theorem d_Machine_runFunction_69 : decode prog_5_method_9_code 69 = .ok (.iload 7, 2) := by decide +kernel
theorem d_Machine_runFunction_71 : decode prog_5_method_9_code 71 = .ok (.bipush 13, 2) := by decide +kernel
theorem d_Machine_runFunction_73 : decode prog_5_method_9_code 73 = .ok (.if_icmp .ge 19, 3) := by decide +kernel
theorem d_Machine_runFunction_76 : decode prog_5_method_9_code 76 = .ok (.aload_n 0, 1) := by decide +kernel
theorem d_Machine_runFunction_77 : decode prog_5_method_9_code 77 = .ok (.iload 7, 2) := by decide +kernel
theorem d_Machine_runFunction_79 : decode prog_5_method_9_code 79 = .ok (.aload_n 0, 1) := by decide +kernel
theorem d_Machine_runFunction_80 : decode prog_5_method_9_code 80 = .ok (.getfield 41, 3) := by decide +kernel
theorem d_Machine_runFunction_83 : decode prog_5_method_9_code 83 = .ok (.iload 6, 2) := by decide +kernel
theorem d_Machine_runFunction_85 : decode prog_5_method_9_code 85 = .ok (.laload, 1) := by decide +kernel
theorem d_Machine_runFunction_86 : decode prog_5_method_9_code 86 = .ok (.invokevirtual 104, 3) := by decide +kernel
theorem d_Machine_runFunction_89 : decode prog_5_method_9_code 89 = .ok (.goto 70, 3) := by decide +kernel
theorem d_Machine_runFunction_92 : decode prog_5_method_9_code 92 = .ok (.iload 7, 2) := by decide +kernel
theorem d_Machine_runFunction_94 : decode prog_5_method_9_code 94 = .ok (.bipush 22, 2) := by decide +kernel
theorem d_Machine_runFunction_96 : decode prog_5_method_9_code 96 = .ok (.if_icmp .le 19, 3) := by decide +kernel
theorem d_Machine_runFunction_99 : decode prog_5_method_9_code 99 = .ok (.aload_n 0, 1) := by decide +kernel
theorem d_Machine_runFunction_100 : decode prog_5_method_9_code 100 = .ok (.iload 7, 2) := by decide +kernel
theorem d_Machine_runFunction_102 : decode prog_5_method_9_code 102 = .ok (.aload_n 0, 1) := by decide +kernel
theorem d_Machine_runFunction_103 : decode prog_5_method_9_code 103 = .ok (.getfield 41, 3) := by decide +kernel
theorem d_Machine_runFunction_106 : decode prog_5_method_9_code 106 = .ok (.iload 6, 2) := by decide +kernel
theorem d_Machine_runFunction_108 : decode prog_5_method_9_code 108 = .ok (.laload, 1) := by decide +kernel
theorem d_Machine_runFunction_109 : decode prog_5_method_9_code 109 = .ok (.invokevirtual 108, 3) := by decide +kernel
theorem d_Machine_runFunction_112 : decode prog_5_method_9_code 112 = .ok (.goto 47, 3) := by decide +kernel
theorem d_Machine_runFunction_115 : decode prog_5_method_9_code 115 = .ok (.iload 7, 2) := by decide +kernel
theorem d_Machine_runFunction_117 : decode prog_5_method_9_code 117 = .ok (.bipush 15, 2) := by decide +kernel
theorem d_Machine_runFunction_119 : decode prog_5_method_9_code 119 = .ok (.if_icmp .le 19, 3) := by decide +kernel
theorem d_Machine_runFunction_122 : decode prog_5_method_9_code 122 = .ok (.aload_n 0, 1) := by decide +kernel
theorem d_Machine_runFunction_123 : decode prog_5_method_9_code 123 = .ok (.iload 7, 2) := by decide +kernel
theorem d_Machine_runFunction_125 : decode prog_5_method_9_code 125 = .ok (.aload_n 0, 1) := by decide +kernel
theorem d_Machine_runFunction_126 : decode prog_5_method_9_code 126 = .ok (.getfield 41, 3) := by decide +kernel
theorem d_Machine_runFunction_129 : decode prog_5_method_9_code 129 = .ok (.iload 6, 2) := by decide +kernel
theorem d_Machine_runFunction_131 : decode prog_5_method_9_code 131 = .ok (.laload, 1) := by decide +kernel
theorem d_Machine_runFunction_132 : decode prog_5_method_9_code 132 = .ok (.invokevirtual 111, 3) := by decide +kernel
theorem d_Machine_runFunction_135 : decode prog_5_method_9_code 135 = .ok (.goto 24, 3) := by decide +kernel
theorem d_Machine_runFunction_138 : decode prog_5_method_9_code 138 = .ok (.aload_n 0, 1) := by decide +kernel
theorem d_Machine_runFunction_139 : decode prog_5_method_9_code 139 = .ok (.iload 7, 2) := by decide +kernel
theorem d_Machine_runFunction_141 : decode prog_5_method_9_code 141 = .ok (.aload_n 0, 1) := by decide +kernel
theorem d_Machine_runFunction_142 : decode prog_5_method_9_code 142 = .ok (.getfield 41, 3) := by decide +kernel
theorem d_Machine_runFunction_145 : decode prog_5_method_9_code 145 = .ok (.iload 6, 2) := by decide +kernel
theorem d_Machine_runFunction_147 : decode prog_5_method_9_code 147 = .ok (.laload, 1) := by decide +kernel
theorem d_Machine_runFunction_148 : decode prog_5_method_9_code 148 = .ok (.iload_n 3, 1) := by decide +kernel
theorem d_Machine_runFunction_149 : decode prog_5_method_9_code 149 = .ok (.iconst 1, 1) := by decide +kernel
theorem d_Machine_runFunction_150 : decode prog_5_method_9_code 150 = .ok (.iadd, 1) := by decide +kernel
theorem d_Machine_runFunction_151 : decode prog_5_method_9_code 151 = .ok (.invokevirtual 114, 3) := by decide +kernel
theorem d_Machine_runFunction_154 : decode prog_5_method_9_code 154 = .ok (.ifCond .ne 5, 3) := by decide +kernel
theorem d_Machine_runFunction_157 : decode prog_5_method_9_code 157 = .ok (.iconst 0, 1) := by decide +kernel
theorem d_Machine_runFunction_158 : decode prog_5_method_9_code 158 = .ok (.ireturn, 1) := by decide +kernel
theorem d_Machine_runFunction_159 : decode prog_5_method_9_code 159 = .ok (.iinc 6 1, 3) := by decide +kernel
theorem d_Machine_runFunction_162 : decode prog_5_method_9_code 162 = .ok (.goto (-131), 3) := by decide +kernel
theorem d_Machine_runFunction_165 : decode prog_5_method_9_code 165 = .ok (.iconst 1, 1) := by decide +kernel
theorem d_Machine_runFunction_166 : decode prog_5_method_9_code 166 = .ok (.ireturn, 1) := by decide +kernel
theorem d_Machine_workOnStack_0 : decode prog_5_method_12_code 0 = .ok (.iload_n 1, 1) := by decide +kernel
theorem d_Machine_workOnStack_1 : decode prog_5_method_12_code 1 = .ok (.tableswitch 335 0 12 #[67, 79, 94, 335, 335, 335, 335, 112, 155, 210, 224, 260, 307], 67) := by decide +kernel
theorem d_Machine_workOnStack_68 : decode prog_5_method_12_code 68 = .ok (.aload_n 0, 1) := by decide +kernel
theorem d_Machine_workOnStack_69 : decode prog_5_method_12_code 69 = .ok (.getfield 19, 3) := by decide +kernel
theorem d_Machine_workOnStack_72 : decode prog_5_method_12_code 72 = .ok (.lload_n 2, 1) := by decide +kernel
theorem d_Machine_workOnStack_73 : decode prog_5_method_12_code 73 = .ok (.l2i, 1) := by decide +kernel
theorem d_Machine_workOnStack_74 : decode prog_5_method_12_code 74 = .ok (.invokevirtual 130, 3) := by decide +kernel
theorem d_Machine_workOnStack_77 : decode prog_5_method_12_code 77 = .ok (.goto 271, 3) := by decide +kernel
theorem d_Machine_workOnStack_80 : decode prog_5_method_12_code 80 = .ok (.aload_n 0, 1) := by decide +kernel
theorem d_Machine_workOnStack_81 : decode prog_5_method_12_code 81 = .ok (.getfield 19, 3) := by decide +kernel
theorem d_Machine_workOnStack_84 : decode prog_5_method_12_code 84 = .ok (.aload_n 0, 1) := by decide +kernel
theorem d_Machine_workOnStack_85 : decode prog_5_method_12_code 85 = .ok (.lload_n 2, 1) := by decide +kernel
theorem d_Machine_workOnStack_86 : decode prog_5_method_12_code 86 = .ok (.invokevirtual 133, 3) := by decide +kernel
theorem d_Machine_workOnStack_89 : decode prog_5_method_12_code 89 = .ok (.invokevirtual 137, 3) := by decide +kernel
theorem d_Machine_workOnStack_92 : decode prog_5_method_12_code 92 = .ok (.goto 256, 3) := by decide +kernel
theorem d_Machine_workOnStack_95 : decode prog_5_method_12_code 95 = .ok (.aload_n 0, 1) := by decide +kernel
theorem d_Machine_workOnStack_96 : decode prog_5_method_12_code 96 = .ok (.getfield 19, 3) := by decide +kernel
theorem d_Machine_workOnStack_99 : decode prog_5_method_12_code 99 = .ok (.aload_n 0, 1) := by decide +kernel
theorem d_Machine_workOnStack_100 : decode prog_5_method_12_code 100 = .ok (.lload_n 2, 1) := by decide +kernel
theorem d_Machine_workOnStack_101 : decode prog_5_method_12_code 101 = .ok (.invokestatic 141, 3) := by decide +kernel
theorem d_Machine_workOnStack_104 : decode prog_5_method_12_code 104 = .ok (.invokevirtual 145, 3) := by decide +kernel
theorem d_Machine_workOnStack_107 : decode prog_5_method_12_code 107 = .ok (.invokevirtual 137, 3) := by decide +kernel
theorem d_Machine_workOnStack_110 : decode prog_5_method_12_code 110 = .ok (.goto 238, 3) := by decide +kernel
theorem d_Machine_workOnStack_113 : decode prog_5_method_12_code 113 = .ok (.aload_n 0, 1) := by decide +kernel
theorem d_Machine_workOnStack_114 : decode prog_5_method_12_code 114 = .ok (.getfield 19, 3) := by decide +kernel
theorem d_Machine_workOnStack_117 : decode prog_5_method_12_code 117 = .ok (.aload_n 0, 1) := by decide +kernel
theorem d_Machine_workOnStack_118 : decode prog_5_method_12_code 118 = .ok (.getfield 73, 3) := by decide +kernel
theorem d_Machine_workOnStack_121 : decode prog_5_method_12_code 121 = .ok (.invokevirtual 148, 3) := by decide +kernel
theorem d_Machine_workOnStack_124 : decode prog_5_method_12_code 124 = .ok (.aload_n 0, 1) := by decide +kernel
theorem d_Machine_workOnStack_125 : decode prog_5_method_12_code 125 = .ok (.getfield 19, 3) := by decide +kernel
theorem d_Machine_workOnStack_128 : decode prog_5_method_12_code 128 = .ok (.aload_n 0, 1) := by decide +kernel
theorem d_Machine_workOnStack_129 : decode prog_5_method_12_code 129 = .ok (.getfield 69, 3) := by decide +kernel
theorem d_Machine_workOnStack_132 : decode prog_5_method_12_code 132 = .ok (.invokevirtual 148, 3) := by decide +kernel
theorem d_Machine_workOnStack_135 : decode prog_5_method_12_code 135 = .ok (.aload_n 0, 1) := by decide +kernel
theorem d_Machine_workOnStack_136 : decode prog_5_method_12_code 136 = .ok (.getfield 19, 3) := by decide +kernel
theorem d_Machine_workOnStack_139 : decode prog_5_method_12_code 139 = .ok (.aload_n 0, 1) := by decide +kernel
theorem d_Machine_workOnStack_140 : decode prog_5_method_12_code 140 = .ok (.getfield 69, 3) := by decide +kernel
theorem d_Machine_workOnStack_143 : decode prog_5_method_12_code 143 = .ok (.aload_n 0, 1) := by decide +kernel
theorem d_Machine_workOnStack_144 : decode prog_5_method_12_code 144 = .ok (.getfield 73, 3) := by decide +kernel
theorem d_Machine_workOnStack_147 : decode prog_5_method_12_code 147 = .ok (.invokevirtual 152, 3) := by decide +kernel
theorem d_Machine_workOnStack_150 : decode prog_5_method_12_code 150 = .ok (.invokevirtual 156, 3) := by decide +kernel
theorem d_Machine_workOnStack_153 : decode prog_5_method_12_code 153 = .ok (.goto 195, 3) := by decide +kernel
theorem d_Machine_workOnStack_156 : decode prog_5_method_12_code 156 = .ok (.aload_n 0, 1) := by decide +kernel
theorem d_Machine_workOnStack_157 : decode prog_5_method_12_code 157 = .ok (.getfield 19, 3) := by decide +kernel
theorem d_Machine_workOnStack_160 : decode prog_5_method_12_code 160 = .ok (.aload_n 0, 1) := by decide +kernel
theorem d_Machine_workOnStack_161 : decode prog_5_method_12_code 161 = .ok (.getfield 60, 3) := by decide +kernel
theorem d_Machine_workOnStack_164 : decode prog_5_method_12_code 164 = .ok (.invokevirtual 160, 3) := by decide +kernel
theorem d_Machine_workOnStack_167 : decode prog_5_method_12_code 167 = .ok (.aload_n 0, 1) := by decide +kernel
theorem d_Machine_workOnStack_168 : decode prog_5_method_12_code 168 = .ok (.getfield 19, 3) := by decide +kernel
theorem d_Machine_workOnStack_171 : decode prog_5_method_12_code 171 = .ok (.aload_n 0, 1) := by decide +kernel
theorem d_Machine_workOnStack_172 : decode prog_5_method_12_code 172 = .ok (.getfield 56, 3) := by decide +kernel
theorem d_Machine_workOnStack_175 : decode prog_5_method_12_code 175 = .ok (.invokevirtual 160, 3) := by decide +kernel
theorem d_Machine_workOnStack_178 : decode prog_5_method_12_code 178 = .ok (.aload_n 0, 1) := by decide +kernel
theorem d_Machine_workOnStack_179 : decode prog_5_method_12_code 179 = .ok (.getfield 56, 3) := by decide +kernel
theorem d_Machine_workOnStack_182 : decode prog_5_method_12_code 182 = .ok (.aload_n 0, 1) := by decide +kernel
theorem d_Machine_workOnStack_183 : decode prog_5_method_12_code 183 = .ok (.getfield 60, 3) := by decide +kernel
theorem d_Machine_workOnStack_186 : decode prog_5_method_12_code 186 = .ok (.iconst 0, 1) := by decide +kernel
theorem d_Machine_workOnStack_187 : decode prog_5_method_12_code 187 = .ok (.aload_n 0, 1) := by decide +kernel
theorem d_Machine_workOnStack_188 : decode prog_5_method_12_code 188 = .ok (.getfield 60, 3) := by decide +kernel
theorem d_Machine_workOnStack_191 : decode prog_5_method_12_code 191 = .ok (.invokevirtual 163, 3) := by decide +kernel
theorem d_Machine_workOnStack_194 : decode prog_5_method_12_code 194 = .ok (.invokevirtual 166, 3) := by decide +kernel
theorem d_Machine_workOnStack_197 : decode prog_5_method_12_code 197 = .ok (.aload_n 0, 1) := by decide +kernel
theorem d_Machine_workOnStack_198 : decode prog_5_method_12_code 198 = .ok (.getfield 19, 3) := by decide +kernel
theorem d_Machine_workOnStack_201 : decode prog_5_method_12_code 201 = .ok (.aload_n 0, 1) := by decide +kernel
theorem d_Machine_workOnStack_202 : decode prog_5_method_12_code 202 = .ok (.getfield 56, 3) := by decide +kernel
theorem d_Machine_workOnStack_205 : decode prog_5_method_12_code 205 = .ok (.invokevirtual 137, 3) := by decide +kernel
theorem d_Machine_workOnStack_208 : decode prog_5_method_12_code 208 = .ok (.goto 140, 3) := by decide +kernel
theorem d_Machine_workOnStack_211 : decode prog_5_method_12_code 211 = .ok (.aload_n 0, 1) := by decide +kernel
theorem d_Machine_workOnStack_212 : decode prog_5_method_12_code 212 = .ok (.getfield 19, 3) := by decide +kernel
theorem d_Machine_workOnStack_215 : decode prog_5_method_12_code 215 = .ok (.aload_n 0, 1) := by decide +kernel
theorem d_Machine_workOnStack_216 : decode prog_5_method_12_code 216 = .ok (.getfield 69, 3) := by decide +kernel
theorem d_Machine_workOnStack_219 : decode prog_5_method_12_code 219 = .ok (.invokevirtual 148, 3) := by decide +kernel
theorem d_Machine_workOnStack_222 : decode prog_5_method_12_code 222 = .ok (.goto 126, 3) := by decide +kernel
theorem d_Machine_workOnStack_225 : decode prog_5_method_12_code 225 = .ok (.aload_n 0, 1) := by decide +kernel
theorem d_Machine_workOnStack_226 : decode prog_5_method_12_code 226 = .ok (.getfield 19, 3) := by decide +kernel
theorem d_Machine_workOnStack_229 : decode prog_5_method_12_code 229 = .ok (.aload_n 0, 1) := by decide +kernel
theorem d_Machine_workOnStack_230 : decode prog_5_method_12_code 230 = .ok (.getfield 69, 3) := by decide +kernel
theorem d_Machine_workOnStack_233 : decode prog_5_method_12_code 233 = .ok (.invokevirtual 148, 3) := by decide +kernel
theorem d_Machine_workOnStack_236 : decode prog_5_method_12_code 236 = .ok (.aload_n 0, 1) := by decide +kernel
theorem d_Machine_workOnStack_237 : decode prog_5_method_12_code 237 = .ok (.getfield 19, 3) := by decide +kernel
theorem d_Machine_workOnStack_240 : decode prog_5_method_12_code 240 = .ok (.aload_n 0, 1) := by decide +kernel
theorem d_Machine_workOnStack_241 : decode prog_5_method_12_code 241 = .ok (.getfield 69, 3) := by decide +kernel
theorem d_Machine_workOnStack_244 : decode prog_5_method_12_code 244 = .ok (.invokevirtual 170, 3) := by decide +kernel
theorem d_Machine_workOnStack_247 : decode prog_5_method_12_code 247 = .ok (.aload_n 0, 1) := by decide +kernel
theorem d_Machine_workOnStack_248 : decode prog_5_method_12_code 248 = .ok (.getfield 19, 3) := by decide +kernel
theorem d_Machine_workOnStack_251 : decode prog_5_method_12_code 251 = .ok (.aload_n 0, 1) := by decide +kernel
theorem d_Machine_workOnStack_252 : decode prog_5_method_12_code 252 = .ok (.getfield 69, 3) := by decide +kernel
theorem d_Machine_workOnStack_255 : decode prog_5_method_12_code 255 = .ok (.invokevirtual 170, 3) := by decide +kernel
theorem d_Machine_workOnStack_258 : decode prog_5_method_12_code 258 = .ok (.goto 90, 3) := by decide +kernel
theorem d_Machine_workOnStack_261 : decode prog_5_method_12_code 261 = .ok (.aload_n 0, 1) := by decide +kernel
theorem d_Machine_workOnStack_262 : decode prog_5_method_12_code 262 = .ok (.getfield 19, 3) := by decide +kernel
theorem d_Machine_workOnStack_265 : decode prog_5_method_12_code 265 = .ok (.aload_n 0, 1) := by decide +kernel
theorem d_Machine_workOnStack_266 : decode prog_5_method_12_code 266 = .ok (.getfield 73, 3) := by decide +kernel
theorem d_Machine_workOnStack_269 : decode prog_5_method_12_code 269 = .ok (.invokevirtual 148, 3) := by decide +kernel
theorem d_Machine_workOnStack_272 : decode prog_5_method_12_code 272 = .ok (.aload_n 0, 1) := by decide +kernel
theorem d_Machine_workOnStack_273 : decode prog_5_method_12_code 273 = .ok (.getfield 19, 3) := by decide +kernel
theorem d_Machine_workOnStack_276 : decode prog_5_method_12_code 276 = .ok (.aload_n 0, 1) := by decide +kernel
theorem d_Machine_workOnStack_277 : decode prog_5_method_12_code 277 = .ok (.getfield 69, 3) := by decide +kernel
theorem d_Machine_workOnStack_280 : decode prog_5_method_12_code 280 = .ok (.invokevirtual 148, 3) := by decide +kernel
theorem d_Machine_workOnStack_283 : decode prog_5_method_12_code 283 = .ok (.aload_n 0, 1) := by decide +kernel
theorem d_Machine_workOnStack_284 : decode prog_5_method_12_code 284 = .ok (.getfield 19, 3) := by decide +kernel
theorem d_Machine_workOnStack_287 : decode prog_5_method_12_code 287 = .ok (.aload_n 0, 1) := by decide +kernel
theorem d_Machine_workOnStack_288 : decode prog_5_method_12_code 288 = .ok (.getfield 73, 3) := by decide +kernel
theorem d_Machine_workOnStack_291 : decode prog_5_method_12_code 291 = .ok (.invokevirtual 170, 3) := by decide +kernel
theorem d_Machine_workOnStack_294 : decode prog_5_method_12_code 294 = .ok (.aload_n 0, 1) := by decide +kernel
theorem d_Machine_workOnStack_295 : decode prog_5_method_12_code 295 = .ok (.getfield 19, 3) := by decide +kernel
theorem d_Machine_workOnStack_298 : decode prog_5_method_12_code 298 = .ok (.aload_n 0, 1) := by decide +kernel
theorem d_Machine_workOnStack_299 : decode prog_5_method_12_code 299 = .ok (.getfield 69, 3) := by decide +kernel
theorem d_Machine_workOnStack_302 : decode prog_5_method_12_code 302 = .ok (.invokevirtual 170, 3) := by decide +kernel
theorem d_Machine_workOnStack_305 : decode prog_5_method_12_code 305 = .ok (.goto 43, 3) := by decide +kernel
theorem d_Machine_workOnStack_308 : decode prog_5_method_12_code 308 = .ok (.aload_n 0, 1) := by decide +kernel
theorem d_Machine_workOnStack_309 : decode prog_5_method_12_code 309 = .ok (.getfield 19, 3) := by decide +kernel
theorem d_Machine_workOnStack_312 : decode prog_5_method_12_code 312 = .ok (.aload_n 0, 1) := by decide +kernel
theorem d_Machine_workOnStack_313 : decode prog_5_method_12_code 313 = .ok (.getfield 69, 3) := by decide +kernel
theorem d_Machine_workOnStack_316 : decode prog_5_method_12_code 316 = .ok (.invokevirtual 148, 3) := by decide +kernel
theorem d_Machine_workOnStack_319 : decode prog_5_method_12_code 319 = .ok (.aload_n 0, 1) := by decide +kernel
theorem d_Machine_workOnStack_320 : decode prog_5_method_12_code 320 = .ok (.getfield 19, 3) := by decide +kernel
theorem d_Machine_workOnStack_323 : decode prog_5_method_12_code 323 = .ok (.aload_n 0, 1) := by decide +kernel
theorem d_Machine_workOnStack_324 : decode prog_5_method_12_code 324 = .ok (.getfield 69, 3) := by decide +kernel
theorem d_Machine_workOnStack_327 : decode prog_5_method_12_code 327 = .ok (.invokevirtual 173, 3) := by decide +kernel
theorem d_Machine_workOnStack_330 : decode prog_5_method_12_code 330 = .ok (.invokevirtual 156, 3) := by decide +kernel
theorem d_Machine_workOnStack_333 : decode prog_5_method_12_code 333 = .ok (.goto 15, 3) := by decide +kernel
theorem d_Machine_workOnStack_336 : decode prog_5_method_12_code 336 = .ok (.aload_n 0, 1) := by decide +kernel
theorem d_Machine_workOnStack_337 : decode prog_5_method_12_code 337 = .ok (.getfield 19, 3) := by decide +kernel
theorem d_Machine_workOnStack_340 : decode prog_5_method_12_code 340 = .ok (.aload_n 0, 1) := by decide +kernel
theorem d_Machine_workOnStack_341 : decode prog_5_method_12_code 341 = .ok (.iload_n 1, 1) := by decide +kernel
theorem d_Machine_workOnStack_342 : decode prog_5_method_12_code 342 = .ok (.invokevirtual 177, 3) := by decide +kernel
theorem d_Machine_workOnStack_345 : decode prog_5_method_12_code 345 = .ok (.invokevirtual 130, 3) := by decide +kernel
theorem d_Machine_workOnStack_348 : decode prog_5_method_12_code 348 = .ok (.return_, 1) := by decide +kernel
theorem d_Machine_textOf_0 : decode prog_5_method_16_code 0 = .ok (.aload_n 0, 1) := by decide +kernel
theorem d_Machine_textOf_1 : decode prog_5_method_16_code 1 = .ok (.getfield 63, 3) := by decide +kernel
theorem d_Machine_textOf_4 : decode prog_5_method_16_code 4 = .ok (.lload_n 1, 1) := by decide +kernel
theorem d_Machine_textOf_5 : decode prog_5_method_16_code 5 = .ok (.invokevirtual 212, 3) := by decide +kernel
theorem d_Machine_textOf_8 : decode prog_5_method_16_code 8 = .ok (.aload_n 0, 1) := by decide +kernel
theorem d_Machine_textOf_9 : decode prog_5_method_16_code 9 = .ok (.getfield 63, 3) := by decide +kernel
theorem d_Machine_textOf_12 : decode prog_5_method_16_code 12 = .ok (.areturn, 1) := by decide +kernel
theorem d_Machine_fieldAtHand_0 : decode prog_5_method_13_code 0 = .ok (.aload_n 0, 1) := by decide +kernel
theorem d_Machine_fieldAtHand_1 : decode prog_5_method_13_code 1 = .ok (.getfield 86, 3) := by decide +kernel
theorem d_Machine_fieldAtHand_4 : decode prog_5_method_13_code 4 = .ok (.ifnonnull 7, 3) := by decide +kernel
theorem d_Machine_fieldAtHand_7 : decode prog_5_method_13_code 7 = .ok (.aconst_null, 1) := by decide +kernel
theorem d_Machine_fieldAtHand_8 : decode prog_5_method_13_code 8 = .ok (.goto 15, 3) := by decide +kernel
theorem d_Machine_fieldAtHand_11 : decode prog_5_method_13_code 11 = .ok (.aload_n 0, 1) := by decide +kernel
theorem d_Machine_fieldAtHand_12 : decode prog_5_method_13_code 12 = .ok (.getfield 9, 3) := by decide +kernel
theorem d_Machine_fieldAtHand_15 : decode prog_5_method_13_code 15 = .ok (.aload_n 0, 1) := by decide +kernel
theorem d_Machine_fieldAtHand_16 : decode prog_5_method_13_code 16 = .ok (.getfield 86, 3) := by decide +kernel
theorem d_Machine_fieldAtHand_19 : decode prog_5_method_13_code 19 = .ok (.lload_n 1, 1) := by decide +kernel
theorem d_Machine_fieldAtHand_20 : decode prog_5_method_13_code 20 = .ok (.invokevirtual 181, 3) := by decide +kernel
theorem d_Machine_fieldAtHand_23 : decode prog_5_method_13_code 23 = .ok (.areturn, 1) := by decide +kernel
theorem d_Machine_reckon_0 : decode prog_5_method_14_code 0 = .ok (.aload_n 0, 1) := by decide +kernel
theorem d_Machine_reckon_1 : decode prog_5_method_14_code 1 = .ok (.getfield 19, 3) := by decide +kernel
theorem d_Machine_reckon_4 : decode prog_5_method_14_code 4 = .ok (.invokevirtual 124, 3) := by decide +kernel
theorem d_Machine_reckon_7 : decode prog_5_method_14_code 7 = .ok (.istore_n 2, 1) := by decide +kernel
theorem d_Machine_reckon_8 : decode prog_5_method_14_code 8 = .ok (.aload_n 0, 1) := by decide +kernel
theorem d_Machine_reckon_9 : decode prog_5_method_14_code 9 = .ok (.getfield 19, 3) := by decide +kernel
theorem d_Machine_reckon_12 : decode prog_5_method_14_code 12 = .ok (.invokevirtual 124, 3) := by decide +kernel
theorem d_Machine_reckon_15 : decode prog_5_method_14_code 15 = .ok (.istore_n 3, 1) := by decide +kernel
theorem d_Machine_reckon_16 : decode prog_5_method_14_code 16 = .ok (.iload_n 1, 1) := by decide +kernel
theorem d_Machine_reckon_17 : decode prog_5_method_14_code 17 = .ok (.tableswitch 46 3 5 #[27, 31, 35], 27) := by decide +kernel
theorem d_Machine_reckon_44 : decode prog_5_method_14_code 44 = .ok (.iload_n 3, 1) := by decide +kernel
theorem d_Machine_reckon_45 : decode prog_5_method_14_code 45 = .ok (.iload_n 2, 1) := by decide +kernel
theorem d_Machine_reckon_46 : decode prog_5_method_14_code 46 = .ok (.iadd, 1) := by decide +kernel
theorem d_Machine_reckon_47 : decode prog_5_method_14_code 47 = .ok (.ireturn, 1) := by decide +kernel
theorem d_Machine_reckon_48 : decode prog_5_method_14_code 48 = .ok (.iload_n 3, 1) := by decide +kernel
theorem d_Machine_reckon_49 : decode prog_5_method_14_code 49 = .ok (.iload_n 2, 1) := by decide +kernel
theorem d_Machine_reckon_50 : decode prog_5_method_14_code 50 = .ok (.isub, 1) := by decide +kernel
theorem d_Machine_reckon_51 : decode prog_5_method_14_code 51 = .ok (.ireturn, 1) := by decide +kernel
theorem d_Machine_reckon_52 : decode prog_5_method_14_code 52 = .ok (.iload_n 3, 1) := by decide +kernel
theorem d_Machine_reckon_53 : decode prog_5_method_14_code 53 = .ok (.iload_n 2, 1) := by decide +kernel
theorem d_Machine_reckon_54 : decode prog_5_method_14_code 54 = .ok (.if_icmp .ge 7, 3) := by decide +kernel
theorem d_Machine_reckon_57 : decode prog_5_method_14_code 57 = .ok (.iconst 1, 1) := by decide +kernel
theorem d_Machine_reckon_58 : decode prog_5_method_14_code 58 = .ok (.goto 4, 3) := by decide +kernel
theorem d_Machine_reckon_61 : decode prog_5_method_14_code 61 = .ok (.iconst 0, 1) := by decide +kernel
theorem d_Machine_reckon_62 : decode prog_5_method_14_code 62 = .ok (.ireturn, 1) := by decide +kernel
theorem d_Machine_reckon_63 : decode prog_5_method_14_code 63 = .ok (.iload_n 3, 1) := by decide +kernel
theorem d_Machine_reckon_64 : decode prog_5_method_14_code 64 = .ok (.iload_n 2, 1) := by decide +kernel
theorem d_Machine_reckon_65 : decode prog_5_method_14_code 65 = .ok (.if_icmp .le 7, 3) := by decide +kernel
theorem d_Machine_reckon_68 : decode prog_5_method_14_code 68 = .ok (.iconst 1, 1) := by decide +kernel
theorem d_Machine_reckon_69 : decode prog_5_method_14_code 69 = .ok (.goto 4, 3) := by decide +kernel
theorem d_Machine_reckon_72 : decode prog_5_method_14_code 72 = .ok (.iconst 0, 1) := by decide +kernel
theorem d_Machine_reckon_73 : decode prog_5_method_14_code 73 = .ok (.ireturn, 1) := by decide +kernel
theorem d_Machine_workOnText_0 : decode prog_5_method_17_code 0 = .ok (.iload_n 1, 1) := by decide +kernel
theorem d_Machine_workOnText_1 : decode prog_5_method_17_code 1 = .ok (.bipush 29, 2) := by decide +kernel
theorem d_Machine_workOnText_3 : decode prog_5_method_17_code 3 = .ok (.if_icmp .ne 13, 3) := by decide +kernel
theorem d_Machine_workOnText_6 : decode prog_5_method_17_code 6 = .ok (.aload_n 0, 1) := by decide +kernel
theorem d_Machine_workOnText_7 : decode prog_5_method_17_code 7 = .ok (.getfield 19, 3) := by decide +kernel
theorem d_Machine_workOnText_10 : decode prog_5_method_17_code 10 = .ok (.invokevirtual 124, 3) := by decide +kernel
theorem d_Machine_workOnText_13 : decode prog_5_method_17_code 13 = .ok (.goto 4, 3) := by decide +kernel
theorem d_Machine_workOnText_16 : decode prog_5_method_17_code 16 = .ok (.iconst 0, 1) := by decide +kernel
theorem d_Machine_workOnText_17 : decode prog_5_method_17_code 17 = .ok (.istore 4, 2) := by decide +kernel
theorem d_Machine_workOnText_19 : decode prog_5_method_17_code 19 = .ok (.iload_n 1, 1) := by decide +kernel
theorem d_Machine_workOnText_20 : decode prog_5_method_17_code 20 = .ok (.bipush 24, 2) := by decide +kernel
theorem d_Machine_workOnText_22 : decode prog_5_method_17_code 22 = .ok (.if_icmp .eq 15, 3) := by decide +kernel
theorem d_Machine_workOnText_25 : decode prog_5_method_17_code 25 = .ok (.iload_n 1, 1) := by decide +kernel
theorem d_Machine_workOnText_26 : decode prog_5_method_17_code 26 = .ok (.bipush 28, 2) := by decide +kernel
theorem d_Machine_workOnText_28 : decode prog_5_method_17_code 28 = .ok (.if_icmp .eq 9, 3) := by decide +kernel
theorem d_Machine_workOnText_31 : decode prog_5_method_17_code 31 = .ok (.iload_n 1, 1) := by decide +kernel
theorem d_Machine_workOnText_32 : decode prog_5_method_17_code 32 = .ok (.bipush 29, 2) := by decide +kernel
theorem d_Machine_workOnText_34 : decode prog_5_method_17_code 34 = .ok (.if_icmp .ne 7, 3) := by decide +kernel
theorem d_Machine_workOnText_37 : decode prog_5_method_17_code 37 = .ok (.iconst 1, 1) := by decide +kernel
theorem d_Machine_workOnText_38 : decode prog_5_method_17_code 38 = .ok (.goto 4, 3) := by decide +kernel
theorem d_Machine_workOnText_41 : decode prog_5_method_17_code 41 = .ok (.iconst 0, 1) := by decide +kernel
theorem d_Machine_workOnText_42 : decode prog_5_method_17_code 42 = .ok (.istore 5, 2) := by decide +kernel
theorem d_Machine_workOnText_44 : decode prog_5_method_17_code 44 = .ok (.iload 5, 2) := by decide +kernel
theorem d_Machine_workOnText_46 : decode prog_5_method_17_code 46 = .ok (.ifCond .eq 13, 3) := by decide +kernel
theorem d_Machine_workOnText_49 : decode prog_5_method_17_code 49 = .ok (.aload_n 0, 1) := by decide +kernel
theorem d_Machine_workOnText_50 : decode prog_5_method_17_code 50 = .ok (.getfield 19, 3) := by decide +kernel
theorem d_Machine_workOnText_53 : decode prog_5_method_17_code 53 = .ok (.invokevirtual 124, 3) := by decide +kernel
theorem d_Machine_workOnText_56 : decode prog_5_method_17_code 56 = .ok (.goto 4, 3) := by decide +kernel
theorem d_Machine_workOnText_59 : decode prog_5_method_17_code 59 = .ok (.iconst 0, 1) := by decide +kernel
theorem d_Machine_workOnText_60 : decode prog_5_method_17_code 60 = .ok (.istore 6, 2) := by decide +kernel
theorem d_Machine_workOnText_62 : decode prog_5_method_17_code 62 = .ok (.aload_n 0, 1) := by decide +kernel
theorem d_Machine_workOnText_63 : decode prog_5_method_17_code 63 = .ok (.getfield 19, 3) := by decide +kernel
theorem d_Machine_workOnText_66 : decode prog_5_method_17_code 66 = .ok (.aload_n 0, 1) := by decide +kernel
theorem d_Machine_workOnText_67 : decode prog_5_method_17_code 67 = .ok (.getfield 56, 3) := by decide +kernel
theorem d_Machine_workOnText_70 : decode prog_5_method_17_code 70 = .ok (.invokevirtual 160, 3) := by decide +kernel
theorem d_Machine_workOnText_73 : decode prog_5_method_17_code 73 = .ok (.iload_n 1, 1) := by decide +kernel
theorem d_Machine_workOnText_74 : decode prog_5_method_17_code 74 = .ok (.tableswitch 190 23 28 #[38, 68, 140, 160, 53, 174], 38) := by decide +kernel
theorem d_Machine_workOnText_112 : decode prog_5_method_17_code 112 = .ok (.aload_n 0, 1) := by decide +kernel
theorem d_Machine_workOnText_113 : decode prog_5_method_17_code 113 = .ok (.getfield 19, 3) := by decide +kernel
theorem d_Machine_workOnText_116 : decode prog_5_method_17_code 116 = .ok (.aload_n 0, 1) := by decide +kernel
theorem d_Machine_workOnText_117 : decode prog_5_method_17_code 117 = .ok (.getfield 56, 3) := by decide +kernel
theorem d_Machine_workOnText_120 : decode prog_5_method_17_code 120 = .ok (.invokestatic 216, 3) := by decide +kernel
theorem d_Machine_workOnText_123 : decode prog_5_method_17_code 123 = .ok (.invokevirtual 130, 3) := by decide +kernel
theorem d_Machine_workOnText_126 : decode prog_5_method_17_code 126 = .ok (.return_, 1) := by decide +kernel
theorem d_Machine_workOnText_127 : decode prog_5_method_17_code 127 = .ok (.aload_n 0, 1) := by decide +kernel
theorem d_Machine_workOnText_128 : decode prog_5_method_17_code 128 = .ok (.getfield 19, 3) := by decide +kernel
theorem d_Machine_workOnText_131 : decode prog_5_method_17_code 131 = .ok (.aload_n 0, 1) := by decide +kernel
theorem d_Machine_workOnText_132 : decode prog_5_method_17_code 132 = .ok (.getfield 56, 3) := by decide +kernel
theorem d_Machine_workOnText_135 : decode prog_5_method_17_code 135 = .ok (.invokestatic 220, 3) := by decide +kernel
theorem d_Machine_workOnText_138 : decode prog_5_method_17_code 138 = .ok (.invokevirtual 130, 3) := by decide +kernel
theorem d_Machine_workOnText_141 : decode prog_5_method_17_code 141 = .ok (.return_, 1) := by decide +kernel
theorem d_Machine_workOnText_142 : decode prog_5_method_17_code 142 = .ok (.aload_n 0, 1) := by decide +kernel
theorem d_Machine_workOnText_143 : decode prog_5_method_17_code 143 = .ok (.getfield 34, 3) := by decide +kernel
theorem d_Machine_workOnText_146 : decode prog_5_method_17_code 146 = .ok (.aload_n 0, 1) := by decide +kernel
theorem d_Machine_workOnText_147 : decode prog_5_method_17_code 147 = .ok (.getfield 56, 3) := by decide +kernel
theorem d_Machine_workOnText_150 : decode prog_5_method_17_code 150 = .ok (.iload 6, 2) := by decide +kernel
theorem d_Machine_workOnText_152 : decode prog_5_method_17_code 152 = .ok (.invokevirtual 225, 3) := by decide +kernel
theorem d_Machine_workOnText_155 : decode prog_5_method_17_code 155 = .ok (.ifCond .eq 38, 3) := by decide +kernel
theorem d_Machine_workOnText_158 : decode prog_5_method_17_code 158 = .ok (.aload_n 0, 1) := by decide +kernel
theorem d_Machine_workOnText_159 : decode prog_5_method_17_code 159 = .ok (.getfield 34, 3) := by decide +kernel
theorem d_Machine_workOnText_162 : decode prog_5_method_17_code 162 = .ok (.aload_n 0, 1) := by decide +kernel
theorem d_Machine_workOnText_163 : decode prog_5_method_17_code 163 = .ok (.getfield 56, 3) := by decide +kernel
theorem d_Machine_workOnText_166 : decode prog_5_method_17_code 166 = .ok (.invokevirtual 229, 3) := by decide +kernel
theorem d_Machine_workOnText_169 : decode prog_5_method_17_code 169 = .ok (.aload_n 0, 1) := by decide +kernel
theorem d_Machine_workOnText_170 : decode prog_5_method_17_code 170 = .ok (.getfield 34, 3) := by decide +kernel
theorem d_Machine_workOnText_173 : decode prog_5_method_17_code 173 = .ok (.aload_n 0, 1) := by decide +kernel
theorem d_Machine_workOnText_174 : decode prog_5_method_17_code 174 = .ok (.getfield 56, 3) := by decide +kernel
theorem d_Machine_workOnText_177 : decode prog_5_method_17_code 177 = .ok (.lload_n 2, 1) := by decide +kernel
theorem d_Machine_workOnText_178 : decode prog_5_method_17_code 178 = .ok (.ldc2_w 187, 3) := by decide +kernel
theorem d_Machine_workOnText_181 : decode prog_5_method_17_code 181 = .ok (.lrem, 1) := by decide +kernel
theorem d_Machine_workOnText_182 : decode prog_5_method_17_code 182 = .ok (.l2i, 1) := by decide +kernel
theorem d_Machine_workOnText_183 : decode prog_5_method_17_code 183 = .ok (.aload_n 0, 1) := by decide +kernel
theorem d_Machine_workOnText_184 : decode prog_5_method_17_code 184 = .ok (.getfield 63, 3) := by decide +kernel
theorem d_Machine_workOnText_187 : decode prog_5_method_17_code 187 = .ok (.invokevirtual 232, 3) := by decide +kernel
theorem d_Machine_workOnText_190 : decode prog_5_method_17_code 190 = .ok (.goto 89, 3) := by decide +kernel
theorem d_Machine_workOnText_193 : decode prog_5_method_17_code 193 = .ok (.aload_n 0, 1) := by decide +kernel
theorem d_Machine_workOnText_194 : decode prog_5_method_17_code 194 = .ok (.getfield 27, 3) := by decide +kernel
theorem d_Machine_workOnText_197 : decode prog_5_method_17_code 197 = .ok (.bipush 9, 2) := by decide +kernel
theorem d_Machine_workOnText_199 : decode prog_5_method_17_code 199 = .ok (.dup2, 1) := by decide +kernel
theorem d_Machine_workOnText_200 : decode prog_5_method_17_code 200 = .ok (.iaload, 1) := by decide +kernel
theorem d_Machine_workOnText_201 : decode prog_5_method_17_code 201 = .ok (.iconst 1, 1) := by decide +kernel
theorem d_Machine_workOnText_202 : decode prog_5_method_17_code 202 = .ok (.iadd, 1) := by decide +kernel
theorem d_Machine_workOnText_203 : decode prog_5_method_17_code 203 = .ok (.iastore, 1) := by decide +kernel
theorem d_Machine_workOnText_204 : decode prog_5_method_17_code 204 = .ok (.aload_n 0, 1) := by decide +kernel
theorem d_Machine_workOnText_205 : decode prog_5_method_17_code 205 = .ok (.getfield 63, 3) := by decide +kernel
theorem d_Machine_workOnText_208 : decode prog_5_method_17_code 208 = .ok (.invokevirtual 236, 3) := by decide +kernel
theorem d_Machine_workOnText_211 : decode prog_5_method_17_code 211 = .ok (.goto 68, 3) := by decide +kernel
theorem d_Machine_workOnText_214 : decode prog_5_method_17_code 214 = .ok (.aload_n 0, 1) := by decide +kernel
theorem d_Machine_workOnText_215 : decode prog_5_method_17_code 215 = .ok (.getfield 56, 3) := by decide +kernel
theorem d_Machine_workOnText_218 : decode prog_5_method_17_code 218 = .ok (.lload_n 2, 1) := by decide +kernel
theorem d_Machine_workOnText_219 : decode prog_5_method_17_code 219 = .ok (.ldc2_w 239, 3) := by decide +kernel
theorem d_Machine_workOnText_222 : decode prog_5_method_17_code 222 = .ok (.lrem, 1) := by decide +kernel
theorem d_Machine_workOnText_223 : decode prog_5_method_17_code 223 = .ok (.l2i, 1) := by decide +kernel
theorem d_Machine_workOnText_224 : decode prog_5_method_17_code 224 = .ok (.aload_n 0, 1) := by decide +kernel
theorem d_Machine_workOnText_225 : decode prog_5_method_17_code 225 = .ok (.getfield 63, 3) := by decide +kernel
theorem d_Machine_workOnText_228 : decode prog_5_method_17_code 228 = .ok (.invokestatic 241, 3) := by decide +kernel
theorem d_Machine_workOnText_231 : decode prog_5_method_17_code 231 = .ok (.goto 48, 3) := by decide +kernel
theorem d_Machine_workOnText_234 : decode prog_5_method_17_code 234 = .ok (.aload_n 0, 1) := by decide +kernel
theorem d_Machine_workOnText_235 : decode prog_5_method_17_code 235 = .ok (.getfield 56, 3) := by decide +kernel
theorem d_Machine_workOnText_238 : decode prog_5_method_17_code 238 = .ok (.aload_n 0, 1) := by decide +kernel
theorem d_Machine_workOnText_239 : decode prog_5_method_17_code 239 = .ok (.getfield 63, 3) := by decide +kernel
theorem d_Machine_workOnText_242 : decode prog_5_method_17_code 242 = .ok (.invokestatic 244, 3) := by decide +kernel
theorem d_Machine_workOnText_245 : decode prog_5_method_17_code 245 = .ok (.goto 34, 3) := by decide +kernel
theorem d_Machine_workOnText_248 : decode prog_5_method_17_code 248 = .ok (.aload_n 0, 1) := by decide +kernel
theorem d_Machine_workOnText_249 : decode prog_5_method_17_code 249 = .ok (.getfield 56, 3) := by decide +kernel
theorem d_Machine_workOnText_252 : decode prog_5_method_17_code 252 = .ok (.iload 6, 2) := by decide +kernel
theorem d_Machine_workOnText_254 : decode prog_5_method_17_code 254 = .ok (.aload_n 0, 1) := by decide +kernel
theorem d_Machine_workOnText_255 : decode prog_5_method_17_code 255 = .ok (.getfield 63, 3) := by decide +kernel
theorem d_Machine_workOnText_258 : decode prog_5_method_17_code 258 = .ok (.invokestatic 248, 3) := by decide +kernel
theorem d_Machine_workOnText_261 : decode prog_5_method_17_code 261 = .ok (.goto 18, 3) := by decide +kernel
theorem d_Machine_workOnText_264 : decode prog_5_method_17_code 264 = .ok (.aload_n 0, 1) := by decide +kernel
theorem d_Machine_workOnText_265 : decode prog_5_method_17_code 265 = .ok (.getfield 56, 3) := by decide +kernel
theorem d_Machine_workOnText_268 : decode prog_5_method_17_code 268 = .ok (.iload 6, 2) := by decide +kernel
theorem d_Machine_workOnText_270 : decode prog_5_method_17_code 270 = .ok (.iload 4, 2) := by decide +kernel
theorem d_Machine_workOnText_272 : decode prog_5_method_17_code 272 = .ok (.aload_n 0, 1) := by decide +kernel
theorem d_Machine_workOnText_273 : decode prog_5_method_17_code 273 = .ok (.getfield 63, 3) := by decide +kernel
theorem d_Machine_workOnText_276 : decode prog_5_method_17_code 276 = .ok (.invokestatic 251, 3) := by decide +kernel
theorem d_Machine_workOnText_279 : decode prog_5_method_17_code 279 = .ok (.aload_n 0, 1) := by decide +kernel
theorem d_Machine_workOnText_280 : decode prog_5_method_17_code 280 = .ok (.getfield 19, 3) := by decide +kernel
theorem d_Machine_workOnText_283 : decode prog_5_method_17_code 283 = .ok (.aload_n 0, 1) := by decide +kernel
theorem d_Machine_workOnText_284 : decode prog_5_method_17_code 284 = .ok (.getfield 63, 3) := by decide +kernel
theorem d_Machine_workOnText_287 : decode prog_5_method_17_code 287 = .ok (.invokevirtual 137, 3) := by decide +kernel
theorem d_Machine_workOnText_290 : decode prog_5_method_17_code 290 = .ok (.return_, 1) := by decide +kernel
theorem d_Machine_workOnEntry_0 : decode prog_5_method_15_code 0 = .ok (.iload_n 1, 1) := by decide +kernel
theorem d_Machine_workOnEntry_1 : decode prog_5_method_15_code 1 = .ok (.tableswitch 219 16 22 #[43, 64, 85, 117, 149, 184, 209], 43) := by decide +kernel
theorem d_Machine_workOnEntry_44 : decode prog_5_method_15_code 44 = .ok (.aload_n 0, 1) := by decide +kernel
theorem d_Machine_workOnEntry_45 : decode prog_5_method_15_code 45 = .ok (.getfield 48, 3) := by decide +kernel
theorem d_Machine_workOnEntry_48 : decode prog_5_method_15_code 48 = .ok (.lload_n 2, 1) := by decide +kernel
theorem d_Machine_workOnEntry_49 : decode prog_5_method_15_code 49 = .ok (.ldc2_w 187, 3) := by decide +kernel
theorem d_Machine_workOnEntry_52 : decode prog_5_method_15_code 52 = .ok (.lrem, 1) := by decide +kernel
theorem d_Machine_workOnEntry_53 : decode prog_5_method_15_code 53 = .ok (.l2i, 1) := by decide +kernel
theorem d_Machine_workOnEntry_54 : decode prog_5_method_15_code 54 = .ok (.aload_n 0, 1) := by decide +kernel
theorem d_Machine_workOnEntry_55 : decode prog_5_method_15_code 55 = .ok (.getfield 19, 3) := by decide +kernel
theorem d_Machine_workOnEntry_58 : decode prog_5_method_15_code 58 = .ok (.invokevirtual 124, 3) := by decide +kernel
theorem d_Machine_workOnEntry_61 : decode prog_5_method_15_code 61 = .ok (.iastore, 1) := by decide +kernel
theorem d_Machine_workOnEntry_62 : decode prog_5_method_15_code 62 = .ok (.goto 158, 3) := by decide +kernel
theorem d_Machine_workOnEntry_65 : decode prog_5_method_15_code 65 = .ok (.aload_n 0, 1) := by decide +kernel
theorem d_Machine_workOnEntry_66 : decode prog_5_method_15_code 66 = .ok (.getfield 19, 3) := by decide +kernel
theorem d_Machine_workOnEntry_69 : decode prog_5_method_15_code 69 = .ok (.aload_n 0, 1) := by decide +kernel
theorem d_Machine_workOnEntry_70 : decode prog_5_method_15_code 70 = .ok (.getfield 48, 3) := by decide +kernel
theorem d_Machine_workOnEntry_73 : decode prog_5_method_15_code 73 = .ok (.lload_n 2, 1) := by decide +kernel
theorem d_Machine_workOnEntry_74 : decode prog_5_method_15_code 74 = .ok (.ldc2_w 187, 3) := by decide +kernel
theorem d_Machine_workOnEntry_77 : decode prog_5_method_15_code 77 = .ok (.lrem, 1) := by decide +kernel
theorem d_Machine_workOnEntry_78 : decode prog_5_method_15_code 78 = .ok (.l2i, 1) := by decide +kernel
theorem d_Machine_workOnEntry_79 : decode prog_5_method_15_code 79 = .ok (.iaload, 1) := by decide +kernel
theorem d_Machine_workOnEntry_80 : decode prog_5_method_15_code 80 = .ok (.invokevirtual 130, 3) := by decide +kernel
theorem d_Machine_workOnEntry_83 : decode prog_5_method_15_code 83 = .ok (.goto 137, 3) := by decide +kernel
theorem d_Machine_workOnEntry_86 : decode prog_5_method_15_code 86 = .ok (.aload_n 0, 1) := by decide +kernel
theorem d_Machine_workOnEntry_87 : decode prog_5_method_15_code 87 = .ok (.getfield 19, 3) := by decide +kernel
theorem d_Machine_workOnEntry_90 : decode prog_5_method_15_code 90 = .ok (.aload_n 0, 1) := by decide +kernel
theorem d_Machine_workOnEntry_91 : decode prog_5_method_15_code 91 = .ok (.getfield 86, 3) := by decide +kernel
theorem d_Machine_workOnEntry_94 : decode prog_5_method_15_code 94 = .ok (.ifnonnull 7, 3) := by decide +kernel
theorem d_Machine_workOnEntry_97 : decode prog_5_method_15_code 97 = .ok (.aconst_null, 1) := by decide +kernel
theorem d_Machine_workOnEntry_98 : decode prog_5_method_15_code 98 = .ok (.goto 14, 3) := by decide +kernel
theorem d_Machine_workOnEntry_101 : decode prog_5_method_15_code 101 = .ok (.aload_n 0, 1) := by decide +kernel
theorem d_Machine_workOnEntry_102 : decode prog_5_method_15_code 102 = .ok (.aload_n 0, 1) := by decide +kernel
theorem d_Machine_workOnEntry_103 : decode prog_5_method_15_code 103 = .ok (.getfield 86, 3) := by decide +kernel
theorem d_Machine_workOnEntry_106 : decode prog_5_method_15_code 106 = .ok (.getfield 189, 3) := by decide +kernel
theorem d_Machine_workOnEntry_109 : decode prog_5_method_15_code 109 = .ok (.invokevirtual 133, 3) := by decide +kernel
theorem d_Machine_workOnEntry_112 : decode prog_5_method_15_code 112 = .ok (.invokevirtual 137, 3) := by decide +kernel
theorem d_Machine_workOnEntry_115 : decode prog_5_method_15_code 115 = .ok (.goto 105, 3) := by decide +kernel
theorem d_Machine_workOnEntry_118 : decode prog_5_method_15_code 118 = .ok (.aload_n 0, 1) := by decide +kernel
theorem d_Machine_workOnEntry_119 : decode prog_5_method_15_code 119 = .ok (.getfield 19, 3) := by decide +kernel
theorem d_Machine_workOnEntry_122 : decode prog_5_method_15_code 122 = .ok (.aload_n 0, 1) := by decide +kernel
theorem d_Machine_workOnEntry_123 : decode prog_5_method_15_code 123 = .ok (.getfield 86, 3) := by decide +kernel
theorem d_Machine_workOnEntry_126 : decode prog_5_method_15_code 126 = .ok (.ifnonnull 7, 3) := by decide +kernel
theorem d_Machine_workOnEntry_129 : decode prog_5_method_15_code 129 = .ok (.aconst_null, 1) := by decide +kernel
theorem d_Machine_workOnEntry_130 : decode prog_5_method_15_code 130 = .ok (.goto 14, 3) := by decide +kernel
theorem d_Machine_workOnEntry_133 : decode prog_5_method_15_code 133 = .ok (.aload_n 0, 1) := by decide +kernel
theorem d_Machine_workOnEntry_134 : decode prog_5_method_15_code 134 = .ok (.aload_n 0, 1) := by decide +kernel
theorem d_Machine_workOnEntry_135 : decode prog_5_method_15_code 135 = .ok (.getfield 86, 3) := by decide +kernel
theorem d_Machine_workOnEntry_138 : decode prog_5_method_15_code 138 = .ok (.getfield 195, 3) := by decide +kernel
theorem d_Machine_workOnEntry_141 : decode prog_5_method_15_code 141 = .ok (.invokevirtual 133, 3) := by decide +kernel
theorem d_Machine_workOnEntry_144 : decode prog_5_method_15_code 144 = .ok (.invokevirtual 137, 3) := by decide +kernel
theorem d_Machine_workOnEntry_147 : decode prog_5_method_15_code 147 = .ok (.goto 73, 3) := by decide +kernel
theorem d_Machine_workOnEntry_150 : decode prog_5_method_15_code 150 = .ok (.aload_n 0, 1) := by decide +kernel
theorem d_Machine_workOnEntry_151 : decode prog_5_method_15_code 151 = .ok (.getfield 19, 3) := by decide +kernel
theorem d_Machine_workOnEntry_154 : decode prog_5_method_15_code 154 = .ok (.aload_n 0, 1) := by decide +kernel
theorem d_Machine_workOnEntry_155 : decode prog_5_method_15_code 155 = .ok (.getfield 56, 3) := by decide +kernel
theorem d_Machine_workOnEntry_158 : decode prog_5_method_15_code 158 = .ok (.invokevirtual 160, 3) := by decide +kernel
theorem d_Machine_workOnEntry_161 : decode prog_5_method_15_code 161 = .ok (.aload_n 0, 1) := by decide +kernel
theorem d_Machine_workOnEntry_162 : decode prog_5_method_15_code 162 = .ok (.getfield 86, 3) := by decide +kernel
theorem d_Machine_workOnEntry_165 : decode prog_5_method_15_code 165 = .ok (.ifnull 55, 3) := by decide +kernel
theorem d_Machine_workOnEntry_168 : decode prog_5_method_15_code 168 = .ok (.aload_n 0, 1) := by decide +kernel
theorem d_Machine_workOnEntry_169 : decode prog_5_method_15_code 169 = .ok (.getfield 86, 3) := by decide +kernel
theorem d_Machine_workOnEntry_172 : decode prog_5_method_15_code 172 = .ok (.getfield 198, 3) := by decide +kernel
theorem d_Machine_workOnEntry_175 : decode prog_5_method_15_code 175 = .ok (.aload_n 0, 1) := by decide +kernel
theorem d_Machine_workOnEntry_176 : decode prog_5_method_15_code 176 = .ok (.getfield 56, 3) := by decide +kernel
theorem d_Machine_workOnEntry_179 : decode prog_5_method_15_code 179 = .ok (.invokevirtual 201, 3) := by decide +kernel
theorem d_Machine_workOnEntry_182 : decode prog_5_method_15_code 182 = .ok (.goto 38, 3) := by decide +kernel
theorem d_Machine_workOnEntry_185 : decode prog_5_method_15_code 185 = .ok (.aload_n 0, 1) := by decide +kernel
theorem d_Machine_workOnEntry_186 : decode prog_5_method_15_code 186 = .ok (.getfield 19, 3) := by decide +kernel
theorem d_Machine_workOnEntry_189 : decode prog_5_method_15_code 189 = .ok (.aload_n 0, 1) := by decide +kernel
theorem d_Machine_workOnEntry_190 : decode prog_5_method_15_code 190 = .ok (.getfield 56, 3) := by decide +kernel
theorem d_Machine_workOnEntry_193 : decode prog_5_method_15_code 193 = .ok (.invokevirtual 160, 3) := by decide +kernel
theorem d_Machine_workOnEntry_196 : decode prog_5_method_15_code 196 = .ok (.aload_n 0, 1) := by decide +kernel
theorem d_Machine_workOnEntry_197 : decode prog_5_method_15_code 197 = .ok (.getfield 23, 3) := by decide +kernel
theorem d_Machine_workOnEntry_200 : decode prog_5_method_15_code 200 = .ok (.aload_n 0, 1) := by decide +kernel
theorem d_Machine_workOnEntry_201 : decode prog_5_method_15_code 201 = .ok (.getfield 56, 3) := by decide +kernel
theorem d_Machine_workOnEntry_204 : decode prog_5_method_15_code 204 = .ok (.invokevirtual 204, 3) := by decide +kernel
theorem d_Machine_workOnEntry_207 : decode prog_5_method_15_code 207 = .ok (.goto 13, 3) := by decide +kernel
theorem d_Machine_workOnEntry_210 : decode prog_5_method_15_code 210 = .ok (.aload_n 0, 1) := by decide +kernel
theorem d_Machine_workOnEntry_211 : decode prog_5_method_15_code 211 = .ok (.getfield 23, 3) := by decide +kernel
theorem d_Machine_workOnEntry_214 : decode prog_5_method_15_code 214 = .ok (.invokevirtual 209, 3) := by decide +kernel
theorem d_Machine_workOnEntry_217 : decode prog_5_method_15_code 217 = .ok (.goto 3, 3) := by decide +kernel
theorem d_Machine_workOnEntry_220 : decode prog_5_method_15_code 220 = .ok (.return_, 1) := by decide +kernel
theorem d_Machine_runInner_0 : decode prog_5_method_10_code 0 = .ok (.lload_n 2, 1) := by decide +kernel
theorem d_Machine_runInner_1 : decode prog_5_method_10_code 1 = .ok (.ldc2_w 118, 3) := by decide +kernel
theorem d_Machine_runInner_4 : decode prog_5_method_10_code 4 = .ok (.lrem, 1) := by decide +kernel
theorem d_Machine_runInner_5 : decode prog_5_method_10_code 5 = .ok (.lstore 5, 2) := by decide +kernel
theorem d_Machine_runInner_7 : decode prog_5_method_10_code 7 = .ok (.lload_n 2, 1) := by decide +kernel
theorem d_Machine_runInner_8 : decode prog_5_method_10_code 8 = .ok (.ldc2_w 118, 3) := by decide +kernel
theorem d_Machine_runInner_11 : decode prog_5_method_10_code 11 = .ok (.ldiv, 1) := by decide +kernel
theorem d_Machine_runInner_12 : decode prog_5_method_10_code 12 = .ok (.ldc2_w 118, 3) := by decide +kernel
theorem d_Machine_runInner_15 : decode prog_5_method_10_code 15 = .ok (.lrem, 1) := by decide +kernel
theorem d_Machine_runInner_16 : decode prog_5_method_10_code 16 = .ok (.lstore 7, 2) := by decide +kernel
theorem d_Machine_runInner_18 : decode prog_5_method_10_code 18 = .ok (.iload_n 1, 1) := by decide +kernel
theorem d_Machine_runInner_19 : decode prog_5_method_10_code 19 = .ok (.bipush 14, 2) := by decide +kernel
theorem d_Machine_runInner_21 : decode prog_5_method_10_code 21 = .ok (.if_icmp .ne 14, 3) := by decide +kernel
theorem d_Machine_runInner_24 : decode prog_5_method_10_code 24 = .ok (.aload_n 0, 1) := by decide +kernel
theorem d_Machine_runInner_25 : decode prog_5_method_10_code 25 = .ok (.lload 7, 2) := by decide +kernel
theorem d_Machine_runInner_27 : decode prog_5_method_10_code 27 = .ok (.lload 5, 2) := by decide +kernel
theorem d_Machine_runInner_29 : decode prog_5_method_10_code 29 = .ok (.iload 4, 2) := by decide +kernel
theorem d_Machine_runInner_31 : decode prog_5_method_10_code 31 = .ok (.invokevirtual 120, 3) := by decide +kernel
theorem d_Machine_runInner_34 : decode prog_5_method_10_code 34 = .ok (.ireturn, 1) := by decide +kernel
theorem d_Machine_runInner_35 : decode prog_5_method_10_code 35 = .ok (.iload_n 1, 1) := by decide +kernel
theorem d_Machine_runInner_36 : decode prog_5_method_10_code 36 = .ok (.bipush 13, 2) := by decide +kernel
theorem d_Machine_runInner_38 : decode prog_5_method_10_code 38 = .ok (.if_icmp .ne 22, 3) := by decide +kernel
theorem d_Machine_runInner_41 : decode prog_5_method_10_code 41 = .ok (.aload_n 0, 1) := by decide +kernel
theorem d_Machine_runInner_42 : decode prog_5_method_10_code 42 = .ok (.getfield 19, 3) := by decide +kernel
theorem d_Machine_runInner_45 : decode prog_5_method_10_code 45 = .ok (.invokevirtual 124, 3) := by decide +kernel
theorem d_Machine_runInner_48 : decode prog_5_method_10_code 48 = .ok (.ifCond .le 12, 3) := by decide +kernel
theorem d_Machine_runInner_51 : decode prog_5_method_10_code 51 = .ok (.aload_n 0, 1) := by decide +kernel
theorem d_Machine_runInner_52 : decode prog_5_method_10_code 52 = .ok (.lload 7, 2) := by decide +kernel
theorem d_Machine_runInner_54 : decode prog_5_method_10_code 54 = .ok (.iload 4, 2) := by decide +kernel
theorem d_Machine_runInner_56 : decode prog_5_method_10_code 56 = .ok (.invokevirtual 90, 3) := by decide +kernel
theorem d_Machine_runInner_59 : decode prog_5_method_10_code 59 = .ok (.ireturn, 1) := by decide +kernel
theorem d_Machine_runInner_60 : decode prog_5_method_10_code 60 = .ok (.aload_n 0, 1) := by decide +kernel
theorem d_Machine_runInner_61 : decode prog_5_method_10_code 61 = .ok (.lload 5, 2) := by decide +kernel
theorem d_Machine_runInner_63 : decode prog_5_method_10_code 63 = .ok (.iload 4, 2) := by decide +kernel
theorem d_Machine_runInner_65 : decode prog_5_method_10_code 65 = .ok (.invokevirtual 90, 3) := by decide +kernel
theorem d_Machine_runInner_68 : decode prog_5_method_10_code 68 = .ok (.ireturn, 1) := by decide +kernel
theorem d_Machine_runWhile_0 : decode prog_5_method_11_code 0 = .ok (.iconst 0, 1) := by decide +kernel
theorem d_Machine_runWhile_1 : decode prog_5_method_11_code 1 = .ok (.istore 6, 2) := by decide +kernel
theorem d_Machine_runWhile_3 : decode prog_5_method_11_code 3 = .ok (.iload 6, 2) := by decide +kernel
theorem d_Machine_runWhile_5 : decode prog_5_method_11_code 5 = .ok (.ldc 129, 2) := by decide +kernel
theorem d_Machine_runWhile_7 : decode prog_5_method_11_code 7 = .ok (.if_icmp .ge 45, 3) := by decide +kernel
theorem d_Machine_runWhile_10 : decode prog_5_method_11_code 10 = .ok (.aload_n 0, 1) := by decide +kernel
theorem d_Machine_runWhile_11 : decode prog_5_method_11_code 11 = .ok (.lload_n 1, 1) := by decide +kernel
theorem d_Machine_runWhile_12 : decode prog_5_method_11_code 12 = .ok (.iload 5, 2) := by decide +kernel
theorem d_Machine_runWhile_14 : decode prog_5_method_11_code 14 = .ok (.invokevirtual 90, 3) := by decide +kernel
theorem d_Machine_runWhile_17 : decode prog_5_method_11_code 17 = .ok (.ifCond .ne 5, 3) := by decide +kernel
theorem d_Machine_runWhile_20 : decode prog_5_method_11_code 20 = .ok (.iconst 0, 1) := by decide +kernel
theorem d_Machine_runWhile_21 : decode prog_5_method_11_code 21 = .ok (.ireturn, 1) := by decide +kernel
theorem d_Machine_runWhile_22 : decode prog_5_method_11_code 22 = .ok (.aload_n 0, 1) := by decide +kernel
theorem d_Machine_runWhile_23 : decode prog_5_method_11_code 23 = .ok (.getfield 19, 3) := by decide +kernel
theorem d_Machine_runWhile_26 : decode prog_5_method_11_code 26 = .ok (.invokevirtual 124, 3) := by decide +kernel
theorem d_Machine_runWhile_29 : decode prog_5_method_11_code 29 = .ok (.ifCond .gt 5, 3) := by decide +kernel
theorem d_Machine_runWhile_32 : decode prog_5_method_11_code 32 = .ok (.iconst 1, 1) := by decide +kernel
theorem d_Machine_runWhile_33 : decode prog_5_method_11_code 33 = .ok (.ireturn, 1) := by decide +kernel
theorem d_Machine_runWhile_34 : decode prog_5_method_11_code 34 = .ok (.aload_n 0, 1) := by decide +kernel
theorem d_Machine_runWhile_35 : decode prog_5_method_11_code 35 = .ok (.lload_n 3, 1) := by decide +kernel
theorem d_Machine_runWhile_36 : decode prog_5_method_11_code 36 = .ok (.iload 5, 2) := by decide +kernel
theorem d_Machine_runWhile_38 : decode prog_5_method_11_code 38 = .ok (.invokevirtual 90, 3) := by decide +kernel
theorem d_Machine_runWhile_41 : decode prog_5_method_11_code 41 = .ok (.ifCond .ne 5, 3) := by decide +kernel
theorem d_Machine_runWhile_44 : decode prog_5_method_11_code 44 = .ok (.iconst 0, 1) := by decide +kernel
theorem d_Machine_runWhile_45 : decode prog_5_method_11_code 45 = .ok (.ireturn, 1) := by decide +kernel
theorem d_Machine_runWhile_46 : decode prog_5_method_11_code 46 = .ok (.iinc 6 1, 3) := by decide +kernel
theorem d_Machine_runWhile_49 : decode prog_5_method_11_code 49 = .ok (.goto (-46), 3) := by decide +kernel
theorem d_Machine_runWhile_52 : decode prog_5_method_11_code 52 = .ok (.iconst 0, 1) := by decide +kernel
theorem d_Machine_runWhile_53 : decode prog_5_method_11_code 53 = .ok (.ireturn, 1) := by decide +kernel
theorem d_Machine_operationsDone_0 : decode prog_5_method_7_code 0 = .ok (.aload_n 0, 1) := by decide +kernel
theorem d_Machine_operationsDone_1 : decode prog_5_method_7_code 1 = .ok (.getfield 82, 3) := by decide +kernel
theorem d_Machine_operationsDone_4 : decode prog_5_method_7_code 4 = .ok (.ireturn, 1) := by decide +kernel
theorem d_Model_init_0 : decode prog_14_method_1_code 0 = .ok (.aload_n 0, 1) := by decide +kernel
theorem d_Model_init_1 : decode prog_14_method_1_code 1 = .ok (.invokespecial 1, 3) := by decide +kernel
theorem d_Model_init_4 : decode prog_14_method_1_code 4 = .ok (.aload_n 0, 1) := by decide +kernel
theorem d_Model_init_5 : decode prog_14_method_1_code 5 = .ok (.bipush 10, 2) := by decide +kernel
theorem d_Model_init_7 : decode prog_14_method_1_code 7 = .ok (.newarray .int, 2) := by decide +kernel
theorem d_Model_init_9 : decode prog_14_method_1_code 9 = .ok (.putfield 7, 3) := by decide +kernel
theorem d_Model_init_12 : decode prog_14_method_1_code 12 = .ok (.aload_n 0, 1) := by decide +kernel
theorem d_Model_init_13 : decode prog_14_method_1_code 13 = .ok (.sipush 320, 3) := by decide +kernel
theorem d_Model_init_16 : decode prog_14_method_1_code 16 = .ok (.newarray .int, 2) := by decide +kernel
theorem d_Model_init_18 : decode prog_14_method_1_code 18 = .ok (.putfield 13, 3) := by decide +kernel
theorem d_Model_init_21 : decode prog_14_method_1_code 21 = .ok (.aload_n 0, 1) := by decide +kernel
theorem d_Model_init_22 : decode prog_14_method_1_code 22 = .ok (.bipush 85, 2) := by decide +kernel
theorem d_Model_init_24 : decode prog_14_method_1_code 24 = .ok (.newarray .int, 2) := by decide +kernel
theorem d_Model_init_26 : decode prog_14_method_1_code 26 = .ok (.putfield 16, 3) := by decide +kernel
theorem d_Model_init_29 : decode prog_14_method_1_code 29 = .ok (.aload_n 0, 1) := by decide +kernel
theorem d_Model_init_30 : decode prog_14_method_1_code 30 = .ok (.sipush 5100, 3) := by decide +kernel
theorem d_Model_init_33 : decode prog_14_method_1_code 33 = .ok (.newarray .int, 2) := by decide +kernel
theorem d_Model_init_35 : decode prog_14_method_1_code 35 = .ok (.putfield 19, 3) := by decide +kernel
theorem d_Model_init_38 : decode prog_14_method_1_code 38 = .ok (.aload_n 0, 1) := by decide +kernel
theorem d_Model_init_39 : decode prog_14_method_1_code 39 = .ok (.bipush 9, 2) := by decide +kernel
theorem d_Model_init_41 : decode prog_14_method_1_code 41 = .ok (.newarray .long, 2) := by decide +kernel
theorem d_Model_init_43 : decode prog_14_method_1_code 43 = .ok (.putfield 22, 3) := by decide +kernel
theorem d_Model_init_46 : decode prog_14_method_1_code 46 = .ok (.aload_n 0, 1) := by decide +kernel
theorem d_Model_init_47 : decode prog_14_method_1_code 47 = .ok (.bipush 9, 2) := by decide +kernel
theorem d_Model_init_49 : decode prog_14_method_1_code 49 = .ok (.newarray .long, 2) := by decide +kernel
theorem d_Model_init_51 : decode prog_14_method_1_code 51 = .ok (.putfield 26, 3) := by decide +kernel
theorem d_Model_init_54 : decode prog_14_method_1_code 54 = .ok (.aload_n 0, 1) := by decide +kernel
theorem d_Model_init_55 : decode prog_14_method_1_code 55 = .ok (.bipush 9, 2) := by decide +kernel
theorem d_Model_init_57 : decode prog_14_method_1_code 57 = .ok (.newarray .int, 2) := by decide +kernel
theorem d_Model_init_59 : decode prog_14_method_1_code 59 = .ok (.putfield 29, 3) := by decide +kernel
theorem d_Model_init_62 : decode prog_14_method_1_code 62 = .ok (.aload_n 0, 1) := by decide +kernel
theorem d_Model_init_63 : decode prog_14_method_1_code 63 = .ok (.bipush 54, 2) := by decide +kernel
theorem d_Model_init_65 : decode prog_14_method_1_code 65 = .ok (.newarray .long, 2) := by decide +kernel
theorem d_Model_init_67 : decode prog_14_method_1_code 67 = .ok (.putfield 32, 3) := by decide +kernel
theorem d_Model_init_70 : decode prog_14_method_1_code 70 = .ok (.aload_n 0, 1) := by decide +kernel
theorem d_Model_init_71 : decode prog_14_method_1_code 71 = .ok (.bipush 8, 2) := by decide +kernel
theorem d_Model_init_73 : decode prog_14_method_1_code 73 = .ok (.newarray .long, 2) := by decide +kernel
theorem d_Model_init_75 : decode prog_14_method_1_code 75 = .ok (.putfield 35, 3) := by decide +kernel
theorem d_Model_init_78 : decode prog_14_method_1_code 78 = .ok (.aload_n 0, 1) := by decide +kernel
theorem d_Model_init_79 : decode prog_14_method_1_code 79 = .ok (.bipush 10, 2) := by decide +kernel
theorem d_Model_init_81 : decode prog_14_method_1_code 81 = .ok (.newarray .long, 2) := by decide +kernel
theorem d_Model_init_83 : decode prog_14_method_1_code 83 = .ok (.putfield 38, 3) := by decide +kernel
theorem d_Model_init_86 : decode prog_14_method_1_code 86 = .ok (.aload_n 0, 1) := by decide +kernel
theorem d_Model_init_87 : decode prog_14_method_1_code 87 = .ok (.bipush 8, 2) := by decide +kernel
theorem d_Model_init_89 : decode prog_14_method_1_code 89 = .ok (.newarray .int, 2) := by decide +kernel
theorem d_Model_init_91 : decode prog_14_method_1_code 91 = .ok (.putfield 41, 3) := by decide +kernel
theorem d_Model_init_94 : decode prog_14_method_1_code 94 = .ok (.aload_n 0, 1) := by decide +kernel
theorem d_Model_init_95 : decode prog_14_method_1_code 95 = .ok (.bipush 6, 2) := by decide +kernel
theorem d_Model_init_97 : decode prog_14_method_1_code 97 = .ok (.newarray .int, 2) := by decide +kernel
theorem d_Model_init_99 : decode prog_14_method_1_code 99 = .ok (.putfield 44, 3) := by decide +kernel
theorem d_Model_init_102 : decode prog_14_method_1_code 102 = .ok (.aload_n 0, 1) := by decide +kernel
theorem d_Model_init_103 : decode prog_14_method_1_code 103 = .ok (.sipush 144, 3) := by decide +kernel
theorem d_Model_init_106 : decode prog_14_method_1_code 106 = .ok (.newarray .int, 2) := by decide +kernel
theorem d_Model_init_108 : decode prog_14_method_1_code 108 = .ok (.putfield 47, 3) := by decide +kernel
theorem d_Model_init_111 : decode prog_14_method_1_code 111 = .ok (.aload_n 0, 1) := by decide +kernel
theorem d_Model_init_112 : decode prog_14_method_1_code 112 = .ok (.sipush 144, 3) := by decide +kernel
theorem d_Model_init_115 : decode prog_14_method_1_code 115 = .ok (.newarray .long, 2) := by decide +kernel
theorem d_Model_init_117 : decode prog_14_method_1_code 117 = .ok (.putfield 50, 3) := by decide +kernel
theorem d_Model_init_120 : decode prog_14_method_1_code 120 = .ok (.aload_n 0, 1) := by decide +kernel
theorem d_Model_init_121 : decode prog_14_method_1_code 121 = .ok (.iconst 4, 1) := by decide +kernel
theorem d_Model_init_122 : decode prog_14_method_1_code 122 = .ok (.newarray .int, 2) := by decide +kernel
theorem d_Model_init_124 : decode prog_14_method_1_code 124 = .ok (.putfield 53, 3) := by decide +kernel
theorem d_Model_init_127 : decode prog_14_method_1_code 127 = .ok (.aload_n 0, 1) := by decide +kernel
theorem d_Model_init_128 : decode prog_14_method_1_code 128 = .ok (.bipush 12, 2) := by decide +kernel
theorem d_Model_init_130 : decode prog_14_method_1_code 130 = .ok (.newarray .int, 2) := by decide +kernel
theorem d_Model_init_132 : decode prog_14_method_1_code 132 = .ok (.putfield 56, 3) := by decide +kernel
theorem d_Model_init_135 : decode prog_14_method_1_code 135 = .ok (.aload_n 0, 1) := by decide +kernel
theorem d_Model_init_136 : decode prog_14_method_1_code 136 = .ok (.bipush 12, 2) := by decide +kernel
theorem d_Model_init_138 : decode prog_14_method_1_code 138 = .ok (.newarray .int, 2) := by decide +kernel
theorem d_Model_init_140 : decode prog_14_method_1_code 140 = .ok (.putfield 59, 3) := by decide +kernel
theorem d_Model_init_143 : decode prog_14_method_1_code 143 = .ok (.aload_n 0, 1) := by decide +kernel
theorem d_Model_init_144 : decode prog_14_method_1_code 144 = .ok (.bipush 8, 2) := by decide +kernel
theorem d_Model_init_146 : decode prog_14_method_1_code 146 = .ok (.newarray .int, 2) := by decide +kernel
theorem d_Model_init_148 : decode prog_14_method_1_code 148 = .ok (.putfield 62, 3) := by decide +kernel
theorem d_Model_init_151 : decode prog_14_method_1_code 151 = .ok (.aload_n 0, 1) := by decide +kernel
theorem d_Model_init_152 : decode prog_14_method_1_code 152 = .ok (.bipush 8, 2) := by decide +kernel
theorem d_Model_init_154 : decode prog_14_method_1_code 154 = .ok (.newarray .int, 2) := by decide +kernel
theorem d_Model_init_156 : decode prog_14_method_1_code 156 = .ok (.putfield 65, 3) := by decide +kernel
theorem d_Model_init_159 : decode prog_14_method_1_code 159 = .ok (.aload_n 0, 1) := by decide +kernel
theorem d_Model_init_160 : decode prog_14_method_1_code 160 = .ok (.bipush 8, 2) := by decide +kernel
theorem d_Model_init_162 : decode prog_14_method_1_code 162 = .ok (.newarray .int, 2) := by decide +kernel
theorem d_Model_init_164 : decode prog_14_method_1_code 164 = .ok (.putfield 68, 3) := by decide +kernel
theorem d_Model_init_167 : decode prog_14_method_1_code 167 = .ok (.aload_n 0, 1) := by decide +kernel
theorem d_Model_init_168 : decode prog_14_method_1_code 168 = .ok (.bipush 8, 2) := by decide +kernel
theorem d_Model_init_170 : decode prog_14_method_1_code 170 = .ok (.newarray .long, 2) := by decide +kernel
theorem d_Model_init_172 : decode prog_14_method_1_code 172 = .ok (.putfield 71, 3) := by decide +kernel
theorem d_Model_init_175 : decode prog_14_method_1_code 175 = .ok (.aload_n 0, 1) := by decide +kernel
theorem d_Model_init_176 : decode prog_14_method_1_code 176 = .ok (.bipush 40, 2) := by decide +kernel
theorem d_Model_init_178 : decode prog_14_method_1_code 178 = .ok (.newarray .int, 2) := by decide +kernel
theorem d_Model_init_180 : decode prog_14_method_1_code 180 = .ok (.putfield 74, 3) := by decide +kernel
theorem d_Model_init_183 : decode prog_14_method_1_code 183 = .ok (.aload_n 0, 1) := by decide +kernel
theorem d_Model_init_184 : decode prog_14_method_1_code 184 = .ok (.bipush 40, 2) := by decide +kernel
theorem d_Model_init_186 : decode prog_14_method_1_code 186 = .ok (.newarray .int, 2) := by decide +kernel
theorem d_Model_init_188 : decode prog_14_method_1_code 188 = .ok (.putfield 77, 3) := by decide +kernel
theorem d_Model_init_191 : decode prog_14_method_1_code 191 = .ok (.aload_n 0, 1) := by decide +kernel
theorem d_Model_init_192 : decode prog_14_method_1_code 192 = .ok (.bipush 40, 2) := by decide +kernel
theorem d_Model_init_194 : decode prog_14_method_1_code 194 = .ok (.newarray .int, 2) := by decide +kernel
theorem d_Model_init_196 : decode prog_14_method_1_code 196 = .ok (.putfield 80, 3) := by decide +kernel
theorem d_Model_init_199 : decode prog_14_method_1_code 199 = .ok (.aload_n 0, 1) := by decide +kernel
theorem d_Model_init_200 : decode prog_14_method_1_code 200 = .ok (.bipush 40, 2) := by decide +kernel
theorem d_Model_init_202 : decode prog_14_method_1_code 202 = .ok (.newarray .int, 2) := by decide +kernel
theorem d_Model_init_204 : decode prog_14_method_1_code 204 = .ok (.putfield 83, 3) := by decide +kernel
theorem d_Model_init_207 : decode prog_14_method_1_code 207 = .ok (.aload_n 0, 1) := by decide +kernel
theorem d_Model_init_208 : decode prog_14_method_1_code 208 = .ok (.sipush 184, 3) := by decide +kernel
theorem d_Model_init_211 : decode prog_14_method_1_code 211 = .ok (.newarray .int, 2) := by decide +kernel
theorem d_Model_init_213 : decode prog_14_method_1_code 213 = .ok (.putfield 86, 3) := by decide +kernel
theorem d_Model_init_216 : decode prog_14_method_1_code 216 = .ok (.aload_n 0, 1) := by decide +kernel
theorem d_Model_init_217 : decode prog_14_method_1_code 217 = .ok (.bipush 24, 2) := by decide +kernel
theorem d_Model_init_219 : decode prog_14_method_1_code 219 = .ok (.newarray .int, 2) := by decide +kernel
theorem d_Model_init_221 : decode prog_14_method_1_code 221 = .ok (.putfield 89, 3) := by decide +kernel
theorem d_Model_init_224 : decode prog_14_method_1_code 224 = .ok (.aload_n 0, 1) := by decide +kernel
theorem d_Model_init_225 : decode prog_14_method_1_code 225 = .ok (.sipush 4320, 3) := by decide +kernel
theorem d_Model_init_228 : decode prog_14_method_1_code 228 = .ok (.newarray .int, 2) := by decide +kernel
theorem d_Model_init_230 : decode prog_14_method_1_code 230 = .ok (.putfield 92, 3) := by decide +kernel
theorem d_Model_init_233 : decode prog_14_method_1_code 233 = .ok (.return_, 1) := by decide +kernel
theorem d_Model_thrown_0 : decode prog_14_method_2_code 0 = .ok (.aload_n 0, 1) := by decide +kernel
theorem d_Model_thrown_1 : decode prog_14_method_2_code 1 = .ok (.getfield 95, 3) := by decide +kernel
theorem d_Model_thrown_4 : decode prog_14_method_2_code 4 = .ok (.ireturn, 1) := by decide +kernel
theorem d_Model_write_0 : decode prog_14_method_18_code 0 = .ok (.aload_n 0, 1) := by decide +kernel
theorem d_Model_write_1 : decode prog_14_method_18_code 1 = .ok (.iconst 0, 1) := by decide +kernel
theorem d_Model_write_2 : decode prog_14_method_18_code 2 = .ok (.putfield 95, 3) := by decide +kernel
theorem d_Model_write_5 : decode prog_14_method_18_code 5 = .ok (.iload_n 3, 1) := by decide +kernel
theorem d_Model_write_6 : decode prog_14_method_18_code 6 = .ok (.iconst 1, 1) := by decide +kernel
theorem d_Model_write_7 : decode prog_14_method_18_code 7 = .ok (.bipush 8, 2) := by decide +kernel
theorem d_Model_write_9 : decode prog_14_method_18_code 9 = .ok (.invokestatic 103, 3) := by decide +kernel
theorem d_Model_write_12 : decode prog_14_method_18_code 12 = .ok (.ifCond .ne 9, 3) := by decide +kernel
theorem d_Model_write_15 : decode prog_14_method_18_code 15 = .ok (.aload_n 0, 1) := by decide +kernel
theorem d_Model_write_16 : decode prog_14_method_18_code 16 = .ok (.iconst 1, 1) := by decide +kernel
theorem d_Model_write_17 : decode prog_14_method_18_code 17 = .ok (.invokevirtual 128, 3) := by decide +kernel
theorem d_Model_write_20 : decode prog_14_method_18_code 20 = .ok (.ireturn, 1) := by decide +kernel
theorem d_Model_write_21 : decode prog_14_method_18_code 21 = .ok (.iconst 1, 1) := by decide +kernel
theorem d_Model_write_22 : decode prog_14_method_18_code 22 = .ok (.istore 4, 2) := by decide +kernel
theorem d_Model_write_24 : decode prog_14_method_18_code 24 = .ok (.iconst 0, 1) := by decide +kernel
theorem d_Model_write_25 : decode prog_14_method_18_code 25 = .ok (.istore 5, 2) := by decide +kernel
theorem d_Model_write_27 : decode prog_14_method_18_code 27 = .ok (.iload 5, 2) := by decide +kernel
theorem d_Model_write_29 : decode prog_14_method_18_code 29 = .ok (.iload_n 3, 1) := by decide +kernel
theorem d_Model_write_30 : decode prog_14_method_18_code 30 = .ok (.if_icmp .ge 54, 3) := by decide +kernel
theorem d_Model_write_33 : decode prog_14_method_18_code 33 = .ok (.lload_n 1, 1) := by decide +kernel
theorem d_Model_write_34 : decode prog_14_method_18_code 34 = .ok (.bipush 8, 2) := by decide +kernel
theorem d_Model_write_36 : decode prog_14_method_18_code 36 = .ok (.iload 5, 2) := by decide +kernel
theorem d_Model_write_38 : decode prog_14_method_18_code 38 = .ok (.imul, 1) := by decide +kernel
theorem d_Model_write_39 : decode prog_14_method_18_code 39 = .ok (.lshr, 1) := by decide +kernel
theorem d_Model_write_40 : decode prog_14_method_18_code 40 = .ok (.ldc2_w 114, 3) := by decide +kernel
theorem d_Model_write_43 : decode prog_14_method_18_code 43 = .ok (.land, 1) := by decide +kernel
theorem d_Model_write_44 : decode prog_14_method_18_code 44 = .ok (.l2i, 1) := by decide +kernel
theorem d_Model_write_45 : decode prog_14_method_18_code 45 = .ok (.istore 6, 2) := by decide +kernel
theorem d_Model_write_47 : decode prog_14_method_18_code 47 = .ok (.iload 4, 2) := by decide +kernel
theorem d_Model_write_49 : decode prog_14_method_18_code 49 = .ok (.ifCond .eq 26, 3) := by decide +kernel
theorem d_Model_write_52 : decode prog_14_method_18_code 52 = .ok (.iload 6, 2) := by decide +kernel
theorem d_Model_write_54 : decode prog_14_method_18_code 54 = .ok (.bipush 10, 2) := by decide +kernel
theorem d_Model_write_56 : decode prog_14_method_18_code 56 = .ok (.if_icmp .eq 15, 3) := by decide +kernel
theorem d_Model_write_59 : decode prog_14_method_18_code 59 = .ok (.iload 6, 2) := by decide +kernel
theorem d_Model_write_61 : decode prog_14_method_18_code 61 = .ok (.bipush 32, 2) := by decide +kernel
theorem d_Model_write_63 : decode prog_14_method_18_code 63 = .ok (.bipush 126, 2) := by decide +kernel
theorem d_Model_write_65 : decode prog_14_method_18_code 65 = .ok (.invokestatic 103, 3) := by decide +kernel
theorem d_Model_write_68 : decode prog_14_method_18_code 68 = .ok (.ifCond .eq 7, 3) := by decide +kernel
theorem d_Model_write_71 : decode prog_14_method_18_code 71 = .ok (.iconst 1, 1) := by decide +kernel
theorem d_Model_write_72 : decode prog_14_method_18_code 72 = .ok (.goto 4, 3) := by decide +kernel
theorem d_Model_write_75 : decode prog_14_method_18_code 75 = .ok (.iconst 0, 1) := by decide +kernel
theorem d_Model_write_76 : decode prog_14_method_18_code 76 = .ok (.istore 4, 2) := by decide +kernel
theorem d_Model_write_78 : decode prog_14_method_18_code 78 = .ok (.iinc 5 1, 3) := by decide +kernel
theorem d_Model_write_81 : decode prog_14_method_18_code 81 = .ok (.goto (-54), 3) := by decide +kernel
theorem d_Model_write_84 : decode prog_14_method_18_code 84 = .ok (.iload 4, 2) := by decide +kernel
theorem d_Model_write_86 : decode prog_14_method_18_code 86 = .ok (.ifCond .ne 9, 3) := by decide +kernel
theorem d_Model_write_89 : decode prog_14_method_18_code 89 = .ok (.aload_n 0, 1) := by decide +kernel
theorem d_Model_write_90 : decode prog_14_method_18_code 90 = .ok (.iconst 1, 1) := by decide +kernel
theorem d_Model_write_91 : decode prog_14_method_18_code 91 = .ok (.invokevirtual 128, 3) := by decide +kernel
theorem d_Model_write_94 : decode prog_14_method_18_code 94 = .ok (.ireturn, 1) := by decide +kernel
theorem d_Model_write_95 : decode prog_14_method_18_code 95 = .ok (.aload_n 0, 1) := by decide +kernel
theorem d_Model_write_96 : decode prog_14_method_18_code 96 = .ok (.getfield 131, 3) := by decide +kernel
theorem d_Model_write_99 : decode prog_14_method_18_code 99 = .ok (.iload_n 3, 1) := by decide +kernel
theorem d_Model_write_100 : decode prog_14_method_18_code 100 = .ok (.iadd, 1) := by decide +kernel
theorem d_Model_write_101 : decode prog_14_method_18_code 101 = .ok (.sipush 320, 3) := by decide +kernel
theorem d_Model_write_104 : decode prog_14_method_18_code 104 = .ok (.if_icmp .le 9, 3) := by decide +kernel
theorem d_Model_write_107 : decode prog_14_method_18_code 107 = .ok (.aload_n 0, 1) := by decide +kernel
theorem d_Model_write_108 : decode prog_14_method_18_code 108 = .ok (.iconst 2, 1) := by decide +kernel
theorem d_Model_write_109 : decode prog_14_method_18_code 109 = .ok (.invokevirtual 128, 3) := by decide +kernel
theorem d_Model_write_112 : decode prog_14_method_18_code 112 = .ok (.ireturn, 1) := by decide +kernel
theorem d_Model_write_113 : decode prog_14_method_18_code 113 = .ok (.iconst 0, 1) := by decide +kernel
theorem d_Model_write_114 : decode prog_14_method_18_code 114 = .ok (.istore 5, 2) := by decide +kernel
theorem d_Model_write_116 : decode prog_14_method_18_code 116 = .ok (.iload 5, 2) := by decide +kernel
theorem d_Model_write_118 : decode prog_14_method_18_code 118 = .ok (.iload_n 3, 1) := by decide +kernel
theorem d_Model_write_119 : decode prog_14_method_18_code 119 = .ok (.if_icmp .ge 33, 3) := by decide +kernel
theorem d_Model_write_122 : decode prog_14_method_18_code 122 = .ok (.aload_n 0, 1) := by decide +kernel
theorem d_Model_write_123 : decode prog_14_method_18_code 123 = .ok (.getfield 13, 3) := by decide +kernel
theorem d_Model_write_126 : decode prog_14_method_18_code 126 = .ok (.aload_n 0, 1) := by decide +kernel
theorem d_Model_write_127 : decode prog_14_method_18_code 127 = .ok (.getfield 131, 3) := by decide +kernel
theorem d_Model_write_130 : decode prog_14_method_18_code 130 = .ok (.iload 5, 2) := by decide +kernel
theorem d_Model_write_132 : decode prog_14_method_18_code 132 = .ok (.iadd, 1) := by decide +kernel
theorem d_Model_write_133 : decode prog_14_method_18_code 133 = .ok (.lload_n 1, 1) := by decide +kernel
theorem d_Model_write_134 : decode prog_14_method_18_code 134 = .ok (.bipush 8, 2) := by decide +kernel
theorem d_Model_write_136 : decode prog_14_method_18_code 136 = .ok (.iload 5, 2) := by decide +kernel
theorem d_Model_write_138 : decode prog_14_method_18_code 138 = .ok (.imul, 1) := by decide +kernel
theorem d_Model_write_139 : decode prog_14_method_18_code 139 = .ok (.lshr, 1) := by decide +kernel
theorem d_Model_write_140 : decode prog_14_method_18_code 140 = .ok (.ldc2_w 114, 3) := by decide +kernel
theorem d_Model_write_143 : decode prog_14_method_18_code 143 = .ok (.land, 1) := by decide +kernel
theorem d_Model_write_144 : decode prog_14_method_18_code 144 = .ok (.l2i, 1) := by decide +kernel
theorem d_Model_write_145 : decode prog_14_method_18_code 145 = .ok (.iastore, 1) := by decide +kernel
theorem d_Model_write_146 : decode prog_14_method_18_code 146 = .ok (.iinc 5 1, 3) := by decide +kernel
theorem d_Model_write_149 : decode prog_14_method_18_code 149 = .ok (.goto (-33), 3) := by decide +kernel
theorem d_Model_write_152 : decode prog_14_method_18_code 152 = .ok (.aload_n 0, 1) := by decide +kernel
theorem d_Model_write_153 : decode prog_14_method_18_code 153 = .ok (.dup, 1) := by decide +kernel
theorem d_Model_write_154 : decode prog_14_method_18_code 154 = .ok (.getfield 131, 3) := by decide +kernel
theorem d_Model_write_157 : decode prog_14_method_18_code 157 = .ok (.iload_n 3, 1) := by decide +kernel
theorem d_Model_write_158 : decode prog_14_method_18_code 158 = .ok (.iadd, 1) := by decide +kernel
theorem d_Model_write_159 : decode prog_14_method_18_code 159 = .ok (.putfield 131, 3) := by decide +kernel
theorem d_Model_write_162 : decode prog_14_method_18_code 162 = .ok (.aload_n 0, 1) := by decide +kernel
theorem d_Model_write_163 : decode prog_14_method_18_code 163 = .ok (.getfield 131, 3) := by decide +kernel
theorem d_Model_write_166 : decode prog_14_method_18_code 166 = .ok (.ireturn, 1) := by decide +kernel
theorem d_Model_within_0 : decode prog_14_method_4_code 0 = .ok (.iload_n 0, 1) := by decide +kernel
theorem d_Model_within_1 : decode prog_14_method_4_code 1 = .ok (.iload_n 1, 1) := by decide +kernel
theorem d_Model_within_2 : decode prog_14_method_4_code 2 = .ok (.if_icmp .lt 12, 3) := by decide +kernel
theorem d_Model_within_5 : decode prog_14_method_4_code 5 = .ok (.iload_n 0, 1) := by decide +kernel
theorem d_Model_within_6 : decode prog_14_method_4_code 6 = .ok (.iload_n 2, 1) := by decide +kernel
theorem d_Model_within_7 : decode prog_14_method_4_code 7 = .ok (.if_icmp .gt 7, 3) := by decide +kernel
theorem d_Model_within_10 : decode prog_14_method_4_code 10 = .ok (.iconst 1, 1) := by decide +kernel
theorem d_Model_within_11 : decode prog_14_method_4_code 11 = .ok (.goto 4, 3) := by decide +kernel
theorem d_Model_within_14 : decode prog_14_method_4_code 14 = .ok (.iconst 0, 1) := by decide +kernel
theorem d_Model_within_15 : decode prog_14_method_4_code 15 = .ok (.ireturn, 1) := by decide +kernel
theorem d_Model_fail_0 : decode prog_14_method_3_code 0 = .ok (.aload_n 0, 1) := by decide +kernel
theorem d_Model_fail_1 : decode prog_14_method_3_code 1 = .ok (.iload_n 1, 1) := by decide +kernel
theorem d_Model_fail_2 : decode prog_14_method_3_code 2 = .ok (.putfield 95, 3) := by decide +kernel
theorem d_Model_fail_5 : decode prog_14_method_3_code 5 = .ok (.iconst 0, 1) := by decide +kernel
theorem d_Model_fail_6 : decode prog_14_method_3_code 6 = .ok (.ireturn, 1) := by decide +kernel
theorem d_Model_erase_0 : decode prog_14_method_19_code 0 = .ok (.aload_n 0, 1) := by decide +kernel
theorem d_Model_erase_1 : decode prog_14_method_19_code 1 = .ok (.iconst 0, 1) := by decide +kernel
theorem d_Model_erase_2 : decode prog_14_method_19_code 2 = .ok (.putfield 95, 3) := by decide +kernel
theorem d_Model_erase_5 : decode prog_14_method_19_code 5 = .ok (.aload_n 0, 1) := by decide +kernel
theorem d_Model_erase_6 : decode prog_14_method_19_code 6 = .ok (.getfield 131, 3) := by decide +kernel
theorem d_Model_erase_9 : decode prog_14_method_19_code 9 = .ok (.istore_n 1, 1) := by decide +kernel
theorem d_Model_erase_10 : decode prog_14_method_19_code 10 = .ok (.aload_n 0, 1) := by decide +kernel
theorem d_Model_erase_11 : decode prog_14_method_19_code 11 = .ok (.iconst 0, 1) := by decide +kernel
theorem d_Model_erase_12 : decode prog_14_method_19_code 12 = .ok (.putfield 131, 3) := by decide +kernel
theorem d_Model_erase_15 : decode prog_14_method_19_code 15 = .ok (.iload_n 1, 1) := by decide +kernel
theorem d_Model_erase_16 : decode prog_14_method_19_code 16 = .ok (.ireturn, 1) := by decide +kernel
theorem d_Model_read_0 : decode prog_14_method_36_code 0 = .ok (.aload_n 0, 1) := by decide +kernel
theorem d_Model_read_1 : decode prog_14_method_36_code 1 = .ok (.iconst 0, 1) := by decide +kernel
theorem d_Model_read_2 : decode prog_14_method_36_code 2 = .ok (.putfield 95, 3) := by decide +kernel
theorem d_Model_read_5 : decode prog_14_method_36_code 5 = .ok (.aload_n 0, 1) := by decide +kernel
theorem d_Model_read_6 : decode prog_14_method_36_code 6 = .ok (.iconst 0, 1) := by decide +kernel
theorem d_Model_read_7 : decode prog_14_method_36_code 7 = .ok (.putfield 201, 3) := by decide +kernel
theorem d_Model_read_10 : decode prog_14_method_36_code 10 = .ok (.aload_n 0, 1) := by decide +kernel
theorem d_Model_read_11 : decode prog_14_method_36_code 11 = .ok (.iconst 0, 1) := by decide +kernel
theorem d_Model_read_12 : decode prog_14_method_36_code 12 = .ok (.putfield 165, 3) := by decide +kernel
theorem d_Model_read_15 : decode prog_14_method_36_code 15 = .ok (.aload_n 0, 1) := by decide +kernel
theorem d_Model_read_16 : decode prog_14_method_36_code 16 = .ok (.iconst 0, 1) := by decide +kernel
theorem d_Model_read_17 : decode prog_14_method_36_code 17 = .ok (.putfield 210, 3) := by decide +kernel
theorem d_Model_read_20 : decode prog_14_method_36_code 20 = .ok (.aload_n 0, 1) := by decide +kernel
theorem d_Model_read_21 : decode prog_14_method_36_code 21 = .ok (.iconst 0, 1) := by decide +kernel
theorem d_Model_read_22 : decode prog_14_method_36_code 22 = .ok (.putfield 134, 3) := by decide +kernel
theorem d_Model_read_25 : decode prog_14_method_36_code 25 = .ok (.aload_n 0, 1) := by decide +kernel
theorem d_Model_read_26 : decode prog_14_method_36_code 26 = .ok (.iconst 0, 1) := by decide +kernel
theorem d_Model_read_27 : decode prog_14_method_36_code 27 = .ok (.putfield 147, 3) := by decide +kernel
theorem d_Model_read_30 : decode prog_14_method_36_code 30 = .ok (.aload_n 0, 1) := by decide +kernel
theorem d_Model_read_31 : decode prog_14_method_36_code 31 = .ok (.getfield 134, 3) := by decide +kernel
theorem d_Model_read_34 : decode prog_14_method_36_code 34 = .ok (.aload_n 0, 1) := by decide +kernel
theorem d_Model_read_35 : decode prog_14_method_36_code 35 = .ok (.getfield 131, 3) := by decide +kernel
