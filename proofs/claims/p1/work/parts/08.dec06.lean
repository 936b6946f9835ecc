/-! decode rows, printed by a program -/
theorem d_Model_findKey_2 : decode prog_14_method_34_code 2 = .ok (.iconst 0, 1) := by decide +kernel
theorem d_Model_findKey_3 : decode prog_14_method_34_code 3 = .ok (.istore 4, 2) := by decide +kernel
theorem d_Model_findKey_5 : decode prog_14_method_34_code 5 = .ok (.iload 4, 2) := by decide +kernel
theorem d_Model_findKey_7 : decode prog_14_method_34_code 7 = .ok (.aload_n 0, 1) := by decide +kernel
theorem d_Model_findKey_8 : decode prog_14_method_34_code 8 = .ok (.getfield 201, 3) := by decide +kernel
theorem d_Model_findKey_11 : decode prog_14_method_34_code 11 = .ok (.if_icmp .ge 28, 3) := by decide +kernel
theorem d_Model_findKey_14 : decode prog_14_method_34_code 14 = .ok (.aload_n 0, 1) := by decide +kernel
theorem d_Model_findKey_15 : decode prog_14_method_34_code 15 = .ok (.getfield 22, 3) := by decide +kernel
theorem d_Model_findKey_18 : decode prog_14_method_34_code 18 = .ok (.iload 4, 2) := by decide +kernel
theorem d_Model_findKey_20 : decode prog_14_method_34_code 20 = .ok (.laload, 1) := by decide +kernel
theorem d_Model_findKey_21 : decode prog_14_method_34_code 21 = .ok (.lload_n 1, 1) := by decide +kernel
theorem d_Model_findKey_22 : decode prog_14_method_34_code 22 = .ok (.lcmp, 1) := by decide +kernel
theorem d_Model_findKey_23 : decode prog_14_method_34_code 23 = .ok (.ifCond .ne 8, 3) := by decide +kernel
theorem d_Model_findKey_26 : decode prog_14_method_34_code 26 = .ok (.iload 4, 2) := by decide +kernel
theorem d_Model_findKey_28 : decode prog_14_method_34_code 28 = .ok (.goto 4, 3) := by decide +kernel
theorem d_Model_findKey_31 : decode prog_14_method_34_code 31 = .ok (.iload_n 3, 1) := by decide +kernel
theorem d_Model_findKey_32 : decode prog_14_method_34_code 32 = .ok (.istore_n 3, 1) := by decide +kernel
theorem d_Model_findKey_33 : decode prog_14_method_34_code 33 = .ok (.iinc 4 1, 3) := by decide +kernel
theorem d_Model_findKey_36 : decode prog_14_method_34_code 36 = .ok (.goto (-31), 3) := by decide +kernel
theorem d_Model_findKey_39 : decode prog_14_method_34_code 39 = .ok (.iload_n 3, 1) := by decide +kernel
theorem d_Model_findKey_40 : decode prog_14_method_34_code 40 = .ok (.ireturn, 1) := by decide +kernel
theorem d_Model_cite_0 : decode prog_14_method_37_code 0 = .ok (.aload_n 0, 1) := by decide +kernel
theorem d_Model_cite_1 : decode prog_14_method_37_code 1 = .ok (.iconst 0, 1) := by decide +kernel
theorem d_Model_cite_2 : decode prog_14_method_37_code 2 = .ok (.putfield 95, 3) := by decide +kernel
theorem d_Model_cite_5 : decode prog_14_method_37_code 5 = .ok (.lload_n 1, 1) := by decide +kernel
theorem d_Model_cite_6 : decode prog_14_method_37_code 6 = .ok (.invokestatic 224, 3) := by decide +kernel
theorem d_Model_cite_9 : decode prog_14_method_37_code 9 = .ok (.lstore_n 3, 1) := by decide +kernel
theorem d_Model_cite_10 : decode prog_14_method_37_code 10 = .ok (.lload_n 3, 1) := by decide +kernel
theorem d_Model_cite_11 : decode prog_14_method_37_code 11 = .ok (.lconst 0, 1) := by decide +kernel
theorem d_Model_cite_12 : decode prog_14_method_37_code 12 = .ok (.lcmp, 1) := by decide +kernel
theorem d_Model_cite_13 : decode prog_14_method_37_code 13 = .ok (.ifCond .eq 7, 3) := by decide +kernel
theorem d_Model_cite_16 : decode prog_14_method_37_code 16 = .ok (.iconst 1, 1) := by decide +kernel
theorem d_Model_cite_17 : decode prog_14_method_37_code 17 = .ok (.goto 4, 3) := by decide +kernel
theorem d_Model_cite_20 : decode prog_14_method_37_code 20 = .ok (.iconst 0, 1) := by decide +kernel
theorem d_Model_cite_21 : decode prog_14_method_37_code 21 = .ok (.istore 5, 2) := by decide +kernel
theorem d_Model_cite_23 : decode prog_14_method_37_code 23 = .ok (.iconst 1, 1) := by decide +kernel
theorem d_Model_cite_24 : decode prog_14_method_37_code 24 = .ok (.istore 6, 2) := by decide +kernel
theorem d_Model_cite_26 : decode prog_14_method_37_code 26 = .ok (.iconst 0, 1) := by decide +kernel
theorem d_Model_cite_27 : decode prog_14_method_37_code 27 = .ok (.istore 7, 2) := by decide +kernel
theorem d_Model_cite_29 : decode prog_14_method_37_code 29 = .ok (.iload 7, 2) := by decide +kernel
theorem d_Model_cite_31 : decode prog_14_method_37_code 31 = .ok (.bipush 8, 2) := by decide +kernel
theorem d_Model_cite_33 : decode prog_14_method_37_code 33 = .ok (.if_icmp .ge 65, 3) := by decide +kernel
theorem d_Model_cite_36 : decode prog_14_method_37_code 36 = .ok (.iload 6, 2) := by decide +kernel
theorem d_Model_cite_38 : decode prog_14_method_37_code 38 = .ok (.ifCond .eq 60, 3) := by decide +kernel
theorem d_Model_cite_41 : decode prog_14_method_37_code 41 = .ok (.lload_n 3, 1) := by decide +kernel
theorem d_Model_cite_42 : decode prog_14_method_37_code 42 = .ok (.bipush 8, 2) := by decide +kernel
theorem d_Model_cite_44 : decode prog_14_method_37_code 44 = .ok (.iload 7, 2) := by decide +kernel
theorem d_Model_cite_46 : decode prog_14_method_37_code 46 = .ok (.imul, 1) := by decide +kernel
theorem d_Model_cite_47 : decode prog_14_method_37_code 47 = .ok (.lshr, 1) := by decide +kernel
theorem d_Model_cite_48 : decode prog_14_method_37_code 48 = .ok (.ldc2_w 114, 3) := by decide +kernel
theorem d_Model_cite_51 : decode prog_14_method_37_code 51 = .ok (.land, 1) := by decide +kernel
theorem d_Model_cite_52 : decode prog_14_method_37_code 52 = .ok (.l2i, 1) := by decide +kernel
theorem d_Model_cite_53 : decode prog_14_method_37_code 53 = .ok (.istore 8, 2) := by decide +kernel
theorem d_Model_cite_55 : decode prog_14_method_37_code 55 = .ok (.iload 8, 2) := by decide +kernel
theorem d_Model_cite_57 : decode prog_14_method_37_code 57 = .ok (.ifCond .eq 7, 3) := by decide +kernel
theorem d_Model_cite_60 : decode prog_14_method_37_code 60 = .ok (.iconst 1, 1) := by decide +kernel
theorem d_Model_cite_61 : decode prog_14_method_37_code 61 = .ok (.goto 4, 3) := by decide +kernel
theorem d_Model_cite_64 : decode prog_14_method_37_code 64 = .ok (.iconst 0, 1) := by decide +kernel
theorem d_Model_cite_65 : decode prog_14_method_37_code 65 = .ok (.istore 6, 2) := by decide +kernel
theorem d_Model_cite_67 : decode prog_14_method_37_code 67 = .ok (.iload 5, 2) := by decide +kernel
theorem d_Model_cite_69 : decode prog_14_method_37_code 69 = .ok (.ifCond .eq 20, 3) := by decide +kernel
theorem d_Model_cite_72 : decode prog_14_method_37_code 72 = .ok (.iload 6, 2) := by decide +kernel
theorem d_Model_cite_74 : decode prog_14_method_37_code 74 = .ok (.ifCond .eq 11, 3) := by decide +kernel
theorem d_Model_cite_77 : decode prog_14_method_37_code 77 = .ok (.iload 8, 2) := by decide +kernel
theorem d_Model_cite_79 : decode prog_14_method_37_code 79 = .ok (.invokestatic 156, 3) := by decide +kernel
theorem d_Model_cite_82 : decode prog_14_method_37_code 82 = .ok (.ifCond .eq 7, 3) := by decide +kernel
theorem d_Model_cite_85 : decode prog_14_method_37_code 85 = .ok (.iconst 1, 1) := by decide +kernel
theorem d_Model_cite_86 : decode prog_14_method_37_code 86 = .ok (.goto 4, 3) := by decide +kernel
theorem d_Model_cite_89 : decode prog_14_method_37_code 89 = .ok (.iconst 0, 1) := by decide +kernel
theorem d_Model_cite_90 : decode prog_14_method_37_code 90 = .ok (.istore 5, 2) := by decide +kernel
theorem d_Model_cite_92 : decode prog_14_method_37_code 92 = .ok (.iinc 7 1, 3) := by decide +kernel
theorem d_Model_cite_95 : decode prog_14_method_37_code 95 = .ok (.goto (-66), 3) := by decide +kernel
theorem d_Model_cite_98 : decode prog_14_method_37_code 98 = .ok (.iload 5, 2) := by decide +kernel
theorem d_Model_cite_100 : decode prog_14_method_37_code 100 = .ok (.ifCond .ne 17, 3) := by decide +kernel
theorem d_Model_cite_103 : decode prog_14_method_37_code 103 = .ok (.aload_n 0, 1) := by decide +kernel
theorem d_Model_cite_104 : decode prog_14_method_37_code 104 = .ok (.iconst 1, 1) := by decide +kernel
theorem d_Model_cite_105 : decode prog_14_method_37_code 105 = .ok (.invokevirtual 128, 3) := by decide +kernel
theorem d_Model_cite_108 : decode prog_14_method_37_code 108 = .ok (.ifCond .le 7, 3) := by decide +kernel
theorem d_Model_cite_111 : decode prog_14_method_37_code 111 = .ok (.iconst 1, 1) := by decide +kernel
theorem d_Model_cite_112 : decode prog_14_method_37_code 112 = .ok (.goto 4, 3) := by decide +kernel
theorem d_Model_cite_115 : decode prog_14_method_37_code 115 = .ok (.iconst 0, 1) := by decide +kernel
theorem d_Model_cite_116 : decode prog_14_method_37_code 116 = .ok (.ireturn, 1) := by decide +kernel
theorem d_Model_cite_117 : decode prog_14_method_37_code 117 = .ok (.iconst 0, 1) := by decide +kernel
theorem d_Model_cite_118 : decode prog_14_method_37_code 118 = .ok (.istore 7, 2) := by decide +kernel
theorem d_Model_cite_120 : decode prog_14_method_37_code 120 = .ok (.iload 7, 2) := by decide +kernel
theorem d_Model_cite_122 : decode prog_14_method_37_code 122 = .ok (.aload_n 0, 1) := by decide +kernel
theorem d_Model_cite_123 : decode prog_14_method_37_code 123 = .ok (.getfield 228, 3) := by decide +kernel
theorem d_Model_cite_126 : decode prog_14_method_37_code 126 = .ok (.if_icmp .ge 23, 3) := by decide +kernel
theorem d_Model_cite_129 : decode prog_14_method_37_code 129 = .ok (.aload_n 0, 1) := by decide +kernel
theorem d_Model_cite_130 : decode prog_14_method_37_code 130 = .ok (.getfield 38, 3) := by decide +kernel
theorem d_Model_cite_133 : decode prog_14_method_37_code 133 = .ok (.iload 7, 2) := by decide +kernel
theorem d_Model_cite_135 : decode prog_14_method_37_code 135 = .ok (.laload, 1) := by decide +kernel
theorem d_Model_cite_136 : decode prog_14_method_37_code 136 = .ok (.lload_n 3, 1) := by decide +kernel
theorem d_Model_cite_137 : decode prog_14_method_37_code 137 = .ok (.lcmp, 1) := by decide +kernel
theorem d_Model_cite_138 : decode prog_14_method_37_code 138 = .ok (.ifCond .ne 5, 3) := by decide +kernel
theorem d_Model_cite_141 : decode prog_14_method_37_code 141 = .ok (.iconst 0, 1) := by decide +kernel
theorem d_Model_cite_142 : decode prog_14_method_37_code 142 = .ok (.ireturn, 1) := by decide +kernel
theorem d_Model_cite_143 : decode prog_14_method_37_code 143 = .ok (.iinc 7 1, 3) := by decide +kernel
theorem d_Model_cite_146 : decode prog_14_method_37_code 146 = .ok (.goto (-26), 3) := by decide +kernel
theorem d_Model_cite_149 : decode prog_14_method_37_code 149 = .ok (.aload_n 0, 1) := by decide +kernel
theorem d_Model_cite_150 : decode prog_14_method_37_code 150 = .ok (.getfield 228, 3) := by decide +kernel
theorem d_Model_cite_153 : decode prog_14_method_37_code 153 = .ok (.bipush 10, 2) := by decide +kernel
theorem d_Model_cite_155 : decode prog_14_method_37_code 155 = .ok (.if_icmp .ne 17, 3) := by decide +kernel
theorem d_Model_cite_158 : decode prog_14_method_37_code 158 = .ok (.aload_n 0, 1) := by decide +kernel
theorem d_Model_cite_159 : decode prog_14_method_37_code 159 = .ok (.iconst 2, 1) := by decide +kernel
theorem d_Model_cite_160 : decode prog_14_method_37_code 160 = .ok (.invokevirtual 128, 3) := by decide +kernel
theorem d_Model_cite_163 : decode prog_14_method_37_code 163 = .ok (.ifCond .le 7, 3) := by decide +kernel
theorem d_Model_cite_166 : decode prog_14_method_37_code 166 = .ok (.iconst 1, 1) := by decide +kernel
theorem d_Model_cite_167 : decode prog_14_method_37_code 167 = .ok (.goto 4, 3) := by decide +kernel
theorem d_Model_cite_170 : decode prog_14_method_37_code 170 = .ok (.iconst 0, 1) := by decide +kernel
theorem d_Model_cite_171 : decode prog_14_method_37_code 171 = .ok (.ireturn, 1) := by decide +kernel
theorem d_Model_cite_172 : decode prog_14_method_37_code 172 = .ok (.aload_n 0, 1) := by decide +kernel
theorem d_Model_cite_173 : decode prog_14_method_37_code 173 = .ok (.getfield 38, 3) := by decide +kernel
theorem d_Model_cite_176 : decode prog_14_method_37_code 176 = .ok (.aload_n 0, 1) := by decide +kernel
theorem d_Model_cite_177 : decode prog_14_method_37_code 177 = .ok (.getfield 228, 3) := by decide +kernel
theorem d_Model_cite_180 : decode prog_14_method_37_code 180 = .ok (.lload_n 3, 1) := by decide +kernel
theorem d_Model_cite_181 : decode prog_14_method_37_code 181 = .ok (.lastore, 1) := by decide +kernel
theorem d_Model_cite_182 : decode prog_14_method_37_code 182 = .ok (.aload_n 0, 1) := by decide +kernel
theorem d_Model_cite_183 : decode prog_14_method_37_code 183 = .ok (.dup, 1) := by decide +kernel
theorem d_Model_cite_184 : decode prog_14_method_37_code 184 = .ok (.getfield 228, 3) := by decide +kernel
theorem d_Model_cite_187 : decode prog_14_method_37_code 187 = .ok (.iconst 1, 1) := by decide +kernel
theorem d_Model_cite_188 : decode prog_14_method_37_code 188 = .ok (.iadd, 1) := by decide +kernel
theorem d_Model_cite_189 : decode prog_14_method_37_code 189 = .ok (.putfield 228, 3) := by decide +kernel
theorem d_Model_cite_192 : decode prog_14_method_37_code 192 = .ok (.iconst 1, 1) := by decide +kernel
theorem d_Model_cite_193 : decode prog_14_method_37_code 193 = .ok (.ireturn, 1) := by decide +kernel
theorem d_Model_wordOf_0 : decode prog_14_method_15_code 0 = .ok (.lconst 0, 1) := by decide +kernel
theorem d_Model_wordOf_1 : decode prog_14_method_15_code 1 = .ok (.lstore_n 2, 1) := by decide +kernel
theorem d_Model_wordOf_2 : decode prog_14_method_15_code 2 = .ok (.iconst 1, 1) := by decide +kernel
theorem d_Model_wordOf_3 : decode prog_14_method_15_code 3 = .ok (.istore 4, 2) := by decide +kernel
theorem d_Model_wordOf_5 : decode prog_14_method_15_code 5 = .ok (.iconst 0, 1) := by decide +kernel
theorem d_Model_wordOf_6 : decode prog_14_method_15_code 6 = .ok (.istore 5, 2) := by decide +kernel
theorem d_Model_wordOf_8 : decode prog_14_method_15_code 8 = .ok (.iload 5, 2) := by decide +kernel
theorem d_Model_wordOf_10 : decode prog_14_method_15_code 10 = .ok (.bipush 8, 2) := by decide +kernel
theorem d_Model_wordOf_12 : decode prog_14_method_15_code 12 = .ok (.if_icmp .ge 59, 3) := by decide +kernel
theorem d_Model_wordOf_15 : decode prog_14_method_15_code 15 = .ok (.iload 4, 2) := by decide +kernel
theorem d_Model_wordOf_17 : decode prog_14_method_15_code 17 = .ok (.ifCond .eq 54, 3) := by decide +kernel
theorem d_Model_wordOf_20 : decode prog_14_method_15_code 20 = .ok (.lload_n 0, 1) := by decide +kernel
theorem d_Model_wordOf_21 : decode prog_14_method_15_code 21 = .ok (.bipush 8, 2) := by decide +kernel
theorem d_Model_wordOf_23 : decode prog_14_method_15_code 23 = .ok (.iload 5, 2) := by decide +kernel
theorem d_Model_wordOf_25 : decode prog_14_method_15_code 25 = .ok (.imul, 1) := by decide +kernel
theorem d_Model_wordOf_26 : decode prog_14_method_15_code 26 = .ok (.lshr, 1) := by decide +kernel
theorem d_Model_wordOf_27 : decode prog_14_method_15_code 27 = .ok (.ldc2_w 114, 3) := by decide +kernel
theorem d_Model_wordOf_30 : decode prog_14_method_15_code 30 = .ok (.land, 1) := by decide +kernel
theorem d_Model_wordOf_31 : decode prog_14_method_15_code 31 = .ok (.l2i, 1) := by decide +kernel
theorem d_Model_wordOf_32 : decode prog_14_method_15_code 32 = .ok (.istore 6, 2) := by decide +kernel
theorem d_Model_wordOf_34 : decode prog_14_method_15_code 34 = .ok (.iload 6, 2) := by decide +kernel
theorem d_Model_wordOf_36 : decode prog_14_method_15_code 36 = .ok (.bipush 32, 2) := by decide +kernel
theorem d_Model_wordOf_38 : decode prog_14_method_15_code 38 = .ok (.bipush 126, 2) := by decide +kernel
theorem d_Model_wordOf_40 : decode prog_14_method_15_code 40 = .ok (.invokestatic 103, 3) := by decide +kernel
theorem d_Model_wordOf_43 : decode prog_14_method_15_code 43 = .ok (.istore 4, 2) := by decide +kernel
theorem d_Model_wordOf_45 : decode prog_14_method_15_code 45 = .ok (.iload 4, 2) := by decide +kernel
theorem d_Model_wordOf_47 : decode prog_14_method_15_code 47 = .ok (.ifCond .eq 18, 3) := by decide +kernel
theorem d_Model_wordOf_50 : decode prog_14_method_15_code 50 = .ok (.lload_n 2, 1) := by decide +kernel
theorem d_Model_wordOf_51 : decode prog_14_method_15_code 51 = .ok (.iload 6, 2) := by decide +kernel
theorem d_Model_wordOf_53 : decode prog_14_method_15_code 53 = .ok (.invokestatic 116, 3) := by decide +kernel
theorem d_Model_wordOf_56 : decode prog_14_method_15_code 56 = .ok (.i2l, 1) := by decide +kernel
theorem d_Model_wordOf_57 : decode prog_14_method_15_code 57 = .ok (.bipush 8, 2) := by decide +kernel
theorem d_Model_wordOf_59 : decode prog_14_method_15_code 59 = .ok (.iload 5, 2) := by decide +kernel
theorem d_Model_wordOf_61 : decode prog_14_method_15_code 61 = .ok (.imul, 1) := by decide +kernel
theorem d_Model_wordOf_62 : decode prog_14_method_15_code 62 = .ok (.lshl, 1) := by decide +kernel
theorem d_Model_wordOf_63 : decode prog_14_method_15_code 63 = .ok (.lor, 1) := by decide +kernel
theorem d_Model_wordOf_64 : decode prog_14_method_15_code 64 = .ok (.lstore_n 2, 1) := by decide +kernel
theorem d_Model_wordOf_65 : decode prog_14_method_15_code 65 = .ok (.iinc 5 1, 3) := by decide +kernel
theorem d_Model_wordOf_68 : decode prog_14_method_15_code 68 = .ok (.goto (-60), 3) := by decide +kernel
theorem d_Model_wordOf_71 : decode prog_14_method_15_code 71 = .ok (.lload_n 2, 1) := by decide +kernel
theorem d_Model_wordOf_72 : decode prog_14_method_15_code 72 = .ok (.lreturn, 1) := by decide +kernel
theorem d_Model_forget_0 : decode prog_14_method_38_code 0 = .ok (.aload_n 0, 1) := by decide +kernel
theorem d_Model_forget_1 : decode prog_14_method_38_code 1 = .ok (.iconst 0, 1) := by decide +kernel
theorem d_Model_forget_2 : decode prog_14_method_38_code 2 = .ok (.putfield 95, 3) := by decide +kernel
theorem d_Model_forget_5 : decode prog_14_method_38_code 5 = .ok (.aload_n 0, 1) := by decide +kernel
theorem d_Model_forget_6 : decode prog_14_method_38_code 6 = .ok (.getfield 228, 3) := by decide +kernel
theorem d_Model_forget_9 : decode prog_14_method_38_code 9 = .ok (.istore_n 1, 1) := by decide +kernel
theorem d_Model_forget_10 : decode prog_14_method_38_code 10 = .ok (.aload_n 0, 1) := by decide +kernel
theorem d_Model_forget_11 : decode prog_14_method_38_code 11 = .ok (.iconst 0, 1) := by decide +kernel
theorem d_Model_forget_12 : decode prog_14_method_38_code 12 = .ok (.putfield 228, 3) := by decide +kernel
theorem d_Model_forget_15 : decode prog_14_method_38_code 15 = .ok (.iload_n 1, 1) := by decide +kernel
theorem d_Model_forget_16 : decode prog_14_method_38_code 16 = .ok (.ireturn, 1) := by decide +kernel
theorem d_Model_list_0 : decode prog_14_method_41_code 0 = .ok (.aload_n 0, 1) := by decide +kernel
theorem d_Model_list_1 : decode prog_14_method_41_code 1 = .ok (.iconst 0, 1) := by decide +kernel
theorem d_Model_list_2 : decode prog_14_method_41_code 2 = .ok (.putfield 95, 3) := by decide +kernel
theorem d_Model_list_5 : decode prog_14_method_41_code 5 = .ok (.iload_n 1, 1) := by decide +kernel
theorem d_Model_list_6 : decode prog_14_method_41_code 6 = .ok (.iconst 1, 1) := by decide +kernel
theorem d_Model_list_7 : decode prog_14_method_41_code 7 = .ok (.if_icmp .ge 9, 3) := by decide +kernel
theorem d_Model_list_10 : decode prog_14_method_41_code 10 = .ok (.aload_n 0, 1) := by decide +kernel
theorem d_Model_list_11 : decode prog_14_method_41_code 11 = .ok (.iconst 1, 1) := by decide +kernel
theorem d_Model_list_12 : decode prog_14_method_41_code 12 = .ok (.invokevirtual 128, 3) := by decide +kernel
theorem d_Model_list_15 : decode prog_14_method_41_code 15 = .ok (.ireturn, 1) := by decide +kernel
theorem d_Model_list_16 : decode prog_14_method_41_code 16 = .ok (.aload_n 0, 1) := by decide +kernel
theorem d_Model_list_17 : decode prog_14_method_41_code 17 = .ok (.iconst 0, 1) := by decide +kernel
theorem d_Model_list_18 : decode prog_14_method_41_code 18 = .ok (.putfield 210, 3) := by decide +kernel
theorem d_Model_list_21 : decode prog_14_method_41_code 21 = .ok (.iconst 0, 1) := by decide +kernel
theorem d_Model_list_22 : decode prog_14_method_41_code 22 = .ok (.istore_n 2, 1) := by decide +kernel
theorem d_Model_list_23 : decode prog_14_method_41_code 23 = .ok (.iload_n 2, 1) := by decide +kernel
theorem d_Model_list_24 : decode prog_14_method_41_code 24 = .ok (.aload_n 0, 1) := by decide +kernel
theorem d_Model_list_25 : decode prog_14_method_41_code 25 = .ok (.getfield 228, 3) := by decide +kernel
theorem d_Model_list_28 : decode prog_14_method_41_code 28 = .ok (.if_icmp .ge 53, 3) := by decide +kernel
theorem d_Model_list_31 : decode prog_14_method_41_code 31 = .ok (.aload_n 0, 1) := by decide +kernel
theorem d_Model_list_32 : decode prog_14_method_41_code 32 = .ok (.aload_n 0, 1) := by decide +kernel
theorem d_Model_list_33 : decode prog_14_method_41_code 33 = .ok (.getfield 38, 3) := by decide +kernel
theorem d_Model_list_36 : decode prog_14_method_41_code 36 = .ok (.iload_n 2, 1) := by decide +kernel
theorem d_Model_list_37 : decode prog_14_method_41_code 37 = .ok (.laload, 1) := by decide +kernel
theorem d_Model_list_38 : decode prog_14_method_41_code 38 = .ok (.invokevirtual 207, 3) := by decide +kernel
theorem d_Model_list_41 : decode prog_14_method_41_code 41 = .ok (.istore_n 3, 1) := by decide +kernel
theorem d_Model_list_42 : decode prog_14_method_41_code 42 = .ok (.iload_n 3, 1) := by decide +kernel
theorem d_Model_list_43 : decode prog_14_method_41_code 43 = .ok (.ifCond .ge 12, 3) := by decide +kernel
theorem d_Model_list_46 : decode prog_14_method_41_code 46 = .ok (.aload_n 0, 1) := by decide +kernel
theorem d_Model_list_47 : decode prog_14_method_41_code 47 = .ok (.bipush 6, 2) := by decide +kernel
theorem d_Model_list_49 : decode prog_14_method_41_code 49 = .ok (.invokevirtual 144, 3) := by decide +kernel
theorem d_Model_list_52 : decode prog_14_method_41_code 52 = .ok (.goto 23, 3) := by decide +kernel
theorem d_Model_list_55 : decode prog_14_method_41_code 55 = .ok (.aload_n 0, 1) := by decide +kernel
theorem d_Model_list_56 : decode prog_14_method_41_code 56 = .ok (.getfield 41, 3) := by decide +kernel
theorem d_Model_list_59 : decode prog_14_method_41_code 59 = .ok (.aload_n 0, 1) := by decide +kernel
theorem d_Model_list_60 : decode prog_14_method_41_code 60 = .ok (.getfield 210, 3) := by decide +kernel
theorem d_Model_list_63 : decode prog_14_method_41_code 63 = .ok (.iload_n 3, 1) := by decide +kernel
theorem d_Model_list_64 : decode prog_14_method_41_code 64 = .ok (.iastore, 1) := by decide +kernel
theorem d_Model_list_65 : decode prog_14_method_41_code 65 = .ok (.aload_n 0, 1) := by decide +kernel
theorem d_Model_list_66 : decode prog_14_method_41_code 66 = .ok (.dup, 1) := by decide +kernel
theorem d_Model_list_67 : decode prog_14_method_41_code 67 = .ok (.getfield 210, 3) := by decide +kernel
theorem d_Model_list_70 : decode prog_14_method_41_code 70 = .ok (.iconst 1, 1) := by decide +kernel
theorem d_Model_list_71 : decode prog_14_method_41_code 71 = .ok (.iadd, 1) := by decide +kernel
theorem d_Model_list_72 : decode prog_14_method_41_code 72 = .ok (.putfield 210, 3) := by decide +kernel
theorem d_Model_list_75 : decode prog_14_method_41_code 75 = .ok (.iinc 2 1, 3) := by decide +kernel
theorem d_Model_list_78 : decode prog_14_method_41_code 78 = .ok (.goto (-55), 3) := by decide +kernel
theorem d_Model_list_81 : decode prog_14_method_41_code 81 = .ok (.aload_n 0, 1) := by decide +kernel
theorem d_Model_list_82 : decode prog_14_method_41_code 82 = .ok (.getfield 210, 3) := by decide +kernel
theorem d_Model_list_85 : decode prog_14_method_41_code 85 = .ok (.istore_n 2, 1) := by decide +kernel
theorem d_Model_list_86 : decode prog_14_method_41_code 86 = .ok (.iconst 0, 1) := by decide +kernel
theorem d_Model_list_87 : decode prog_14_method_41_code 87 = .ok (.istore_n 3, 1) := by decide +kernel
theorem d_Model_list_88 : decode prog_14_method_41_code 88 = .ok (.iload_n 3, 1) := by decide +kernel
theorem d_Model_list_89 : decode prog_14_method_41_code 89 = .ok (.aload_n 0, 1) := by decide +kernel
theorem d_Model_list_90 : decode prog_14_method_41_code 90 = .ok (.getfield 201, 3) := by decide +kernel
theorem d_Model_list_93 : decode prog_14_method_41_code 93 = .ok (.if_icmp .ge 92, 3) := by decide +kernel
theorem d_Model_list_96 : decode prog_14_method_41_code 96 = .ok (.iconst 0, 1) := by decide +kernel
theorem d_Model_list_97 : decode prog_14_method_41_code 97 = .ok (.istore 4, 2) := by decide +kernel
theorem d_Model_list_99 : decode prog_14_method_41_code 99 = .ok (.iconst 0, 1) := by decide +kernel
theorem d_Model_list_100 : decode prog_14_method_41_code 100 = .ok (.istore 5, 2) := by decide +kernel
theorem d_Model_list_102 : decode prog_14_method_41_code 102 = .ok (.iload 5, 2) := by decide +kernel
theorem d_Model_list_104 : decode prog_14_method_41_code 104 = .ok (.iload_n 2, 1) := by decide +kernel
theorem d_Model_list_105 : decode prog_14_method_41_code 105 = .ok (.if_icmp .ge 40, 3) := by decide +kernel
theorem d_Model_list_108 : decode prog_14_method_41_code 108 = .ok (.iload 4, 2) := by decide +kernel
theorem d_Model_list_110 : decode prog_14_method_41_code 110 = .ok (.aload_n 0, 1) := by decide +kernel
theorem d_Model_list_111 : decode prog_14_method_41_code 111 = .ok (.aload_n 0, 1) := by decide +kernel
theorem d_Model_list_112 : decode prog_14_method_41_code 112 = .ok (.getfield 41, 3) := by decide +kernel
theorem d_Model_list_115 : decode prog_14_method_41_code 115 = .ok (.iload 5, 2) := by decide +kernel
theorem d_Model_list_117 : decode prog_14_method_41_code 117 = .ok (.iaload, 1) := by decide +kernel
theorem d_Model_list_118 : decode prog_14_method_41_code 118 = .ok (.invokevirtual 237, 3) := by decide +kernel
theorem d_Model_list_121 : decode prog_14_method_41_code 121 = .ok (.aload_n 0, 1) := by decide +kernel
theorem d_Model_list_122 : decode prog_14_method_41_code 122 = .ok (.getfield 22, 3) := by decide +kernel
theorem d_Model_list_125 : decode prog_14_method_41_code 125 = .ok (.iload_n 3, 1) := by decide +kernel
theorem d_Model_list_126 : decode prog_14_method_41_code 126 = .ok (.laload, 1) := by decide +kernel
theorem d_Model_list_127 : decode prog_14_method_41_code 127 = .ok (.lcmp, 1) := by decide +kernel
theorem d_Model_list_128 : decode prog_14_method_41_code 128 = .ok (.ifCond .ne 7, 3) := by decide +kernel
theorem d_Model_list_131 : decode prog_14_method_41_code 131 = .ok (.iconst 1, 1) := by decide +kernel
theorem d_Model_list_132 : decode prog_14_method_41_code 132 = .ok (.goto 4, 3) := by decide +kernel
theorem d_Model_list_135 : decode prog_14_method_41_code 135 = .ok (.iconst 0, 1) := by decide +kernel
theorem d_Model_list_136 : decode prog_14_method_41_code 136 = .ok (.iadd, 1) := by decide +kernel
theorem d_Model_list_137 : decode prog_14_method_41_code 137 = .ok (.istore 4, 2) := by decide +kernel
theorem d_Model_list_139 : decode prog_14_method_41_code 139 = .ok (.iinc 5 1, 3) := by decide +kernel
theorem d_Model_list_142 : decode prog_14_method_41_code 142 = .ok (.goto (-40), 3) := by decide +kernel
theorem d_Model_list_145 : decode prog_14_method_41_code 145 = .ok (.iload 4, 2) := by decide +kernel
theorem d_Model_list_147 : decode prog_14_method_41_code 147 = .ok (.iload_n 1, 1) := by decide +kernel
theorem d_Model_list_148 : decode prog_14_method_41_code 148 = .ok (.if_icmp .lt 31, 3) := by decide +kernel
theorem d_Model_list_151 : decode prog_14_method_41_code 151 = .ok (.aload_n 0, 1) := by decide +kernel
theorem d_Model_list_152 : decode prog_14_method_41_code 152 = .ok (.iload_n 3, 1) := by decide +kernel
theorem d_Model_list_153 : decode prog_14_method_41_code 153 = .ok (.invokevirtual 240, 3) := by decide +kernel
theorem d_Model_list_156 : decode prog_14_method_41_code 156 = .ok (.ifCond .ne 23, 3) := by decide +kernel
theorem d_Model_list_159 : decode prog_14_method_41_code 159 = .ok (.aload_n 0, 1) := by decide +kernel
theorem d_Model_list_160 : decode prog_14_method_41_code 160 = .ok (.getfield 41, 3) := by decide +kernel
theorem d_Model_list_163 : decode prog_14_method_41_code 163 = .ok (.aload_n 0, 1) := by decide +kernel
theorem d_Model_list_164 : decode prog_14_method_41_code 164 = .ok (.getfield 210, 3) := by decide +kernel
theorem d_Model_list_167 : decode prog_14_method_41_code 167 = .ok (.iload_n 3, 1) := by decide +kernel
theorem d_Model_list_168 : decode prog_14_method_41_code 168 = .ok (.iastore, 1) := by decide +kernel
theorem d_Model_list_169 : decode prog_14_method_41_code 169 = .ok (.aload_n 0, 1) := by decide +kernel
theorem d_Model_list_170 : decode prog_14_method_41_code 170 = .ok (.dup, 1) := by decide +kernel
theorem d_Model_list_171 : decode prog_14_method_41_code 171 = .ok (.getfield 210, 3) := by decide +kernel
theorem d_Model_list_174 : decode prog_14_method_41_code 174 = .ok (.iconst 1, 1) := by decide +kernel
theorem d_Model_list_175 : decode prog_14_method_41_code 175 = .ok (.iadd, 1) := by decide +kernel
theorem d_Model_list_176 : decode prog_14_method_41_code 176 = .ok (.putfield 210, 3) := by decide +kernel
theorem d_Model_list_179 : decode prog_14_method_41_code 179 = .ok (.iinc 3 1, 3) := by decide +kernel
theorem d_Model_list_182 : decode prog_14_method_41_code 182 = .ok (.goto (-94), 3) := by decide +kernel
theorem d_Model_list_185 : decode prog_14_method_41_code 185 = .ok (.iconst 0, 1) := by decide +kernel
theorem d_Model_list_186 : decode prog_14_method_41_code 186 = .ok (.istore_n 3, 1) := by decide +kernel
theorem d_Model_list_187 : decode prog_14_method_41_code 187 = .ok (.iload_n 3, 1) := by decide +kernel
theorem d_Model_list_188 : decode prog_14_method_41_code 188 = .ok (.bipush 8, 2) := by decide +kernel
theorem d_Model_list_190 : decode prog_14_method_41_code 190 = .ok (.if_icmp .ge 17, 3) := by decide +kernel
theorem d_Model_list_193 : decode prog_14_method_41_code 193 = .ok (.aload_n 0, 1) := by decide +kernel
theorem d_Model_list_194 : decode prog_14_method_41_code 194 = .ok (.bipush 62, 2) := by decide +kernel
theorem d_Model_list_196 : decode prog_14_method_41_code 196 = .ok (.iload_n 3, 1) := by decide +kernel
theorem d_Model_list_197 : decode prog_14_method_41_code 197 = .ok (.iadd, 1) := by decide +kernel
theorem d_Model_list_198 : decode prog_14_method_41_code 198 = .ok (.invokevirtual 120, 3) := by decide +kernel
theorem d_Model_list_201 : decode prog_14_method_41_code 201 = .ok (.iinc 3 1, 3) := by decide +kernel
theorem d_Model_list_204 : decode prog_14_method_41_code 204 = .ok (.goto (-17), 3) := by decide +kernel
theorem d_Model_list_207 : decode prog_14_method_41_code 207 = .ok (.aload_n 0, 1) := by decide +kernel
theorem d_Model_list_208 : decode prog_14_method_41_code 208 = .ok (.getfield 210, 3) := by decide +kernel
theorem d_Model_list_211 : decode prog_14_method_41_code 211 = .ok (.ireturn, 1) := by decide +kernel
theorem d_Model_refers_0 : decode prog_14_method_40_code 0 = .ok (.aload_n 0, 1) := by decide +kernel
theorem d_Model_refers_1 : decode prog_14_method_40_code 1 = .ok (.iload_n 1, 1) := by decide +kernel
theorem d_Model_refers_2 : decode prog_14_method_40_code 2 = .ok (.ldc2_w 231, 3) := by decide +kernel
theorem d_Model_refers_5 : decode prog_14_method_40_code 5 = .ok (.invokevirtual 197, 3) := by decide +kernel
theorem d_Model_refers_8 : decode prog_14_method_40_code 8 = .ok (.istore_n 2, 1) := by decide +kernel
theorem d_Model_refers_9 : decode prog_14_method_40_code 9 = .ok (.iload_n 2, 1) := by decide +kernel
theorem d_Model_refers_10 : decode prog_14_method_40_code 10 = .ok (.ifCond .ge 7, 3) := by decide +kernel
theorem d_Model_refers_13 : decode prog_14_method_40_code 13 = .ok (.lconst 0, 1) := by decide +kernel
theorem d_Model_refers_14 : decode prog_14_method_40_code 14 = .ok (.goto 8, 3) := by decide +kernel
theorem d_Model_refers_17 : decode prog_14_method_40_code 17 = .ok (.aload_n 0, 1) := by decide +kernel
theorem d_Model_refers_18 : decode prog_14_method_40_code 18 = .ok (.iload_n 2, 1) := by decide +kernel
theorem d_Model_refers_19 : decode prog_14_method_40_code 19 = .ok (.invokevirtual 233, 3) := by decide +kernel
theorem d_Model_refers_22 : decode prog_14_method_40_code 22 = .ok (.lreturn, 1) := by decide +kernel
theorem d_Model_packed_0 : decode prog_14_method_16_code 0 = .ok (.lconst 0, 1) := by decide +kernel
theorem d_Model_packed_1 : decode prog_14_method_16_code 1 = .ok (.lstore_n 2, 1) := by decide +kernel
theorem d_Model_packed_2 : decode prog_14_method_16_code 2 = .ok (.iconst 0, 1) := by decide +kernel
theorem d_Model_packed_3 : decode prog_14_method_16_code 3 = .ok (.istore 4, 2) := by decide +kernel
theorem d_Model_packed_5 : decode prog_14_method_16_code 5 = .ok (.iload 4, 2) := by decide +kernel
theorem d_Model_packed_7 : decode prog_14_method_16_code 7 = .ok (.aload_n 0, 1) := by decide +kernel
theorem d_Model_packed_8 : decode prog_14_method_16_code 8 = .ok (.getfield 16, 3) := by decide +kernel
theorem d_Model_packed_11 : decode prog_14_method_16_code 11 = .ok (.iload_n 1, 1) := by decide +kernel
theorem d_Model_packed_12 : decode prog_14_method_16_code 12 = .ok (.iaload, 1) := by decide +kernel
theorem d_Model_packed_13 : decode prog_14_method_16_code 13 = .ok (.if_icmp .ge 40, 3) := by decide +kernel
theorem d_Model_packed_16 : decode prog_14_method_16_code 16 = .ok (.aload_n 0, 1) := by decide +kernel
theorem d_Model_packed_17 : decode prog_14_method_16_code 17 = .ok (.getfield 16, 3) := by decide +kernel
theorem d_Model_packed_20 : decode prog_14_method_16_code 20 = .ok (.iload_n 1, 1) := by decide +kernel
theorem d_Model_packed_21 : decode prog_14_method_16_code 21 = .ok (.iaload, 1) := by decide +kernel
theorem d_Model_packed_22 : decode prog_14_method_16_code 22 = .ok (.bipush 9, 2) := by decide +kernel
theorem d_Model_packed_24 : decode prog_14_method_16_code 24 = .ok (.if_icmp .ge 29, 3) := by decide +kernel
theorem d_Model_packed_27 : decode prog_14_method_16_code 27 = .ok (.lload_n 2, 1) := by decide +kernel
theorem d_Model_packed_28 : decode prog_14_method_16_code 28 = .ok (.aload_n 0, 1) := by decide +kernel
theorem d_Model_packed_29 : decode prog_14_method_16_code 29 = .ok (.iload_n 1, 1) := by decide +kernel
theorem d_Model_packed_30 : decode prog_14_method_16_code 30 = .ok (.iload 4, 2) := by decide +kernel
theorem d_Model_packed_32 : decode prog_14_method_16_code 32 = .ok (.invokevirtual 99, 3) := by decide +kernel
theorem d_Model_packed_35 : decode prog_14_method_16_code 35 = .ok (.invokestatic 116, 3) := by decide +kernel
theorem d_Model_packed_38 : decode prog_14_method_16_code 38 = .ok (.i2l, 1) := by decide +kernel
theorem d_Model_packed_39 : decode prog_14_method_16_code 39 = .ok (.bipush 8, 2) := by decide +kernel
theorem d_Model_packed_41 : decode prog_14_method_16_code 41 = .ok (.iload 4, 2) := by decide +kernel
theorem d_Model_packed_43 : decode prog_14_method_16_code 43 = .ok (.imul, 1) := by decide +kernel
theorem d_Model_packed_44 : decode prog_14_method_16_code 44 = .ok (.lshl, 1) := by decide +kernel
theorem d_Model_packed_45 : decode prog_14_method_16_code 45 = .ok (.lor, 1) := by decide +kernel
theorem d_Model_packed_46 : decode prog_14_method_16_code 46 = .ok (.lstore_n 2, 1) := by decide +kernel
theorem d_Model_packed_47 : decode prog_14_method_16_code 47 = .ok (.iinc 4 1, 3) := by decide +kernel
theorem d_Model_packed_50 : decode prog_14_method_16_code 50 = .ok (.goto (-45), 3) := by decide +kernel
theorem d_Model_packed_53 : decode prog_14_method_16_code 53 = .ok (.lload_n 2, 1) := by decide +kernel
theorem d_Model_packed_54 : decode prog_14_method_16_code 54 = .ok (.lreturn, 1) := by decide +kernel
theorem d_Model_isListed_0 : decode prog_14_method_39_code 0 = .ok (.iconst 0, 1) := by decide +kernel
theorem d_Model_isListed_1 : decode prog_14_method_39_code 1 = .ok (.istore_n 2, 1) := by decide +kernel
theorem d_Model_isListed_2 : decode prog_14_method_39_code 2 = .ok (.iconst 0, 1) := by decide +kernel
theorem d_Model_isListed_3 : decode prog_14_method_39_code 3 = .ok (.istore_n 3, 1) := by decide +kernel
theorem d_Model_isListed_4 : decode prog_14_method_39_code 4 = .ok (.iload_n 3, 1) := by decide +kernel
theorem d_Model_isListed_5 : decode prog_14_method_39_code 5 = .ok (.aload_n 0, 1) := by decide +kernel
theorem d_Model_isListed_6 : decode prog_14_method_39_code 6 = .ok (.getfield 210, 3) := by decide +kernel
theorem d_Model_isListed_9 : decode prog_14_method_39_code 9 = .ok (.if_icmp .ge 29, 3) := by decide +kernel
theorem d_Model_isListed_12 : decode prog_14_method_39_code 12 = .ok (.iload_n 2, 1) := by decide +kernel
theorem d_Model_isListed_13 : decode prog_14_method_39_code 13 = .ok (.ifCond .ne 13, 3) := by decide +kernel
theorem d_Model_isListed_16 : decode prog_14_method_39_code 16 = .ok (.aload_n 0, 1) := by decide +kernel
theorem d_Model_isListed_17 : decode prog_14_method_39_code 17 = .ok (.getfield 41, 3) := by decide +kernel
theorem d_Model_isListed_20 : decode prog_14_method_39_code 20 = .ok (.iload_n 3, 1) := by decide +kernel
theorem d_Model_isListed_21 : decode prog_14_method_39_code 21 = .ok (.iaload, 1) := by decide +kernel
theorem d_Model_isListed_22 : decode prog_14_method_39_code 22 = .ok (.iload_n 1, 1) := by decide +kernel
theorem d_Model_isListed_23 : decode prog_14_method_39_code 23 = .ok (.if_icmp .ne 7, 3) := by decide +kernel
theorem d_Model_isListed_26 : decode prog_14_method_39_code 26 = .ok (.iconst 1, 1) := by decide +kernel
theorem d_Model_isListed_27 : decode prog_14_method_39_code 27 = .ok (.goto 4, 3) := by decide +kernel
theorem d_Model_isListed_30 : decode prog_14_method_39_code 30 = .ok (.iconst 0, 1) := by decide +kernel
theorem d_Model_isListed_31 : decode prog_14_method_39_code 31 = .ok (.istore_n 2, 1) := by decide +kernel
theorem d_Model_isListed_32 : decode prog_14_method_39_code 32 = .ok (.iinc 3 1, 3) := by decide +kernel
theorem d_Model_isListed_35 : decode prog_14_method_39_code 35 = .ok (.goto (-31), 3) := by decide +kernel
theorem d_Model_isListed_38 : decode prog_14_method_39_code 38 = .ok (.iload_n 2, 1) := by decide +kernel
theorem d_Model_isListed_39 : decode prog_14_method_39_code 39 = .ok (.ireturn, 1) := by decide +kernel
theorem d_Model_key_0 : decode prog_14_method_42_code 0 = .ok (.aload_n 0, 1) := by decide +kernel
theorem d_Model_key_1 : decode prog_14_method_42_code 1 = .ok (.iconst 0, 1) := by decide +kernel
theorem d_Model_key_2 : decode prog_14_method_42_code 2 = .ok (.putfield 95, 3) := by decide +kernel
theorem d_Model_key_5 : decode prog_14_method_42_code 5 = .ok (.iload_n 1, 1) := by decide +kernel
theorem d_Model_key_6 : decode prog_14_method_42_code 6 = .ok (.iconst 0, 1) := by decide +kernel
theorem d_Model_key_7 : decode prog_14_method_42_code 7 = .ok (.aload_n 0, 1) := by decide +kernel
theorem d_Model_key_8 : decode prog_14_method_42_code 8 = .ok (.getfield 210, 3) := by decide +kernel
theorem d_Model_key_11 : decode prog_14_method_42_code 11 = .ok (.iconst 1, 1) := by decide +kernel
theorem d_Model_key_12 : decode prog_14_method_42_code 12 = .ok (.isub, 1) := by decide +kernel
theorem d_Model_key_13 : decode prog_14_method_42_code 13 = .ok (.invokestatic 103, 3) := by decide +kernel
theorem d_Model_key_16 : decode prog_14_method_42_code 16 = .ok (.ifCond .eq 17, 3) := by decide +kernel
theorem d_Model_key_19 : decode prog_14_method_42_code 19 = .ok (.aload_n 0, 1) := by decide +kernel
theorem d_Model_key_20 : decode prog_14_method_42_code 20 = .ok (.getfield 22, 3) := by decide +kernel
theorem d_Model_key_23 : decode prog_14_method_42_code 23 = .ok (.aload_n 0, 1) := by decide +kernel
theorem d_Model_key_24 : decode prog_14_method_42_code 24 = .ok (.getfield 41, 3) := by decide +kernel
theorem d_Model_key_27 : decode prog_14_method_42_code 27 = .ok (.iload_n 1, 1) := by decide +kernel
theorem d_Model_key_28 : decode prog_14_method_42_code 28 = .ok (.iaload, 1) := by decide +kernel
theorem d_Model_key_29 : decode prog_14_method_42_code 29 = .ok (.laload, 1) := by decide +kernel
theorem d_Model_key_30 : decode prog_14_method_42_code 30 = .ok (.goto 9, 3) := by decide +kernel
theorem d_Model_key_33 : decode prog_14_method_42_code 33 = .ok (.aload_n 0, 1) := by decide +kernel
theorem d_Model_key_34 : decode prog_14_method_42_code 34 = .ok (.iconst 1, 1) := by decide +kernel
theorem d_Model_key_35 : decode prog_14_method_42_code 35 = .ok (.invokevirtual 128, 3) := by decide +kernel
theorem d_Model_key_38 : decode prog_14_method_42_code 38 = .ok (.i2l, 1) := by decide +kernel
theorem d_Model_key_39 : decode prog_14_method_42_code 39 = .ok (.lreturn, 1) := by decide +kernel
theorem d_Model_sort_0 : decode prog_14_method_44_code 0 = .ok (.aload_n 0, 1) := by decide +kernel
theorem d_Model_sort_1 : decode prog_14_method_44_code 1 = .ok (.iconst 0, 1) := by decide +kernel
theorem d_Model_sort_2 : decode prog_14_method_44_code 2 = .ok (.putfield 95, 3) := by decide +kernel
theorem d_Model_sort_5 : decode prog_14_method_44_code 5 = .ok (.iconst 0, 1) := by decide +kernel
theorem d_Model_sort_6 : decode prog_14_method_44_code 6 = .ok (.istore_n 1, 1) := by decide +kernel
theorem d_Model_sort_7 : decode prog_14_method_44_code 7 = .ok (.iconst 1, 1) := by decide +kernel
theorem d_Model_sort_8 : decode prog_14_method_44_code 8 = .ok (.istore_n 2, 1) := by decide +kernel
theorem d_Model_sort_9 : decode prog_14_method_44_code 9 = .ok (.iload_n 2, 1) := by decide +kernel
theorem d_Model_sort_10 : decode prog_14_method_44_code 10 = .ok (.aload_n 0, 1) := by decide +kernel
theorem d_Model_sort_11 : decode prog_14_method_44_code 11 = .ok (.getfield 210, 3) := by decide +kernel
theorem d_Model_sort_14 : decode prog_14_method_44_code 14 = .ok (.if_icmp .ge 82, 3) := by decide +kernel
theorem d_Model_sort_17 : decode prog_14_method_44_code 17 = .ok (.iload_n 2, 1) := by decide +kernel
theorem d_Model_sort_18 : decode prog_14_method_44_code 18 = .ok (.istore_n 3, 1) := by decide +kernel
theorem d_Model_sort_19 : decode prog_14_method_44_code 19 = .ok (.iload_n 3, 1) := by decide +kernel
theorem d_Model_sort_20 : decode prog_14_method_44_code 20 = .ok (.ifCond .le 70, 3) := by decide +kernel
theorem d_Model_sort_23 : decode prog_14_method_44_code 23 = .ok (.aload_n 0, 1) := by decide +kernel
theorem d_Model_sort_24 : decode prog_14_method_44_code 24 = .ok (.bipush 62, 2) := by decide +kernel
theorem d_Model_sort_26 : decode prog_14_method_44_code 26 = .ok (.aload_n 0, 1) := by decide +kernel
theorem d_Model_sort_27 : decode prog_14_method_44_code 27 = .ok (.getfield 41, 3) := by decide +kernel
theorem d_Model_sort_30 : decode prog_14_method_44_code 30 = .ok (.iload_n 3, 1) := by decide +kernel
theorem d_Model_sort_31 : decode prog_14_method_44_code 31 = .ok (.iaload, 1) := by decide +kernel
theorem d_Model_sort_32 : decode prog_14_method_44_code 32 = .ok (.iadd, 1) := by decide +kernel
theorem d_Model_sort_33 : decode prog_14_method_44_code 33 = .ok (.bipush 62, 2) := by decide +kernel
theorem d_Model_sort_35 : decode prog_14_method_44_code 35 = .ok (.aload_n 0, 1) := by decide +kernel
theorem d_Model_sort_36 : decode prog_14_method_44_code 36 = .ok (.getfield 41, 3) := by decide +kernel
theorem d_Model_sort_39 : decode prog_14_method_44_code 39 = .ok (.iload_n 3, 1) := by decide +kernel
theorem d_Model_sort_40 : decode prog_14_method_44_code 40 = .ok (.iconst 1, 1) := by decide +kernel
theorem d_Model_sort_41 : decode prog_14_method_44_code 41 = .ok (.isub, 1) := by decide +kernel
theorem d_Model_sort_42 : decode prog_14_method_44_code 42 = .ok (.iaload, 1) := by decide +kernel
theorem d_Model_sort_43 : decode prog_14_method_44_code 43 = .ok (.iadd, 1) := by decide +kernel
theorem d_Model_sort_44 : decode prog_14_method_44_code 44 = .ok (.invokevirtual 243, 3) := by decide +kernel
theorem d_Model_sort_47 : decode prog_14_method_44_code 47 = .ok (.ifCond .eq 43, 3) := by decide +kernel
theorem d_Model_sort_50 : decode prog_14_method_44_code 50 = .ok (.aload_n 0, 1) := by decide +kernel
theorem d_Model_sort_51 : decode prog_14_method_44_code 51 = .ok (.getfield 41, 3) := by decide +kernel
theorem d_Model_sort_54 : decode prog_14_method_44_code 54 = .ok (.iload_n 3, 1) := by decide +kernel
theorem d_Model_sort_55 : decode prog_14_method_44_code 55 = .ok (.iaload, 1) := by decide +kernel
theorem d_Model_sort_56 : decode prog_14_method_44_code 56 = .ok (.istore 4, 2) := by decide +kernel
theorem d_Model_sort_58 : decode prog_14_method_44_code 58 = .ok (.aload_n 0, 1) := by decide +kernel
theorem d_Model_sort_59 : decode prog_14_method_44_code 59 = .ok (.getfield 41, 3) := by decide +kernel
theorem d_Model_sort_62 : decode prog_14_method_44_code 62 = .ok (.iload_n 3, 1) := by decide +kernel
theorem d_Model_sort_63 : decode prog_14_method_44_code 63 = .ok (.aload_n 0, 1) := by decide +kernel
theorem d_Model_sort_64 : decode prog_14_method_44_code 64 = .ok (.getfield 41, 3) := by decide +kernel
theorem d_Model_sort_67 : decode prog_14_method_44_code 67 = .ok (.iload_n 3, 1) := by decide +kernel
theorem d_Model_sort_68 : decode prog_14_method_44_code 68 = .ok (.iconst 1, 1) := by decide +kernel
theorem d_Model_sort_69 : decode prog_14_method_44_code 69 = .ok (.isub, 1) := by decide +kernel
theorem d_Model_sort_70 : decode prog_14_method_44_code 70 = .ok (.iaload, 1) := by decide +kernel
theorem d_Model_sort_71 : decode prog_14_method_44_code 71 = .ok (.iastore, 1) := by decide +kernel
theorem d_Model_sort_72 : decode prog_14_method_44_code 72 = .ok (.aload_n 0, 1) := by decide +kernel
theorem d_Model_sort_73 : decode prog_14_method_44_code 73 = .ok (.getfield 41, 3) := by decide +kernel
theorem d_Model_sort_76 : decode prog_14_method_44_code 76 = .ok (.iload_n 3, 1) := by decide +kernel
theorem d_Model_sort_77 : decode prog_14_method_44_code 77 = .ok (.iconst 1, 1) := by decide +kernel
theorem d_Model_sort_78 : decode prog_14_method_44_code 78 = .ok (.isub, 1) := by decide +kernel
theorem d_Model_sort_79 : decode prog_14_method_44_code 79 = .ok (.iload 4, 2) := by decide +kernel
theorem d_Model_sort_81 : decode prog_14_method_44_code 81 = .ok (.iastore, 1) := by decide +kernel
theorem d_Model_sort_82 : decode prog_14_method_44_code 82 = .ok (.iconst 1, 1) := by decide +kernel
theorem d_Model_sort_83 : decode prog_14_method_44_code 83 = .ok (.istore_n 1, 1) := by decide +kernel
theorem d_Model_sort_84 : decode prog_14_method_44_code 84 = .ok (.iinc 3 (-1), 3) := by decide +kernel
theorem d_Model_sort_87 : decode prog_14_method_44_code 87 = .ok (.goto (-68), 3) := by decide +kernel
theorem d_Model_sort_90 : decode prog_14_method_44_code 90 = .ok (.iinc 2 1, 3) := by decide +kernel
theorem d_Model_sort_93 : decode prog_14_method_44_code 93 = .ok (.goto (-84), 3) := by decide +kernel
theorem d_Model_sort_96 : decode prog_14_method_44_code 96 = .ok (.iload_n 1, 1) := by decide +kernel
theorem d_Model_sort_97 : decode prog_14_method_44_code 97 = .ok (.ireturn, 1) := by decide +kernel
theorem d_Model_before_0 : decode prog_14_method_43_code 0 = .ok (.iconst 0, 1) := by decide +kernel
theorem d_Model_before_1 : decode prog_14_method_43_code 1 = .ok (.istore_n 3, 1) := by decide +kernel
theorem d_Model_before_2 : decode prog_14_method_43_code 2 = .ok (.iload_n 3, 1) := by decide +kernel
theorem d_Model_before_3 : decode prog_14_method_43_code 3 = .ok (.aload_n 0, 1) := by decide +kernel
theorem d_Model_before_4 : decode prog_14_method_43_code 4 = .ok (.getfield 16, 3) := by decide +kernel
theorem d_Model_before_7 : decode prog_14_method_43_code 7 = .ok (.iload_n 1, 1) := by decide +kernel
theorem d_Model_before_8 : decode prog_14_method_43_code 8 = .ok (.iaload, 1) := by decide +kernel
theorem d_Model_before_9 : decode prog_14_method_43_code 9 = .ok (.if_icmp .ge 55, 3) := by decide +kernel
theorem d_Model_before_12 : decode prog_14_method_43_code 12 = .ok (.iload_n 3, 1) := by decide +kernel
theorem d_Model_before_13 : decode prog_14_method_43_code 13 = .ok (.aload_n 0, 1) := by decide +kernel
theorem d_Model_before_14 : decode prog_14_method_43_code 14 = .ok (.getfield 16, 3) := by decide +kernel
theorem d_Model_before_17 : decode prog_14_method_43_code 17 = .ok (.iload_n 2, 1) := by decide +kernel
theorem d_Model_before_18 : decode prog_14_method_43_code 18 = .ok (.iaload, 1) := by decide +kernel
theorem d_Model_before_19 : decode prog_14_method_43_code 19 = .ok (.if_icmp .ge 45, 3) := by decide +kernel
theorem d_Model_before_22 : decode prog_14_method_43_code 22 = .ok (.aload_n 0, 1) := by decide +kernel
theorem d_Model_before_23 : decode prog_14_method_43_code 23 = .ok (.iload_n 1, 1) := by decide +kernel
theorem d_Model_before_24 : decode prog_14_method_43_code 24 = .ok (.iload_n 3, 1) := by decide +kernel
theorem d_Model_before_25 : decode prog_14_method_43_code 25 = .ok (.invokevirtual 99, 3) := by decide +kernel
theorem d_Model_before_28 : decode prog_14_method_43_code 28 = .ok (.aload_n 0, 1) := by decide +kernel
theorem d_Model_before_29 : decode prog_14_method_43_code 29 = .ok (.iload_n 2, 1) := by decide +kernel
theorem d_Model_before_30 : decode prog_14_method_43_code 30 = .ok (.iload_n 3, 1) := by decide +kernel
theorem d_Model_before_31 : decode prog_14_method_43_code 31 = .ok (.invokevirtual 99, 3) := by decide +kernel
theorem d_Model_before_34 : decode prog_14_method_43_code 34 = .ok (.if_icmp .eq 24, 3) := by decide +kernel
theorem d_Model_before_37 : decode prog_14_method_43_code 37 = .ok (.aload_n 0, 1) := by decide +kernel
theorem d_Model_before_38 : decode prog_14_method_43_code 38 = .ok (.iload_n 1, 1) := by decide +kernel
theorem d_Model_before_39 : decode prog_14_method_43_code 39 = .ok (.iload_n 3, 1) := by decide +kernel
theorem d_Model_before_40 : decode prog_14_method_43_code 40 = .ok (.invokevirtual 99, 3) := by decide +kernel
theorem d_Model_before_43 : decode prog_14_method_43_code 43 = .ok (.aload_n 0, 1) := by decide +kernel
theorem d_Model_before_44 : decode prog_14_method_43_code 44 = .ok (.iload_n 2, 1) := by decide +kernel
theorem d_Model_before_45 : decode prog_14_method_43_code 45 = .ok (.iload_n 3, 1) := by decide +kernel
theorem d_Model_before_46 : decode prog_14_method_43_code 46 = .ok (.invokevirtual 99, 3) := by decide +kernel
theorem d_Model_before_49 : decode prog_14_method_43_code 49 = .ok (.if_icmp .ge 7, 3) := by decide +kernel
theorem d_Model_before_52 : decode prog_14_method_43_code 52 = .ok (.iconst 1, 1) := by decide +kernel
theorem d_Model_before_53 : decode prog_14_method_43_code 53 = .ok (.goto 4, 3) := by decide +kernel
theorem d_Model_before_56 : decode prog_14_method_43_code 56 = .ok (.iconst 0, 1) := by decide +kernel
theorem d_Model_before_57 : decode prog_14_method_43_code 57 = .ok (.ireturn, 1) := by decide +kernel
theorem d_Model_before_58 : decode prog_14_method_43_code 58 = .ok (.iinc 3 1, 3) := by decide +kernel
theorem d_Model_before_61 : decode prog_14_method_43_code 61 = .ok (.goto (-59), 3) := by decide +kernel
theorem d_Model_before_64 : decode prog_14_method_43_code 64 = .ok (.aload_n 0, 1) := by decide +kernel
theorem d_Model_before_65 : decode prog_14_method_43_code 65 = .ok (.getfield 16, 3) := by decide +kernel
theorem d_Model_before_68 : decode prog_14_method_43_code 68 = .ok (.iload_n 1, 1) := by decide +kernel
theorem d_Model_before_69 : decode prog_14_method_43_code 69 = .ok (.iaload, 1) := by decide +kernel
theorem d_Model_before_70 : decode prog_14_method_43_code 70 = .ok (.aload_n 0, 1) := by decide +kernel
theorem d_Model_before_71 : decode prog_14_method_43_code 71 = .ok (.getfield 16, 3) := by decide +kernel
theorem d_Model_before_74 : decode prog_14_method_43_code 74 = .ok (.iload_n 2, 1) := by decide +kernel
theorem d_Model_before_75 : decode prog_14_method_43_code 75 = .ok (.iaload, 1) := by decide +kernel
theorem d_Model_before_76 : decode prog_14_method_43_code 76 = .ok (.if_icmp .ge 7, 3) := by decide +kernel
theorem d_Model_before_79 : decode prog_14_method_43_code 79 = .ok (.iconst 1, 1) := by decide +kernel
theorem d_Model_before_80 : decode prog_14_method_43_code 80 = .ok (.goto 4, 3) := by decide +kernel
theorem d_Model_before_83 : decode prog_14_method_43_code 83 = .ok (.iconst 0, 1) := by decide +kernel
theorem d_Model_before_84 : decode prog_14_method_43_code 84 = .ok (.ireturn, 1) := by decide +kernel
theorem d_Model_field_0 : decode prog_14_method_46_code 0 = .ok (.aload_n 0, 1) := by decide +kernel
theorem d_Model_field_1 : decode prog_14_method_46_code 1 = .ok (.iconst 0, 1) := by decide +kernel
theorem d_Model_field_2 : decode prog_14_method_46_code 2 = .ok (.putfield 95, 3) := by decide +kernel
theorem d_Model_field_5 : decode prog_14_method_46_code 5 = .ok (.iload_n 1, 1) := by decide +kernel
theorem d_Model_field_6 : decode prog_14_method_46_code 6 = .ok (.iconst 0, 1) := by decide +kernel
theorem d_Model_field_7 : decode prog_14_method_46_code 7 = .ok (.aload_n 0, 1) := by decide +kernel
theorem d_Model_field_8 : decode prog_14_method_46_code 8 = .ok (.getfield 210, 3) := by decide +kernel
theorem d_Model_field_11 : decode prog_14_method_46_code 11 = .ok (.iconst 1, 1) := by decide +kernel
theorem d_Model_field_12 : decode prog_14_method_46_code 12 = .ok (.isub, 1) := by decide +kernel
theorem d_Model_field_13 : decode prog_14_method_46_code 13 = .ok (.invokestatic 103, 3) := by decide +kernel
theorem d_Model_field_16 : decode prog_14_method_46_code 16 = .ok (.ifCond .ne 9, 3) := by decide +kernel
theorem d_Model_field_19 : decode prog_14_method_46_code 19 = .ok (.aload_n 0, 1) := by decide +kernel
theorem d_Model_field_20 : decode prog_14_method_46_code 20 = .ok (.iconst 1, 1) := by decide +kernel
theorem d_Model_field_21 : decode prog_14_method_46_code 21 = .ok (.invokevirtual 128, 3) := by decide +kernel
theorem d_Model_field_24 : decode prog_14_method_46_code 24 = .ok (.ireturn, 1) := by decide +kernel
theorem d_Model_field_25 : decode prog_14_method_46_code 25 = .ok (.aload_n 0, 1) := by decide +kernel
theorem d_Model_field_26 : decode prog_14_method_46_code 26 = .ok (.aload_n 0, 1) := by decide +kernel
theorem d_Model_field_27 : decode prog_14_method_46_code 27 = .ok (.getfield 41, 3) := by decide +kernel
theorem d_Model_field_30 : decode prog_14_method_46_code 30 = .ok (.iload_n 1, 1) := by decide +kernel
theorem d_Model_field_31 : decode prog_14_method_46_code 31 = .ok (.iaload, 1) := by decide +kernel
theorem d_Model_field_32 : decode prog_14_method_46_code 32 = .ok (.lload_n 2, 1) := by decide +kernel
theorem d_Model_field_33 : decode prog_14_method_46_code 33 = .ok (.invokestatic 224, 3) := by decide +kernel
theorem d_Model_field_36 : decode prog_14_method_46_code 36 = .ok (.invokevirtual 247, 3) := by decide +kernel
theorem d_Model_field_39 : decode prog_14_method_46_code 39 = .ok (.istore 5, 2) := by decide +kernel
theorem d_Model_field_41 : decode prog_14_method_46_code 41 = .ok (.iload 5, 2) := by decide +kernel
theorem d_Model_field_43 : decode prog_14_method_46_code 43 = .ok (.ifCond .ge 9, 3) := by decide +kernel
theorem d_Model_field_46 : decode prog_14_method_46_code 46 = .ok (.aload_n 0, 1) := by decide +kernel
theorem d_Model_field_47 : decode prog_14_method_46_code 47 = .ok (.iconst 2, 1) := by decide +kernel
theorem d_Model_field_48 : decode prog_14_method_46_code 48 = .ok (.invokevirtual 128, 3) := by decide +kernel
theorem d_Model_field_51 : decode prog_14_method_46_code 51 = .ok (.ireturn, 1) := by decide +kernel
theorem d_Model_field_52 : decode prog_14_method_46_code 52 = .ok (.iload 4, 2) := by decide +kernel
theorem d_Model_field_54 : decode prog_14_method_46_code 54 = .ok (.iconst 0, 1) := by decide +kernel
theorem d_Model_field_55 : decode prog_14_method_46_code 55 = .ok (.aload_n 0, 1) := by decide +kernel
theorem d_Model_field_56 : decode prog_14_method_46_code 56 = .ok (.getfield 16, 3) := by decide +kernel
theorem d_Model_field_59 : decode prog_14_method_46_code 59 = .ok (.iload 5, 2) := by decide +kernel
theorem d_Model_field_61 : decode prog_14_method_46_code 61 = .ok (.iaload, 1) := by decide +kernel
theorem d_Model_field_62 : decode prog_14_method_46_code 62 = .ok (.iconst 1, 1) := by decide +kernel
theorem d_Model_field_63 : decode prog_14_method_46_code 63 = .ok (.isub, 1) := by decide +kernel
theorem d_Model_field_64 : decode prog_14_method_46_code 64 = .ok (.invokestatic 103, 3) := by decide +kernel
theorem d_Model_field_67 : decode prog_14_method_46_code 67 = .ok (.ifCond .eq 14, 3) := by decide +kernel
theorem d_Model_field_70 : decode prog_14_method_46_code 70 = .ok (.aload_n 0, 1) := by decide +kernel
theorem d_Model_field_71 : decode prog_14_method_46_code 71 = .ok (.iload 5, 2) := by decide +kernel
theorem d_Model_field_73 : decode prog_14_method_46_code 73 = .ok (.iload 4, 2) := by decide +kernel
theorem d_Model_field_75 : decode prog_14_method_46_code 75 = .ok (.invokevirtual 99, 3) := by decide +kernel
theorem d_Model_field_78 : decode prog_14_method_46_code 78 = .ok (.goto 8, 3) := by decide +kernel
theorem d_Model_field_81 : decode prog_14_method_46_code 81 = .ok (.aload_n 0, 1) := by decide +kernel
theorem d_Model_field_82 : decode prog_14_method_46_code 82 = .ok (.iconst 1, 1) := by decide +kernel
theorem d_Model_field_83 : decode prog_14_method_46_code 83 = .ok (.invokevirtual 128, 3) := by decide +kernel
theorem d_Model_field_86 : decode prog_14_method_46_code 86 = .ok (.ireturn, 1) := by decide +kernel
theorem d_Model_fieldOf_0 : decode prog_14_method_45_code 0 = .ok (.aload_n 0, 1) := by decide +kernel
theorem d_Model_fieldOf_1 : decode prog_14_method_45_code 1 = .ok (.iload_n 1, 1) := by decide +kernel
theorem d_Model_fieldOf_2 : decode prog_14_method_45_code 2 = .ok (.lload_n 2, 1) := by decide +kernel
theorem d_Model_fieldOf_3 : decode prog_14_method_45_code 3 = .ok (.invokevirtual 197, 3) := by decide +kernel
theorem d_Model_fieldOf_6 : decode prog_14_method_45_code 6 = .ok (.istore 4, 2) := by decide +kernel
theorem d_Model_fieldOf_8 : decode prog_14_method_45_code 8 = .ok (.iload 4, 2) := by decide +kernel
theorem d_Model_fieldOf_10 : decode prog_14_method_45_code 10 = .ok (.ifCond .ge 11, 3) := by decide +kernel
theorem d_Model_fieldOf_13 : decode prog_14_method_45_code 13 = .ok (.lload_n 2, 1) := by decide +kernel
theorem d_Model_fieldOf_14 : decode prog_14_method_45_code 14 = .ok (.ldc2_w 231, 3) := by decide +kernel
theorem d_Model_fieldOf_17 : decode prog_14_method_45_code 17 = .ok (.lcmp, 1) := by decide +kernel
theorem d_Model_fieldOf_18 : decode prog_14_method_45_code 18 = .ok (.ifCond .ne 6, 3) := by decide +kernel
theorem d_Model_fieldOf_21 : decode prog_14_method_45_code 21 = .ok (.iload 4, 2) := by decide +kernel
theorem d_Model_fieldOf_23 : decode prog_14_method_45_code 23 = .ok (.ireturn, 1) := by decide +kernel
theorem d_Model_fieldOf_24 : decode prog_14_method_45_code 24 = .ok (.aload_n 0, 1) := by decide +kernel
theorem d_Model_fieldOf_25 : decode prog_14_method_45_code 25 = .ok (.iload_n 1, 1) := by decide +kernel
theorem d_Model_fieldOf_26 : decode prog_14_method_45_code 26 = .ok (.invokevirtual 237, 3) := by decide +kernel
theorem d_Model_fieldOf_29 : decode prog_14_method_45_code 29 = .ok (.lconst 0, 1) := by decide +kernel
theorem d_Model_fieldOf_30 : decode prog_14_method_45_code 30 = .ok (.lcmp, 1) := by decide +kernel
theorem d_Model_fieldOf_31 : decode prog_14_method_45_code 31 = .ok (.ifCond .ne 7, 3) := by decide +kernel
theorem d_Model_fieldOf_34 : decode prog_14_method_45_code 34 = .ok (.iconst (-1), 1) := by decide +kernel
theorem d_Model_fieldOf_35 : decode prog_14_method_45_code 35 = .ok (.goto 12, 3) := by decide +kernel
theorem d_Model_fieldOf_38 : decode prog_14_method_45_code 38 = .ok (.aload_n 0, 1) := by decide +kernel
theorem d_Model_fieldOf_39 : decode prog_14_method_45_code 39 = .ok (.aload_n 0, 1) := by decide +kernel
theorem d_Model_fieldOf_40 : decode prog_14_method_45_code 40 = .ok (.iload_n 1, 1) := by decide +kernel
theorem d_Model_fieldOf_41 : decode prog_14_method_45_code 41 = .ok (.invokevirtual 237, 3) := by decide +kernel
theorem d_Model_fieldOf_44 : decode prog_14_method_45_code 44 = .ok (.invokevirtual 207, 3) := by decide +kernel
theorem d_Model_fieldOf_47 : decode prog_14_method_45_code 47 = .ok (.istore 5, 2) := by decide +kernel
theorem d_Model_fieldOf_49 : decode prog_14_method_45_code 49 = .ok (.iload 5, 2) := by decide +kernel
theorem d_Model_fieldOf_51 : decode prog_14_method_45_code 51 = .ok (.ifCond .ge 7, 3) := by decide +kernel
theorem d_Model_fieldOf_54 : decode prog_14_method_45_code 54 = .ok (.iconst (-1), 1) := by decide +kernel
theorem d_Model_fieldOf_55 : decode prog_14_method_45_code 55 = .ok (.goto 10, 3) := by decide +kernel
theorem d_Model_fieldOf_58 : decode prog_14_method_45_code 58 = .ok (.aload_n 0, 1) := by decide +kernel
theorem d_Model_fieldOf_59 : decode prog_14_method_45_code 59 = .ok (.iload 5, 2) := by decide +kernel
theorem d_Model_fieldOf_61 : decode prog_14_method_45_code 61 = .ok (.lload_n 2, 1) := by decide +kernel
theorem d_Model_fieldOf_62 : decode prog_14_method_45_code 62 = .ok (.invokevirtual 197, 3) := by decide +kernel
theorem d_Model_fieldOf_65 : decode prog_14_method_45_code 65 = .ok (.ireturn, 1) := by decide +kernel
theorem d_Model_define_0 : decode prog_14_method_47_code 0 = .ok (.aload_n 0, 1) := by decide +kernel
theorem d_Model_define_1 : decode prog_14_method_47_code 1 = .ok (.iconst 0, 1) := by decide +kernel
theorem d_Model_define_2 : decode prog_14_method_47_code 2 = .ok (.putfield 95, 3) := by decide +kernel
theorem d_Model_define_5 : decode prog_14_method_47_code 5 = .ok (.iload_n 1, 1) := by decide +kernel
theorem d_Model_define_6 : decode prog_14_method_47_code 6 = .ok (.iconst 0, 1) := by decide +kernel
theorem d_Model_define_7 : decode prog_14_method_47_code 7 = .ok (.iconst 5, 1) := by decide +kernel
theorem d_Model_define_8 : decode prog_14_method_47_code 8 = .ok (.invokestatic 103, 3) := by decide +kernel
theorem d_Model_define_11 : decode prog_14_method_47_code 11 = .ok (.ifCond .eq 13, 3) := by decide +kernel
theorem d_Model_define_14 : decode prog_14_method_47_code 14 = .ok (.iload_n 2, 1) := by decide +kernel
theorem d_Model_define_15 : decode prog_14_method_47_code 15 = .ok (.iconst 0, 1) := by decide +kernel
theorem d_Model_define_16 : decode prog_14_method_47_code 16 = .ok (.bipush 29, 2) := by decide +kernel
theorem d_Model_define_18 : decode prog_14_method_47_code 18 = .ok (.invokestatic 103, 3) := by decide +kernel
theorem d_Model_define_21 : decode prog_14_method_47_code 21 = .ok (.ifCond .ne 9, 3) := by decide +kernel
theorem d_Model_define_24 : decode prog_14_method_47_code 24 = .ok (.aload_n 0, 1) := by decide +kernel
theorem d_Model_define_25 : decode prog_14_method_47_code 25 = .ok (.iconst 1, 1) := by decide +kernel
theorem d_Model_define_26 : decode prog_14_method_47_code 26 = .ok (.invokevirtual 128, 3) := by decide +kernel
theorem d_Model_define_29 : decode prog_14_method_47_code 29 = .ok (.ireturn, 1) := by decide +kernel
theorem d_Model_define_30 : decode prog_14_method_47_code 30 = .ok (.aload_n 0, 1) := by decide +kernel
theorem d_Model_define_31 : decode prog_14_method_47_code 31 = .ok (.getfield 44, 3) := by decide +kernel
theorem d_Model_define_34 : decode prog_14_method_47_code 34 = .ok (.iload_n 1, 1) := by decide +kernel
theorem d_Model_define_35 : decode prog_14_method_47_code 35 = .ok (.iaload, 1) := by decide +kernel
theorem d_Model_define_36 : decode prog_14_method_47_code 36 = .ok (.bipush 24, 2) := by decide +kernel
theorem d_Model_define_38 : decode prog_14_method_47_code 38 = .ok (.if_icmp .ne 9, 3) := by decide +kernel
theorem d_Model_define_41 : decode prog_14_method_47_code 41 = .ok (.aload_n 0, 1) := by decide +kernel
theorem d_Model_define_42 : decode prog_14_method_47_code 42 = .ok (.iconst 2, 1) := by decide +kernel
theorem d_Model_define_43 : decode prog_14_method_47_code 43 = .ok (.invokevirtual 128, 3) := by decide +kernel
theorem d_Model_define_46 : decode prog_14_method_47_code 46 = .ok (.ireturn, 1) := by decide +kernel
theorem d_Model_define_47 : decode prog_14_method_47_code 47 = .ok (.aload_n 0, 1) := by decide +kernel
theorem d_Model_define_48 : decode prog_14_method_47_code 48 = .ok (.getfield 47, 3) := by decide +kernel
theorem d_Model_define_51 : decode prog_14_method_47_code 51 = .ok (.bipush 24, 2) := by decide +kernel
theorem d_Model_define_53 : decode prog_14_method_47_code 53 = .ok (.iload_n 1, 1) := by decide +kernel
theorem d_Model_define_54 : decode prog_14_method_47_code 54 = .ok (.imul, 1) := by decide +kernel
theorem d_Model_define_55 : decode prog_14_method_47_code 55 = .ok (.aload_n 0, 1) := by decide +kernel
theorem d_Model_define_56 : decode prog_14_method_47_code 56 = .ok (.getfield 44, 3) := by decide +kernel
theorem d_Model_define_59 : decode prog_14_method_47_code 59 = .ok (.iload_n 1, 1) := by decide +kernel
theorem d_Model_define_60 : decode prog_14_method_47_code 60 = .ok (.iaload, 1) := by decide +kernel
theorem d_Model_define_61 : decode prog_14_method_47_code 61 = .ok (.iadd, 1) := by decide +kernel
theorem d_Model_define_62 : decode prog_14_method_47_code 62 = .ok (.iload_n 2, 1) := by decide +kernel
theorem d_Model_define_63 : decode prog_14_method_47_code 63 = .ok (.iastore, 1) := by decide +kernel
theorem d_Model_define_64 : decode prog_14_method_47_code 64 = .ok (.aload_n 0, 1) := by decide +kernel
theorem d_Model_define_65 : decode prog_14_method_47_code 65 = .ok (.getfield 50, 3) := by decide +kernel
theorem d_Model_define_68 : decode prog_14_method_47_code 68 = .ok (.bipush 24, 2) := by decide +kernel
theorem d_Model_define_70 : decode prog_14_method_47_code 70 = .ok (.iload_n 1, 1) := by decide +kernel
theorem d_Model_define_71 : decode prog_14_method_47_code 71 = .ok (.imul, 1) := by decide +kernel
theorem d_Model_define_72 : decode prog_14_method_47_code 72 = .ok (.aload_n 0, 1) := by decide +kernel
theorem d_Model_define_73 : decode prog_14_method_47_code 73 = .ok (.getfield 44, 3) := by decide +kernel
theorem d_Model_define_76 : decode prog_14_method_47_code 76 = .ok (.iload_n 1, 1) := by decide +kernel
theorem d_Model_define_77 : decode prog_14_method_47_code 77 = .ok (.iaload, 1) := by decide +kernel
theorem d_Model_define_78 : decode prog_14_method_47_code 78 = .ok (.iadd, 1) := by decide +kernel
theorem d_Model_define_79 : decode prog_14_method_47_code 79 = .ok (.lload_n 3, 1) := by decide +kernel
theorem d_Model_define_80 : decode prog_14_method_47_code 80 = .ok (.lastore, 1) := by decide +kernel
theorem d_Model_define_81 : decode prog_14_method_47_code 81 = .ok (.aload_n 0, 1) := by decide +kernel
theorem d_Model_define_82 : decode prog_14_method_47_code 82 = .ok (.getfield 44, 3) := by decide +kernel
theorem d_Model_define_85 : decode prog_14_method_47_code 85 = .ok (.iload_n 1, 1) := by decide +kernel
theorem d_Model_define_86 : decode prog_14_method_47_code 86 = .ok (.dup2, 1) := by decide +kernel
theorem d_Model_define_87 : decode prog_14_method_47_code 87 = .ok (.iaload, 1) := by decide +kernel
theorem d_Model_define_88 : decode prog_14_method_47_code 88 = .ok (.iconst 1, 1) := by decide +kernel
theorem d_Model_define_89 : decode prog_14_method_47_code 89 = .ok (.iadd, 1) := by decide +kernel
theorem d_Model_define_90 : decode prog_14_method_47_code 90 = .ok (.iastore, 1) := by decide +kernel
theorem d_Model_define_91 : decode prog_14_method_47_code 91 = .ok (.aload_n 0, 1) := by decide +kernel
theorem d_Model_define_92 : decode prog_14_method_47_code 92 = .ok (.getfield 44, 3) := by decide +kernel
theorem d_Model_define_95 : decode prog_14_method_47_code 95 = .ok (.iload_n 1, 1) := by decide +kernel
theorem d_Model_define_96 : decode prog_14_method_47_code 96 = .ok (.iaload, 1) := by decide +kernel
theorem d_Model_define_97 : decode prog_14_method_47_code 97 = .ok (.ireturn, 1) := by decide +kernel
theorem d_Model_clear_0 : decode prog_14_method_48_code 0 = .ok (.aload_n 0, 1) := by decide +kernel
theorem d_Model_clear_1 : decode prog_14_method_48_code 1 = .ok (.iconst 0, 1) := by decide +kernel
theorem d_Model_clear_2 : decode prog_14_method_48_code 2 = .ok (.putfield 95, 3) := by decide +kernel
theorem d_Model_clear_5 : decode prog_14_method_48_code 5 = .ok (.iload_n 1, 1) := by decide +kernel
theorem d_Model_clear_6 : decode prog_14_method_48_code 6 = .ok (.iconst 0, 1) := by decide +kernel
theorem d_Model_clear_7 : decode prog_14_method_48_code 7 = .ok (.iconst 5, 1) := by decide +kernel
theorem d_Model_clear_8 : decode prog_14_method_48_code 8 = .ok (.invokestatic 103, 3) := by decide +kernel
theorem d_Model_clear_11 : decode prog_14_method_48_code 11 = .ok (.ifCond .ne 9, 3) := by decide +kernel
theorem d_Model_clear_14 : decode prog_14_method_48_code 14 = .ok (.aload_n 0, 1) := by decide +kernel
theorem d_Model_clear_15 : decode prog_14_method_48_code 15 = .ok (.iconst 1, 1) := by decide +kernel
theorem d_Model_clear_16 : decode prog_14_method_48_code 16 = .ok (.invokevirtual 128, 3) := by decide +kernel
theorem d_Model_clear_19 : decode prog_14_method_48_code 19 = .ok (.ireturn, 1) := by decide +kernel
theorem d_Model_clear_20 : decode prog_14_method_48_code 20 = .ok (.aload_n 0, 1) := by decide +kernel
theorem d_Model_clear_21 : decode prog_14_method_48_code 21 = .ok (.getfield 44, 3) := by decide +kernel
theorem d_Model_clear_24 : decode prog_14_method_48_code 24 = .ok (.iload_n 1, 1) := by decide +kernel
theorem d_Model_clear_25 : decode prog_14_method_48_code 25 = .ok (.iaload, 1) := by decide +kernel
theorem d_Model_clear_26 : decode prog_14_method_48_code 26 = .ok (.istore_n 2, 1) := by decide +kernel
theorem d_Model_clear_27 : decode prog_14_method_48_code 27 = .ok (.aload_n 0, 1) := by decide +kernel
theorem d_Model_clear_28 : decode prog_14_method_48_code 28 = .ok (.getfield 44, 3) := by decide +kernel
theorem d_Model_clear_31 : decode prog_14_method_48_code 31 = .ok (.iload_n 1, 1) := by decide +kernel
theorem d_Model_clear_32 : decode prog_14_method_48_code 32 = .ok (.iconst 0, 1) := by decide +kernel
theorem d_Model_clear_33 : decode prog_14_method_48_code 33 = .ok (.iastore, 1) := by decide +kernel
theorem d_Model_clear_34 : decode prog_14_method_48_code 34 = .ok (.iload_n 2, 1) := by decide +kernel
theorem d_Model_clear_35 : decode prog_14_method_48_code 35 = .ok (.ireturn, 1) := by decide +kernel
theorem d_Model_run_0 : decode prog_14_method_87_code 0 = .ok (.aload_n 0, 1) := by decide +kernel
theorem d_Model_run_1 : decode prog_14_method_87_code 1 = .ok (.iconst 0, 1) := by decide +kernel
theorem d_Model_run_2 : decode prog_14_method_87_code 2 = .ok (.putfield 95, 3) := by decide +kernel
theorem d_Model_run_5 : decode prog_14_method_87_code 5 = .ok (.iload_n 1, 1) := by decide +kernel
theorem d_Model_run_6 : decode prog_14_method_87_code 6 = .ok (.iconst 0, 1) := by decide +kernel
theorem d_Model_run_7 : decode prog_14_method_87_code 7 = .ok (.iconst 5, 1) := by decide +kernel
theorem d_Model_run_8 : decode prog_14_method_87_code 8 = .ok (.invokestatic 103, 3) := by decide +kernel
theorem d_Model_run_11 : decode prog_14_method_87_code 11 = .ok (.ifCond .eq 12, 3) := by decide +kernel
theorem d_Model_run_14 : decode prog_14_method_87_code 14 = .ok (.iload_n 2, 1) := by decide +kernel
theorem d_Model_run_15 : decode prog_14_method_87_code 15 = .ok (.iconst 0, 1) := by decide +kernel
theorem d_Model_run_16 : decode prog_14_method_87_code 16 = .ok (.iconst 2, 1) := by decide +kernel
theorem d_Model_run_17 : decode prog_14_method_87_code 17 = .ok (.invokestatic 103, 3) := by decide +kernel
theorem d_Model_run_20 : decode prog_14_method_87_code 20 = .ok (.ifCond .ne 9, 3) := by decide +kernel
theorem d_Model_run_23 : decode prog_14_method_87_code 23 = .ok (.aload_n 0, 1) := by decide +kernel
theorem d_Model_run_24 : decode prog_14_method_87_code 24 = .ok (.iconst 1, 1) := by decide +kernel
theorem d_Model_run_25 : decode prog_14_method_87_code 25 = .ok (.invokevirtual 128, 3) := by decide +kernel
theorem d_Model_run_28 : decode prog_14_method_87_code 28 = .ok (.ireturn, 1) := by decide +kernel
theorem d_Model_run_29 : decode prog_14_method_87_code 29 = .ok (.aload_n 0, 1) := by decide +kernel
theorem d_Model_run_30 : decode prog_14_method_87_code 30 = .ok (.iconst 0, 1) := by decide +kernel
theorem d_Model_run_31 : decode prog_14_method_87_code 31 = .ok (.putfield 389, 3) := by decide +kernel
theorem d_Model_run_34 : decode prog_14_method_87_code 34 = .ok (.aload_n 0, 1) := by decide +kernel
theorem d_Model_run_35 : decode prog_14_method_87_code 35 = .ok (.iconst 0, 1) := by decide +kernel
theorem d_Model_run_36 : decode prog_14_method_87_code 36 = .ok (.putfield 386, 3) := by decide +kernel
theorem d_Model_run_39 : decode prog_14_method_87_code 39 = .ok (.aload_n 0, 1) := by decide +kernel
theorem d_Model_run_40 : decode prog_14_method_87_code 40 = .ok (.iconst (-1), 1) := by decide +kernel
theorem d_Model_run_41 : decode prog_14_method_87_code 41 = .ok (.putfield 279, 3) := by decide +kernel
theorem d_Model_run_44 : decode prog_14_method_87_code 44 = .ok (.iload_n 2, 1) := by decide +kernel
theorem d_Model_run_45 : decode prog_14_method_87_code 45 = .ok (.ifCond .ne 8, 3) := by decide +kernel
theorem d_Model_run_48 : decode prog_14_method_87_code 48 = .ok (.aload_n 0, 1) := by decide +kernel
theorem d_Model_run_49 : decode prog_14_method_87_code 49 = .ok (.iload_n 1, 1) := by decide +kernel
theorem d_Model_run_50 : decode prog_14_method_87_code 50 = .ok (.invokevirtual 414, 3) := by decide +kernel
theorem d_Model_run_53 : decode prog_14_method_87_code 53 = .ok (.iconst 0, 1) := by decide +kernel
theorem d_Model_run_54 : decode prog_14_method_87_code 54 = .ok (.istore_n 3, 1) := by decide +kernel
theorem d_Model_run_55 : decode prog_14_method_87_code 55 = .ok (.iload_n 2, 1) := by decide +kernel
theorem d_Model_run_56 : decode prog_14_method_87_code 56 = .ok (.ifCond .le 55, 3) := by decide +kernel
theorem d_Model_run_59 : decode prog_14_method_87_code 59 = .ok (.iload_n 3, 1) := by decide +kernel
theorem d_Model_run_60 : decode prog_14_method_87_code 60 = .ok (.aload_n 0, 1) := by decide +kernel
theorem d_Model_run_61 : decode prog_14_method_87_code 61 = .ok (.getfield 210, 3) := by decide +kernel
theorem d_Model_run_64 : decode prog_14_method_87_code 64 = .ok (.if_icmp .ge 47, 3) := by decide +kernel
theorem d_Model_run_67 : decode prog_14_method_87_code 67 = .ok (.aload_n 0, 1) := by decide +kernel
theorem d_Model_run_68 : decode prog_14_method_87_code 68 = .ok (.getfield 386, 3) := by decide +kernel
theorem d_Model_run_71 : decode prog_14_method_87_code 71 = .ok (.ifCond .ne 40, 3) := by decide +kernel
theorem d_Model_run_74 : decode prog_14_method_87_code 74 = .ok (.aload_n 0, 1) := by decide +kernel
theorem d_Model_run_75 : decode prog_14_method_87_code 75 = .ok (.aload_n 0, 1) := by decide +kernel
theorem d_Model_run_76 : decode prog_14_method_87_code 76 = .ok (.getfield 41, 3) := by decide +kernel
theorem d_Model_run_79 : decode prog_14_method_87_code 79 = .ok (.iload_n 2, 1) := by decide +kernel
theorem d_Model_run_80 : decode prog_14_method_87_code 80 = .ok (.iconst 1, 1) := by decide +kernel
theorem d_Model_run_81 : decode prog_14_method_87_code 81 = .ok (.if_icmp .ne 7, 3) := by decide +kernel
theorem d_Model_run_84 : decode prog_14_method_87_code 84 = .ok (.iload_n 3, 1) := by decide +kernel
theorem d_Model_run_85 : decode prog_14_method_87_code 85 = .ok (.goto 11, 3) := by decide +kernel
theorem d_Model_run_88 : decode prog_14_method_87_code 88 = .ok (.aload_n 0, 1) := by decide +kernel
theorem d_Model_run_89 : decode prog_14_method_87_code 89 = .ok (.getfield 210, 3) := by decide +kernel
theorem d_Model_run_92 : decode prog_14_method_87_code 92 = .ok (.iconst 1, 1) := by decide +kernel
theorem d_Model_run_93 : decode prog_14_method_87_code 93 = .ok (.isub, 1) := by decide +kernel
theorem d_Model_run_94 : decode prog_14_method_87_code 94 = .ok (.iload_n 3, 1) := by decide +kernel
theorem d_Model_run_95 : decode prog_14_method_87_code 95 = .ok (.isub, 1) := by decide +kernel
theorem d_Model_run_96 : decode prog_14_method_87_code 96 = .ok (.iaload, 1) := by decide +kernel
theorem d_Model_run_97 : decode prog_14_method_87_code 97 = .ok (.putfield 279, 3) := by decide +kernel
theorem d_Model_run_100 : decode prog_14_method_87_code 100 = .ok (.aload_n 0, 1) := by decide +kernel
theorem d_Model_run_101 : decode prog_14_method_87_code 101 = .ok (.iload_n 1, 1) := by decide +kernel
theorem d_Model_run_102 : decode prog_14_method_87_code 102 = .ok (.invokevirtual 414, 3) := by decide +kernel
theorem d_Model_run_105 : decode prog_14_method_87_code 105 = .ok (.iinc 3 1, 3) := by decide +kernel
theorem d_Model_run_108 : decode prog_14_method_87_code 108 = .ok (.goto (-53), 3) := by decide +kernel
theorem d_Model_run_111 : decode prog_14_method_87_code 111 = .ok (.aload_n 0, 1) := by decide +kernel
theorem d_Model_run_112 : decode prog_14_method_87_code 112 = .ok (.getfield 386, 3) := by decide +kernel
theorem d_Model_run_115 : decode prog_14_method_87_code 115 = .ok (.ifCond .eq 11, 3) := by decide +kernel
theorem d_Model_run_118 : decode prog_14_method_87_code 118 = .ok (.aload_n 0, 1) := by decide +kernel
theorem d_Model_run_119 : decode prog_14_method_87_code 119 = .ok (.iconst 2, 1) := by decide +kernel
theorem d_Model_run_120 : decode prog_14_method_87_code 120 = .ok (.invokevirtual 128, 3) := by decide +kernel
theorem d_Model_run_123 : decode prog_14_method_87_code 123 = .ok (.goto 7, 3) := by decide +kernel
theorem d_Model_run_126 : decode prog_14_method_87_code 126 = .ok (.aload_n 0, 1) := by decide +kernel
theorem d_Model_run_127 : decode prog_14_method_87_code 127 = .ok (.getfield 389, 3) := by decide +kernel
theorem d_Model_run_130 : decode prog_14_method_87_code 130 = .ok (.ireturn, 1) := by decide +kernel
theorem d_Model_once_0 : decode prog_14_method_86_code 0 = .ok (.aload_n 0, 1) := by decide +kernel
theorem d_Model_once_1 : decode prog_14_method_86_code 1 = .ok (.iconst 0, 1) := by decide +kernel
theorem d_Model_once_2 : decode prog_14_method_86_code 2 = .ok (.putfield 383, 3) := by decide +kernel
theorem d_Model_once_5 : decode prog_14_method_86_code 5 = .ok (.aload_n 0, 1) := by decide +kernel
theorem d_Model_once_6 : decode prog_14_method_86_code 6 = .ok (.iload_n 1, 1) := by decide +kernel
theorem d_Model_once_7 : decode prog_14_method_86_code 7 = .ok (.iconst 0, 1) := by decide +kernel
theorem d_Model_once_8 : decode prog_14_method_86_code 8 = .ok (.lconst 0, 1) := by decide +kernel
theorem d_Model_once_9 : decode prog_14_method_86_code 9 = .ok (.invokevirtual 394, 3) := by decide +kernel
theorem d_Model_once_12 : decode prog_14_method_86_code 12 = .ok (.aload_n 0, 1) := by decide +kernel
theorem d_Model_once_13 : decode prog_14_method_86_code 13 = .ok (.getfield 383, 3) := by decide +kernel
theorem d_Model_once_16 : decode prog_14_method_86_code 16 = .ok (.ifCond .le 54, 3) := by decide +kernel
theorem d_Model_once_19 : decode prog_14_method_86_code 19 = .ok (.aload_n 0, 1) := by decide +kernel
theorem d_Model_once_20 : decode prog_14_method_86_code 20 = .ok (.getfield 386, 3) := by decide +kernel
theorem d_Model_once_23 : decode prog_14_method_86_code 23 = .ok (.ifCond .ne 47, 3) := by decide +kernel
theorem d_Model_once_26 : decode prog_14_method_86_code 26 = .ok (.aload_n 0, 1) := by decide +kernel
theorem d_Model_once_27 : decode prog_14_method_86_code 27 = .ok (.getfield 65, 3) := by decide +kernel
theorem d_Model_once_30 : decode prog_14_method_86_code 30 = .ok (.aload_n 0, 1) := by decide +kernel
theorem d_Model_once_31 : decode prog_14_method_86_code 31 = .ok (.getfield 383, 3) := by decide +kernel
theorem d_Model_once_34 : decode prog_14_method_86_code 34 = .ok (.iconst 1, 1) := by decide +kernel
theorem d_Model_once_35 : decode prog_14_method_86_code 35 = .ok (.isub, 1) := by decide +kernel
theorem d_Model_once_36 : decode prog_14_method_86_code 36 = .ok (.iaload, 1) := by decide +kernel
theorem d_Model_once_37 : decode prog_14_method_86_code 37 = .ok (.aload_n 0, 1) := by decide +kernel
theorem d_Model_once_38 : decode prog_14_method_86_code 38 = .ok (.getfield 44, 3) := by decide +kernel
theorem d_Model_once_41 : decode prog_14_method_86_code 41 = .ok (.aload_n 0, 1) := by decide +kernel
theorem d_Model_once_42 : decode prog_14_method_86_code 42 = .ok (.getfield 62, 3) := by decide +kernel
theorem d_Model_once_45 : decode prog_14_method_86_code 45 = .ok (.aload_n 0, 1) := by decide +kernel
theorem d_Model_once_46 : decode prog_14_method_86_code 46 = .ok (.getfield 383, 3) := by decide +kernel
theorem d_Model_once_49 : decode prog_14_method_86_code 49 = .ok (.iconst 1, 1) := by decide +kernel
theorem d_Model_once_50 : decode prog_14_method_86_code 50 = .ok (.isub, 1) := by decide +kernel
theorem d_Model_once_51 : decode prog_14_method_86_code 51 = .ok (.iaload, 1) := by decide +kernel
theorem d_Model_once_52 : decode prog_14_method_86_code 52 = .ok (.iaload, 1) := by decide +kernel
theorem d_Model_once_53 : decode prog_14_method_86_code 53 = .ok (.if_icmp .ge 10, 3) := by decide +kernel
theorem d_Model_once_56 : decode prog_14_method_86_code 56 = .ok (.aload_n 0, 1) := by decide +kernel
theorem d_Model_once_57 : decode prog_14_method_86_code 57 = .ok (.invokevirtual 408, 3) := by decide +kernel
theorem d_Model_once_60 : decode prog_14_method_86_code 60 = .ok (.goto (-48), 3) := by decide +kernel
theorem d_Model_once_63 : decode prog_14_method_86_code 63 = .ok (.aload_n 0, 1) := by decide +kernel
theorem d_Model_once_64 : decode prog_14_method_86_code 64 = .ok (.invokevirtual 411, 3) := by decide +kernel
theorem d_Model_once_67 : decode prog_14_method_86_code 67 = .ok (.goto (-55), 3) := by decide +kernel
theorem d_Model_once_70 : decode prog_14_method_86_code 70 = .ok (.return_, 1) := by decide +kernel
theorem d_Model_push_0 : decode prog_14_method_83_code 0 = .ok (.aload_n 0, 1) := by decide +kernel
theorem d_Model_push_1 : decode prog_14_method_83_code 1 = .ok (.getfield 383, 3) := by decide +kernel
theorem d_Model_push_4 : decode prog_14_method_83_code 4 = .ok (.bipush 8, 2) := by decide +kernel
theorem d_Model_push_6 : decode prog_14_method_83_code 6 = .ok (.if_icmp .ne 9, 3) := by decide +kernel
theorem d_Model_push_9 : decode prog_14_method_83_code 9 = .ok (.aload_n 0, 1) := by decide +kernel
theorem d_Model_push_10 : decode prog_14_method_83_code 10 = .ok (.iconst 1, 1) := by decide +kernel
theorem d_Model_push_11 : decode prog_14_method_83_code 11 = .ok (.putfield 386, 3) := by decide +kernel
theorem d_Model_push_14 : decode prog_14_method_83_code 14 = .ok (.return_, 1) := by decide +kernel
theorem d_Model_push_15 : decode prog_14_method_83_code 15 = .ok (.aload_n 0, 1) := by decide +kernel
theorem d_Model_push_16 : decode prog_14_method_83_code 16 = .ok (.getfield 62, 3) := by decide +kernel
theorem d_Model_push_19 : decode prog_14_method_83_code 19 = .ok (.aload_n 0, 1) := by decide +kernel
theorem d_Model_push_20 : decode prog_14_method_83_code 20 = .ok (.getfield 383, 3) := by decide +kernel
theorem d_Model_push_23 : decode prog_14_method_83_code 23 = .ok (.iload_n 1, 1) := by decide +kernel
theorem d_Model_push_24 : decode prog_14_method_83_code 24 = .ok (.iastore, 1) := by decide +kernel
theorem d_Model_push_25 : decode prog_14_method_83_code 25 = .ok (.aload_n 0, 1) := by decide +kernel
theorem d_Model_push_26 : decode prog_14_method_83_code 26 = .ok (.getfield 65, 3) := by decide +kernel
theorem d_Model_push_29 : decode prog_14_method_83_code 29 = .ok (.aload_n 0, 1) := by decide +kernel
theorem d_Model_push_30 : decode prog_14_method_83_code 30 = .ok (.getfield 383, 3) := by decide +kernel
theorem d_Model_push_33 : decode prog_14_method_83_code 33 = .ok (.iconst 0, 1) := by decide +kernel
theorem d_Model_push_34 : decode prog_14_method_83_code 34 = .ok (.iastore, 1) := by decide +kernel
theorem d_Model_push_35 : decode prog_14_method_83_code 35 = .ok (.aload_n 0, 1) := by decide +kernel
theorem d_Model_push_36 : decode prog_14_method_83_code 36 = .ok (.getfield 68, 3) := by decide +kernel
theorem d_Model_push_39 : decode prog_14_method_83_code 39 = .ok (.aload_n 0, 1) := by decide +kernel
theorem d_Model_push_40 : decode prog_14_method_83_code 40 = .ok (.getfield 383, 3) := by decide +kernel
theorem d_Model_push_43 : decode prog_14_method_83_code 43 = .ok (.iload_n 2, 1) := by decide +kernel
theorem d_Model_push_44 : decode prog_14_method_83_code 44 = .ok (.iastore, 1) := by decide +kernel
theorem d_Model_push_45 : decode prog_14_method_83_code 45 = .ok (.aload_n 0, 1) := by decide +kernel
theorem d_Model_push_46 : decode prog_14_method_83_code 46 = .ok (.getfield 71, 3) := by decide +kernel
theorem d_Model_push_49 : decode prog_14_method_83_code 49 = .ok (.aload_n 0, 1) := by decide +kernel
theorem d_Model_push_50 : decode prog_14_method_83_code 50 = .ok (.getfield 383, 3) := by decide +kernel
theorem d_Model_push_53 : decode prog_14_method_83_code 53 = .ok (.lload_n 3, 1) := by decide +kernel
theorem d_Model_push_54 : decode prog_14_method_83_code 54 = .ok (.lastore, 1) := by decide +kernel
theorem d_Model_push_55 : decode prog_14_method_83_code 55 = .ok (.aload_n 0, 1) := by decide +kernel
theorem d_Model_push_56 : decode prog_14_method_83_code 56 = .ok (.dup, 1) := by decide +kernel
theorem d_Model_push_57 : decode prog_14_method_83_code 57 = .ok (.getfield 383, 3) := by decide +kernel
theorem d_Model_push_60 : decode prog_14_method_83_code 60 = .ok (.iconst 1, 1) := by decide +kernel
theorem d_Model_push_61 : decode prog_14_method_83_code 61 = .ok (.iadd, 1) := by decide +kernel
theorem d_Model_push_62 : decode prog_14_method_83_code 62 = .ok (.putfield 383, 3) := by decide +kernel
theorem d_Model_push_65 : decode prog_14_method_83_code 65 = .ok (.return_, 1) := by decide +kernel
theorem d_Model_operate_0 : decode prog_14_method_84_code 0 = .ok (.aload_n 0, 1) := by decide +kernel
theorem d_Model_operate_1 : decode prog_14_method_84_code 1 = .ok (.getfield 389, 3) := by decide +kernel
theorem d_Model_operate_4 : decode prog_14_method_84_code 4 = .ok (.sipush 400, 3) := by decide +kernel
theorem d_Model_operate_7 : decode prog_14_method_84_code 7 = .ok (.if_icmp .ne 9, 3) := by decide +kernel
theorem d_Model_operate_10 : decode prog_14_method_84_code 10 = .ok (.aload_n 0, 1) := by decide +kernel
theorem d_Model_operate_11 : decode prog_14_method_84_code 11 = .ok (.iconst 1, 1) := by decide +kernel
theorem d_Model_operate_12 : decode prog_14_method_84_code 12 = .ok (.putfield 386, 3) := by decide +kernel
theorem d_Model_operate_15 : decode prog_14_method_84_code 15 = .ok (.return_, 1) := by decide +kernel
theorem d_Model_operate_16 : decode prog_14_method_84_code 16 = .ok (.aload_n 0, 1) := by decide +kernel
theorem d_Model_operate_17 : decode prog_14_method_84_code 17 = .ok (.getfield 383, 3) := by decide +kernel
theorem d_Model_operate_20 : decode prog_14_method_84_code 20 = .ok (.iconst 1, 1) := by decide +kernel
theorem d_Model_operate_21 : decode prog_14_method_84_code 21 = .ok (.isub, 1) := by decide +kernel
theorem d_Model_operate_22 : decode prog_14_method_84_code 22 = .ok (.istore_n 1, 1) := by decide +kernel
theorem d_Model_operate_23 : decode prog_14_method_84_code 23 = .ok (.bipush 24, 2) := by decide +kernel
theorem d_Model_operate_25 : decode prog_14_method_84_code 25 = .ok (.aload_n 0, 1) := by decide +kernel
theorem d_Model_operate_26 : decode prog_14_method_84_code 26 = .ok (.getfield 62, 3) := by decide +kernel
theorem d_Model_operate_29 : decode prog_14_method_84_code 29 = .ok (.iload_n 1, 1) := by decide +kernel
theorem d_Model_operate_30 : decode prog_14_method_84_code 30 = .ok (.iaload, 1) := by decide +kernel
theorem d_Model_operate_31 : decode prog_14_method_84_code 31 = .ok (.imul, 1) := by decide +kernel
theorem d_Model_operate_32 : decode prog_14_method_84_code 32 = .ok (.aload_n 0, 1) := by decide +kernel
theorem d_Model_operate_33 : decode prog_14_method_84_code 33 = .ok (.getfield 65, 3) := by decide +kernel
theorem d_Model_operate_36 : decode prog_14_method_84_code 36 = .ok (.iload_n 1, 1) := by decide +kernel
theorem d_Model_operate_37 : decode prog_14_method_84_code 37 = .ok (.iaload, 1) := by decide +kernel
theorem d_Model_operate_38 : decode prog_14_method_84_code 38 = .ok (.iadd, 1) := by decide +kernel
theorem d_Model_operate_39 : decode prog_14_method_84_code 39 = .ok (.istore_n 2, 1) := by decide +kernel
theorem d_Model_operate_40 : decode prog_14_method_84_code 40 = .ok (.aload_n 0, 1) := by decide +kernel
theorem d_Model_operate_41 : decode prog_14_method_84_code 41 = .ok (.getfield 65, 3) := by decide +kernel
theorem d_Model_operate_44 : decode prog_14_method_84_code 44 = .ok (.iload_n 1, 1) := by decide +kernel
theorem d_Model_operate_45 : decode prog_14_method_84_code 45 = .ok (.dup2, 1) := by decide +kernel
theorem d_Model_operate_46 : decode prog_14_method_84_code 46 = .ok (.iaload, 1) := by decide +kernel
theorem d_Model_operate_47 : decode prog_14_method_84_code 47 = .ok (.iconst 1, 1) := by decide +kernel
theorem d_Model_operate_48 : decode prog_14_method_84_code 48 = .ok (.iadd, 1) := by decide +kernel
theorem d_Model_operate_49 : decode prog_14_method_84_code 49 = .ok (.iastore, 1) := by decide +kernel
theorem d_Model_operate_50 : decode prog_14_method_84_code 50 = .ok (.aload_n 0, 1) := by decide +kernel
theorem d_Model_operate_51 : decode prog_14_method_84_code 51 = .ok (.dup, 1) := by decide +kernel
theorem d_Model_operate_52 : decode prog_14_method_84_code 52 = .ok (.getfield 389, 3) := by decide +kernel
theorem d_Model_operate_55 : decode prog_14_method_84_code 55 = .ok (.iconst 1, 1) := by decide +kernel
theorem d_Model_operate_56 : decode prog_14_method_84_code 56 = .ok (.iadd, 1) := by decide +kernel
theorem d_Model_operate_57 : decode prog_14_method_84_code 57 = .ok (.putfield 389, 3) := by decide +kernel
theorem d_Model_operate_60 : decode prog_14_method_84_code 60 = .ok (.aload_n 0, 1) := by decide +kernel
theorem d_Model_operate_61 : decode prog_14_method_84_code 61 = .ok (.getfield 47, 3) := by decide +kernel
theorem d_Model_operate_64 : decode prog_14_method_84_code 64 = .ok (.iload_n 2, 1) := by decide +kernel
theorem d_Model_operate_65 : decode prog_14_method_84_code 65 = .ok (.iaload, 1) := by decide +kernel
theorem d_Model_operate_66 : decode prog_14_method_84_code 66 = .ok (.istore_n 3, 1) := by decide +kernel
theorem d_Model_operate_67 : decode prog_14_method_84_code 67 = .ok (.aload_n 0, 1) := by decide +kernel
theorem d_Model_operate_68 : decode prog_14_method_84_code 68 = .ok (.getfield 50, 3) := by decide +kernel
theorem d_Model_operate_71 : decode prog_14_method_84_code 71 = .ok (.iload_n 2, 1) := by decide +kernel
theorem d_Model_operate_72 : decode prog_14_method_84_code 72 = .ok (.laload, 1) := by decide +kernel
theorem d_Model_operate_73 : decode prog_14_method_84_code 73 = .ok (.lstore 4, 2) := by decide +kernel
theorem d_Model_operate_75 : decode prog_14_method_84_code 75 = .ok (.lload 4, 2) := by decide +kernel
theorem d_Model_operate_77 : decode prog_14_method_84_code 77 = .ok (.lconst 0, 1) := by decide +kernel
theorem d_Model_operate_78 : decode prog_14_method_84_code 78 = .ok (.lcmp, 1) := by decide +kernel
theorem d_Model_operate_79 : decode prog_14_method_84_code 79 = .ok (.ifCond .ge 7, 3) := by decide +kernel
theorem d_Model_operate_82 : decode prog_14_method_84_code 82 = .ok (.lconst 0, 1) := by decide +kernel
theorem d_Model_operate_83 : decode prog_14_method_84_code 83 = .ok (.goto 5, 3) := by decide +kernel
theorem d_Model_operate_86 : decode prog_14_method_84_code 86 = .ok (.lload 4, 2) := by decide +kernel
theorem d_Model_operate_88 : decode prog_14_method_84_code 88 = .ok (.lstore 6, 2) := by decide +kernel
theorem d_Model_operate_90 : decode prog_14_method_84_code 90 = .ok (.iload_n 3, 1) := by decide +kernel
theorem d_Model_operate_91 : decode prog_14_method_84_code 91 = .ok (.bipush 13, 2) := by decide +kernel
theorem d_Model_operate_93 : decode prog_14_method_84_code 93 = .ok (.if_icmp .ne 39, 3) := by decide +kernel
theorem d_Model_operate_96 : decode prog_14_method_84_code 96 = .ok (.aload_n 0, 1) := by decide +kernel
theorem d_Model_operate_97 : decode prog_14_method_84_code 97 = .ok (.aload_n 0, 1) := by decide +kernel
theorem d_Model_operate_98 : decode prog_14_method_84_code 98 = .ok (.invokevirtual 292, 3) := by decide +kernel
theorem d_Model_operate_101 : decode prog_14_method_84_code 101 = .ok (.ifCond .le 16, 3) := by decide +kernel
theorem d_Model_operate_104 : decode prog_14_method_84_code 104 = .ok (.lload 6, 2) := by decide +kernel
theorem d_Model_operate_106 : decode prog_14_method_84_code 106 = .ok (.ldc2_w 392, 3) := by decide +kernel
theorem d_Model_operate_109 : decode prog_14_method_84_code 109 = .ok (.ldiv, 1) := by decide +kernel
theorem d_Model_operate_110 : decode prog_14_method_84_code 110 = .ok (.ldc2_w 392, 3) := by decide +kernel
theorem d_Model_operate_113 : decode prog_14_method_84_code 113 = .ok (.lrem, 1) := by decide +kernel
theorem d_Model_operate_114 : decode prog_14_method_84_code 114 = .ok (.goto 9, 3) := by decide +kernel
theorem d_Model_operate_117 : decode prog_14_method_84_code 117 = .ok (.lload 6, 2) := by decide +kernel
theorem d_Model_operate_119 : decode prog_14_method_84_code 119 = .ok (.ldc2_w 392, 3) := by decide +kernel
theorem d_Model_operate_122 : decode prog_14_method_84_code 122 = .ok (.lrem, 1) := by decide +kernel
theorem d_Model_operate_123 : decode prog_14_method_84_code 123 = .ok (.l2i, 1) := by decide +kernel
