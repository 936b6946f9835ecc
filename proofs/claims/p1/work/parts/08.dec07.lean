/-! decode rows, printed by a program -/
theorem d_Model_operate_124 : decode prog_14_method_84_code 124 = .ok (.iconst 0, 1) := by decide +kernel
theorem d_Model_operate_125 : decode prog_14_method_84_code 125 = .ok (.lconst 0, 1) := by decide +kernel
theorem d_Model_operate_126 : decode prog_14_method_84_code 126 = .ok (.invokevirtual 394, 3) := by decide +kernel
theorem d_Model_operate_129 : decode prog_14_method_84_code 129 = .ok (.goto 91, 3) := by decide +kernel
theorem d_Model_operate_132 : decode prog_14_method_84_code 132 = .ok (.iload_n 3, 1) := by decide +kernel
theorem d_Model_operate_133 : decode prog_14_method_84_code 133 = .ok (.bipush 14, 2) := by decide +kernel
theorem d_Model_operate_135 : decode prog_14_method_84_code 135 = .ok (.if_icmp .ne 24, 3) := by decide +kernel
theorem d_Model_operate_138 : decode prog_14_method_84_code 138 = .ok (.aload_n 0, 1) := by decide +kernel
theorem d_Model_operate_139 : decode prog_14_method_84_code 139 = .ok (.lload 6, 2) := by decide +kernel
theorem d_Model_operate_141 : decode prog_14_method_84_code 141 = .ok (.ldc2_w 392, 3) := by decide +kernel
theorem d_Model_operate_144 : decode prog_14_method_84_code 144 = .ok (.ldiv, 1) := by decide +kernel
theorem d_Model_operate_145 : decode prog_14_method_84_code 145 = .ok (.ldc2_w 392, 3) := by decide +kernel
theorem d_Model_operate_148 : decode prog_14_method_84_code 148 = .ok (.lrem, 1) := by decide +kernel
theorem d_Model_operate_149 : decode prog_14_method_84_code 149 = .ok (.l2i, 1) := by decide +kernel
theorem d_Model_operate_150 : decode prog_14_method_84_code 150 = .ok (.iconst 1, 1) := by decide +kernel
theorem d_Model_operate_151 : decode prog_14_method_84_code 151 = .ok (.lload 6, 2) := by decide +kernel
theorem d_Model_operate_153 : decode prog_14_method_84_code 153 = .ok (.invokevirtual 394, 3) := by decide +kernel
theorem d_Model_operate_156 : decode prog_14_method_84_code 156 = .ok (.goto 64, 3) := by decide +kernel
theorem d_Model_operate_159 : decode prog_14_method_84_code 159 = .ok (.iload_n 3, 1) := by decide +kernel
theorem d_Model_operate_160 : decode prog_14_method_84_code 160 = .ok (.bipush 15, 2) := by decide +kernel
theorem d_Model_operate_162 : decode prog_14_method_84_code 162 = .ok (.if_icmp .ne 19, 3) := by decide +kernel
theorem d_Model_operate_165 : decode prog_14_method_84_code 165 = .ok (.aload_n 0, 1) := by decide +kernel
theorem d_Model_operate_166 : decode prog_14_method_84_code 166 = .ok (.lload 6, 2) := by decide +kernel
theorem d_Model_operate_168 : decode prog_14_method_84_code 168 = .ok (.ldc2_w 392, 3) := by decide +kernel
theorem d_Model_operate_171 : decode prog_14_method_84_code 171 = .ok (.lrem, 1) := by decide +kernel
theorem d_Model_operate_172 : decode prog_14_method_84_code 172 = .ok (.l2i, 1) := by decide +kernel
theorem d_Model_operate_173 : decode prog_14_method_84_code 173 = .ok (.iconst 0, 1) := by decide +kernel
theorem d_Model_operate_174 : decode prog_14_method_84_code 174 = .ok (.lconst 0, 1) := by decide +kernel
theorem d_Model_operate_175 : decode prog_14_method_84_code 175 = .ok (.invokevirtual 394, 3) := by decide +kernel
theorem d_Model_operate_178 : decode prog_14_method_84_code 178 = .ok (.goto 42, 3) := by decide +kernel
theorem d_Model_operate_181 : decode prog_14_method_84_code 181 = .ok (.iload_n 3, 1) := by decide +kernel
theorem d_Model_operate_182 : decode prog_14_method_84_code 182 = .ok (.bipush 13, 2) := by decide +kernel
theorem d_Model_operate_184 : decode prog_14_method_84_code 184 = .ok (.if_icmp .ge 13, 3) := by decide +kernel
theorem d_Model_operate_187 : decode prog_14_method_84_code 187 = .ok (.aload_n 0, 1) := by decide +kernel
theorem d_Model_operate_188 : decode prog_14_method_84_code 188 = .ok (.iload_n 3, 1) := by decide +kernel
theorem d_Model_operate_189 : decode prog_14_method_84_code 189 = .ok (.lload 4, 2) := by decide +kernel
theorem d_Model_operate_191 : decode prog_14_method_84_code 191 = .ok (.invokevirtual 398, 3) := by decide +kernel
theorem d_Model_operate_194 : decode prog_14_method_84_code 194 = .ok (.goto 26, 3) := by decide +kernel
theorem d_Model_operate_197 : decode prog_14_method_84_code 197 = .ok (.iload_n 3, 1) := by decide +kernel
theorem d_Model_operate_198 : decode prog_14_method_84_code 198 = .ok (.bipush 23, 2) := by decide +kernel
theorem d_Model_operate_200 : decode prog_14_method_84_code 200 = .ok (.if_icmp .ge 13, 3) := by decide +kernel
theorem d_Model_operate_203 : decode prog_14_method_84_code 203 = .ok (.aload_n 0, 1) := by decide +kernel
theorem d_Model_operate_204 : decode prog_14_method_84_code 204 = .ok (.iload_n 3, 1) := by decide +kernel
theorem d_Model_operate_205 : decode prog_14_method_84_code 205 = .ok (.lload 4, 2) := by decide +kernel
theorem d_Model_operate_207 : decode prog_14_method_84_code 207 = .ok (.invokevirtual 402, 3) := by decide +kernel
theorem d_Model_operate_210 : decode prog_14_method_84_code 210 = .ok (.goto 10, 3) := by decide +kernel
theorem d_Model_operate_213 : decode prog_14_method_84_code 213 = .ok (.aload_n 0, 1) := by decide +kernel
theorem d_Model_operate_214 : decode prog_14_method_84_code 214 = .ok (.iload_n 3, 1) := by decide +kernel
theorem d_Model_operate_215 : decode prog_14_method_84_code 215 = .ok (.lload 4, 2) := by decide +kernel
theorem d_Model_operate_217 : decode prog_14_method_84_code 217 = .ok (.invokevirtual 405, 3) := by decide +kernel
theorem d_Model_operate_220 : decode prog_14_method_84_code 220 = .ok (.return_, 1) := by decide +kernel
theorem d_Model_number_0 : decode prog_14_method_53_code 0 = .ok (.aload_n 0, 1) := by decide +kernel
theorem d_Model_number_1 : decode prog_14_method_53_code 1 = .ok (.getfield 250, 3) := by decide +kernel
theorem d_Model_number_4 : decode prog_14_method_53_code 4 = .ok (.ifCond .ne 11, 3) := by decide +kernel
theorem d_Model_number_7 : decode prog_14_method_53_code 7 = .ok (.aload_n 0, 1) := by decide +kernel
theorem d_Model_number_8 : decode prog_14_method_53_code 8 = .ok (.bipush 7, 2) := by decide +kernel
theorem d_Model_number_10 : decode prog_14_method_53_code 10 = .ok (.invokevirtual 144, 3) := by decide +kernel
theorem d_Model_number_13 : decode prog_14_method_53_code 13 = .ok (.iconst 0, 1) := by decide +kernel
theorem d_Model_number_14 : decode prog_14_method_53_code 14 = .ok (.ireturn, 1) := by decide +kernel
theorem d_Model_number_15 : decode prog_14_method_53_code 15 = .ok (.aload_n 0, 1) := by decide +kernel
theorem d_Model_number_16 : decode prog_14_method_53_code 16 = .ok (.dup, 1) := by decide +kernel
theorem d_Model_number_17 : decode prog_14_method_53_code 17 = .ok (.getfield 250, 3) := by decide +kernel
theorem d_Model_number_20 : decode prog_14_method_53_code 20 = .ok (.iconst 1, 1) := by decide +kernel
theorem d_Model_number_21 : decode prog_14_method_53_code 21 = .ok (.isub, 1) := by decide +kernel
theorem d_Model_number_22 : decode prog_14_method_53_code 22 = .ok (.putfield 250, 3) := by decide +kernel
theorem d_Model_number_25 : decode prog_14_method_53_code 25 = .ok (.aload_n 0, 1) := by decide +kernel
theorem d_Model_number_26 : decode prog_14_method_53_code 26 = .ok (.getfield 56, 3) := by decide +kernel
theorem d_Model_number_29 : decode prog_14_method_53_code 29 = .ok (.aload_n 0, 1) := by decide +kernel
theorem d_Model_number_30 : decode prog_14_method_53_code 30 = .ok (.getfield 250, 3) := by decide +kernel
theorem d_Model_number_33 : decode prog_14_method_53_code 33 = .ok (.iaload, 1) := by decide +kernel
theorem d_Model_number_34 : decode prog_14_method_53_code 34 = .ok (.ifCond .ne 13, 3) := by decide +kernel
theorem d_Model_number_37 : decode prog_14_method_53_code 37 = .ok (.aload_n 0, 1) := by decide +kernel
theorem d_Model_number_38 : decode prog_14_method_53_code 38 = .ok (.getfield 59, 3) := by decide +kernel
theorem d_Model_number_41 : decode prog_14_method_53_code 41 = .ok (.aload_n 0, 1) := by decide +kernel
theorem d_Model_number_42 : decode prog_14_method_53_code 42 = .ok (.getfield 250, 3) := by decide +kernel
theorem d_Model_number_45 : decode prog_14_method_53_code 45 = .ok (.iaload, 1) := by decide +kernel
theorem d_Model_number_46 : decode prog_14_method_53_code 46 = .ok (.ireturn, 1) := by decide +kernel
theorem d_Model_number_47 : decode prog_14_method_53_code 47 = .ok (.aload_n 0, 1) := by decide +kernel
theorem d_Model_number_48 : decode prog_14_method_53_code 48 = .ok (.bipush 7, 2) := by decide +kernel
theorem d_Model_number_50 : decode prog_14_method_53_code 50 = .ok (.invokevirtual 144, 3) := by decide +kernel
theorem d_Model_number_53 : decode prog_14_method_53_code 53 = .ok (.iconst 0, 1) := by decide +kernel
theorem d_Model_number_54 : decode prog_14_method_53_code 54 = .ok (.ireturn, 1) := by decide +kernel
theorem d_Model_simple_0 : decode prog_14_method_64_code 0 = .ok (.iload_n 1, 1) := by decide +kernel
theorem d_Model_simple_1 : decode prog_14_method_64_code 1 = .ok (.ifCond .ne 9, 3) := by decide +kernel
theorem d_Model_simple_4 : decode prog_14_method_64_code 4 = .ok (.aload_n 0, 1) := by decide +kernel
theorem d_Model_simple_5 : decode prog_14_method_64_code 5 = .ok (.lload_n 2, 1) := by decide +kernel
theorem d_Model_simple_6 : decode prog_14_method_64_code 6 = .ok (.l2i, 1) := by decide +kernel
theorem d_Model_simple_7 : decode prog_14_method_64_code 7 = .ok (.invokevirtual 260, 3) := by decide +kernel
theorem d_Model_simple_10 : decode prog_14_method_64_code 10 = .ok (.iload_n 1, 1) := by decide +kernel
theorem d_Model_simple_11 : decode prog_14_method_64_code 11 = .ok (.iconst 1, 1) := by decide +kernel
theorem d_Model_simple_12 : decode prog_14_method_64_code 12 = .ok (.if_icmp .ne 16, 3) := by decide +kernel
theorem d_Model_simple_15 : decode prog_14_method_64_code 15 = .ok (.aload_n 0, 1) := by decide +kernel
theorem d_Model_simple_16 : decode prog_14_method_64_code 16 = .ok (.lload_n 2, 1) := by decide +kernel
theorem d_Model_simple_17 : decode prog_14_method_64_code 17 = .ok (.bipush 84, 2) := by decide +kernel
theorem d_Model_simple_19 : decode prog_14_method_64_code 19 = .ok (.invokevirtual 282, 3) := by decide +kernel
theorem d_Model_simple_22 : decode prog_14_method_64_code 22 = .ok (.aload_n 0, 1) := by decide +kernel
theorem d_Model_simple_23 : decode prog_14_method_64_code 23 = .ok (.bipush 84, 2) := by decide +kernel
theorem d_Model_simple_25 : decode prog_14_method_64_code 25 = .ok (.invokevirtual 263, 3) := by decide +kernel
theorem d_Model_simple_28 : decode prog_14_method_64_code 28 = .ok (.iload_n 1, 1) := by decide +kernel
theorem d_Model_simple_29 : decode prog_14_method_64_code 29 = .ok (.iconst 2, 1) := by decide +kernel
theorem d_Model_simple_30 : decode prog_14_method_64_code 30 = .ok (.if_icmp .ne 8, 3) := by decide +kernel
theorem d_Model_simple_33 : decode prog_14_method_64_code 33 = .ok (.aload_n 0, 1) := by decide +kernel
theorem d_Model_simple_34 : decode prog_14_method_64_code 34 = .ok (.lload_n 2, 1) := by decide +kernel
theorem d_Model_simple_35 : decode prog_14_method_64_code 35 = .ok (.invokevirtual 289, 3) := by decide +kernel
theorem d_Model_simple_38 : decode prog_14_method_64_code 38 = .ok (.iload_n 1, 1) := by decide +kernel
theorem d_Model_simple_39 : decode prog_14_method_64_code 39 = .ok (.iconst 3, 1) := by decide +kernel
theorem d_Model_simple_40 : decode prog_14_method_64_code 40 = .ok (.bipush 6, 2) := by decide +kernel
theorem d_Model_simple_42 : decode prog_14_method_64_code 42 = .ok (.invokestatic 103, 3) := by decide +kernel
theorem d_Model_simple_45 : decode prog_14_method_64_code 45 = .ok (.ifCond .eq 72, 3) := by decide +kernel
theorem d_Model_simple_48 : decode prog_14_method_64_code 48 = .ok (.aload_n 0, 1) := by decide +kernel
theorem d_Model_simple_49 : decode prog_14_method_64_code 49 = .ok (.invokevirtual 292, 3) := by decide +kernel
theorem d_Model_simple_52 : decode prog_14_method_64_code 52 = .ok (.istore 4, 2) := by decide +kernel
theorem d_Model_simple_54 : decode prog_14_method_64_code 54 = .ok (.aload_n 0, 1) := by decide +kernel
theorem d_Model_simple_55 : decode prog_14_method_64_code 55 = .ok (.invokevirtual 292, 3) := by decide +kernel
theorem d_Model_simple_58 : decode prog_14_method_64_code 58 = .ok (.istore 5, 2) := by decide +kernel
theorem d_Model_simple_60 : decode prog_14_method_64_code 60 = .ok (.aload_n 0, 1) := by decide +kernel
theorem d_Model_simple_61 : decode prog_14_method_64_code 61 = .ok (.iload_n 1, 1) := by decide +kernel
theorem d_Model_simple_62 : decode prog_14_method_64_code 62 = .ok (.iconst 3, 1) := by decide +kernel
theorem d_Model_simple_63 : decode prog_14_method_64_code 63 = .ok (.if_icmp .ne 11, 3) := by decide +kernel
theorem d_Model_simple_66 : decode prog_14_method_64_code 66 = .ok (.iload 5, 2) := by decide +kernel
theorem d_Model_simple_68 : decode prog_14_method_64_code 68 = .ok (.iload 4, 2) := by decide +kernel
theorem d_Model_simple_70 : decode prog_14_method_64_code 70 = .ok (.iadd, 1) := by decide +kernel
theorem d_Model_simple_71 : decode prog_14_method_64_code 71 = .ok (.goto 43, 3) := by decide +kernel
theorem d_Model_simple_74 : decode prog_14_method_64_code 74 = .ok (.iload_n 1, 1) := by decide +kernel
theorem d_Model_simple_75 : decode prog_14_method_64_code 75 = .ok (.iconst 4, 1) := by decide +kernel
theorem d_Model_simple_76 : decode prog_14_method_64_code 76 = .ok (.if_icmp .ne 11, 3) := by decide +kernel
theorem d_Model_simple_79 : decode prog_14_method_64_code 79 = .ok (.iload 5, 2) := by decide +kernel
theorem d_Model_simple_81 : decode prog_14_method_64_code 81 = .ok (.iload 4, 2) := by decide +kernel
theorem d_Model_simple_83 : decode prog_14_method_64_code 83 = .ok (.isub, 1) := by decide +kernel
theorem d_Model_simple_84 : decode prog_14_method_64_code 84 = .ok (.goto 30, 3) := by decide +kernel
theorem d_Model_simple_87 : decode prog_14_method_64_code 87 = .ok (.iload_n 1, 1) := by decide +kernel
theorem d_Model_simple_88 : decode prog_14_method_64_code 88 = .ok (.iconst 5, 1) := by decide +kernel
theorem d_Model_simple_89 : decode prog_14_method_64_code 89 = .ok (.if_icmp .ne 13, 3) := by decide +kernel
theorem d_Model_simple_92 : decode prog_14_method_64_code 92 = .ok (.iload 5, 2) := by decide +kernel
theorem d_Model_simple_94 : decode prog_14_method_64_code 94 = .ok (.iload 4, 2) := by decide +kernel
theorem d_Model_simple_96 : decode prog_14_method_64_code 96 = .ok (.if_icmp .ge 17, 3) := by decide +kernel
theorem d_Model_simple_99 : decode prog_14_method_64_code 99 = .ok (.goto 10, 3) := by decide +kernel
theorem d_Model_simple_102 : decode prog_14_method_64_code 102 = .ok (.iload 5, 2) := by decide +kernel
theorem d_Model_simple_104 : decode prog_14_method_64_code 104 = .ok (.iload 4, 2) := by decide +kernel
theorem d_Model_simple_106 : decode prog_14_method_64_code 106 = .ok (.if_icmp .le 7, 3) := by decide +kernel
theorem d_Model_simple_109 : decode prog_14_method_64_code 109 = .ok (.iconst 1, 1) := by decide +kernel
theorem d_Model_simple_110 : decode prog_14_method_64_code 110 = .ok (.goto 4, 3) := by decide +kernel
theorem d_Model_simple_113 : decode prog_14_method_64_code 113 = .ok (.iconst 0, 1) := by decide +kernel
theorem d_Model_simple_114 : decode prog_14_method_64_code 114 = .ok (.invokevirtual 260, 3) := by decide +kernel
theorem d_Model_simple_117 : decode prog_14_method_64_code 117 = .ok (.iload_n 1, 1) := by decide +kernel
theorem d_Model_simple_118 : decode prog_14_method_64_code 118 = .ok (.bipush 7, 2) := by decide +kernel
theorem d_Model_simple_120 : decode prog_14_method_64_code 120 = .ok (.if_icmp .ne 7, 3) := by decide +kernel
theorem d_Model_simple_123 : decode prog_14_method_64_code 123 = .ok (.aload_n 0, 1) := by decide +kernel
theorem d_Model_simple_124 : decode prog_14_method_64_code 124 = .ok (.invokevirtual 295, 3) := by decide +kernel
theorem d_Model_simple_127 : decode prog_14_method_64_code 127 = .ok (.iload_n 1, 1) := by decide +kernel
theorem d_Model_simple_128 : decode prog_14_method_64_code 128 = .ok (.bipush 8, 2) := by decide +kernel
theorem d_Model_simple_130 : decode prog_14_method_64_code 130 = .ok (.if_icmp .ne 7, 3) := by decide +kernel
theorem d_Model_simple_133 : decode prog_14_method_64_code 133 = .ok (.aload_n 0, 1) := by decide +kernel
theorem d_Model_simple_134 : decode prog_14_method_64_code 134 = .ok (.invokevirtual 298, 3) := by decide +kernel
theorem d_Model_simple_137 : decode prog_14_method_64_code 137 = .ok (.iload_n 1, 1) := by decide +kernel
theorem d_Model_simple_138 : decode prog_14_method_64_code 138 = .ok (.bipush 9, 2) := by decide +kernel
theorem d_Model_simple_140 : decode prog_14_method_64_code 140 = .ok (.if_icmp .ne 10, 3) := by decide +kernel
theorem d_Model_simple_143 : decode prog_14_method_64_code 143 = .ok (.aload_n 0, 1) := by decide +kernel
theorem d_Model_simple_144 : decode prog_14_method_64_code 144 = .ok (.bipush 82, 2) := by decide +kernel
theorem d_Model_simple_146 : decode prog_14_method_64_code 146 = .ok (.invokevirtual 269, 3) := by decide +kernel
theorem d_Model_simple_149 : decode prog_14_method_64_code 149 = .ok (.pop, 1) := by decide +kernel
theorem d_Model_simple_150 : decode prog_14_method_64_code 150 = .ok (.iload_n 1, 1) := by decide +kernel
theorem d_Model_simple_151 : decode prog_14_method_64_code 151 = .ok (.bipush 10, 2) := by decide +kernel
theorem d_Model_simple_153 : decode prog_14_method_64_code 153 = .ok (.if_icmp .eq 9, 3) := by decide +kernel
theorem d_Model_simple_156 : decode prog_14_method_64_code 156 = .ok (.iload_n 1, 1) := by decide +kernel
theorem d_Model_simple_157 : decode prog_14_method_64_code 157 = .ok (.bipush 11, 2) := by decide +kernel
theorem d_Model_simple_159 : decode prog_14_method_64_code 159 = .ok (.if_icmp .ne 18, 3) := by decide +kernel
theorem d_Model_simple_162 : decode prog_14_method_64_code 162 = .ok (.aload_n 0, 1) := by decide +kernel
theorem d_Model_simple_163 : decode prog_14_method_64_code 163 = .ok (.iload_n 1, 1) := by decide +kernel
theorem d_Model_simple_164 : decode prog_14_method_64_code 164 = .ok (.bipush 10, 2) := by decide +kernel
theorem d_Model_simple_166 : decode prog_14_method_64_code 166 = .ok (.if_icmp .ne 7, 3) := by decide +kernel
theorem d_Model_simple_169 : decode prog_14_method_64_code 169 = .ok (.iconst 1, 1) := by decide +kernel
theorem d_Model_simple_170 : decode prog_14_method_64_code 170 = .ok (.goto 4, 3) := by decide +kernel
theorem d_Model_simple_173 : decode prog_14_method_64_code 173 = .ok (.iconst 0, 1) := by decide +kernel
theorem d_Model_simple_174 : decode prog_14_method_64_code 174 = .ok (.invokevirtual 301, 3) := by decide +kernel
theorem d_Model_simple_177 : decode prog_14_method_64_code 177 = .ok (.iload_n 1, 1) := by decide +kernel
theorem d_Model_simple_178 : decode prog_14_method_64_code 178 = .ok (.bipush 12, 2) := by decide +kernel
theorem d_Model_simple_180 : decode prog_14_method_64_code 180 = .ok (.if_icmp .ne 7, 3) := by decide +kernel
theorem d_Model_simple_183 : decode prog_14_method_64_code 183 = .ok (.aload_n 0, 1) := by decide +kernel
theorem d_Model_simple_184 : decode prog_14_method_64_code 184 = .ok (.invokevirtual 305, 3) := by decide +kernel
theorem d_Model_simple_187 : decode prog_14_method_64_code 187 = .ok (.return_, 1) := by decide +kernel
theorem d_Model_giveNumber_0 : decode prog_14_method_50_code 0 = .ok (.aload_n 0, 1) := by decide +kernel
theorem d_Model_giveNumber_1 : decode prog_14_method_50_code 1 = .ok (.invokevirtual 253, 3) := by decide +kernel
theorem d_Model_giveNumber_4 : decode prog_14_method_50_code 4 = .ok (.ifCond .ne 4, 3) := by decide +kernel
theorem d_Model_giveNumber_7 : decode prog_14_method_50_code 7 = .ok (.return_, 1) := by decide +kernel
theorem d_Model_giveNumber_8 : decode prog_14_method_50_code 8 = .ok (.aload_n 0, 1) := by decide +kernel
theorem d_Model_giveNumber_9 : decode prog_14_method_50_code 9 = .ok (.getfield 56, 3) := by decide +kernel
theorem d_Model_giveNumber_12 : decode prog_14_method_50_code 12 = .ok (.aload_n 0, 1) := by decide +kernel
theorem d_Model_giveNumber_13 : decode prog_14_method_50_code 13 = .ok (.getfield 250, 3) := by decide +kernel
theorem d_Model_giveNumber_16 : decode prog_14_method_50_code 16 = .ok (.iconst 0, 1) := by decide +kernel
theorem d_Model_giveNumber_17 : decode prog_14_method_50_code 17 = .ok (.iastore, 1) := by decide +kernel
theorem d_Model_giveNumber_18 : decode prog_14_method_50_code 18 = .ok (.aload_n 0, 1) := by decide +kernel
theorem d_Model_giveNumber_19 : decode prog_14_method_50_code 19 = .ok (.getfield 59, 3) := by decide +kernel
theorem d_Model_giveNumber_22 : decode prog_14_method_50_code 22 = .ok (.aload_n 0, 1) := by decide +kernel
theorem d_Model_giveNumber_23 : decode prog_14_method_50_code 23 = .ok (.getfield 250, 3) := by decide +kernel
theorem d_Model_giveNumber_26 : decode prog_14_method_50_code 26 = .ok (.iload_n 1, 1) := by decide +kernel
theorem d_Model_giveNumber_27 : decode prog_14_method_50_code 27 = .ok (.iastore, 1) := by decide +kernel
theorem d_Model_giveNumber_28 : decode prog_14_method_50_code 28 = .ok (.aload_n 0, 1) := by decide +kernel
theorem d_Model_giveNumber_29 : decode prog_14_method_50_code 29 = .ok (.dup, 1) := by decide +kernel
theorem d_Model_giveNumber_30 : decode prog_14_method_50_code 30 = .ok (.getfield 250, 3) := by decide +kernel
theorem d_Model_giveNumber_33 : decode prog_14_method_50_code 33 = .ok (.iconst 1, 1) := by decide +kernel
theorem d_Model_giveNumber_34 : decode prog_14_method_50_code 34 = .ok (.iadd, 1) := by decide +kernel
theorem d_Model_giveNumber_35 : decode prog_14_method_50_code 35 = .ok (.putfield 250, 3) := by decide +kernel
theorem d_Model_giveNumber_38 : decode prog_14_method_50_code 38 = .ok (.return_, 1) := by decide +kernel
theorem d_Model_room_0 : decode prog_14_method_49_code 0 = .ok (.aload_n 0, 1) := by decide +kernel
theorem d_Model_room_1 : decode prog_14_method_49_code 1 = .ok (.getfield 250, 3) := by decide +kernel
theorem d_Model_room_4 : decode prog_14_method_49_code 4 = .ok (.bipush 12, 2) := by decide +kernel
theorem d_Model_room_6 : decode prog_14_method_49_code 6 = .ok (.if_icmp .ne 9, 3) := by decide +kernel
theorem d_Model_room_9 : decode prog_14_method_49_code 9 = .ok (.aload_n 0, 1) := by decide +kernel
theorem d_Model_room_10 : decode prog_14_method_49_code 10 = .ok (.bipush 8, 2) := by decide +kernel
theorem d_Model_room_12 : decode prog_14_method_49_code 12 = .ok (.invokevirtual 144, 3) := by decide +kernel
theorem d_Model_room_15 : decode prog_14_method_49_code 15 = .ok (.aload_n 0, 1) := by decide +kernel
theorem d_Model_room_16 : decode prog_14_method_49_code 16 = .ok (.getfield 250, 3) := by decide +kernel
theorem d_Model_room_19 : decode prog_14_method_49_code 19 = .ok (.bipush 12, 2) := by decide +kernel
theorem d_Model_room_21 : decode prog_14_method_49_code 21 = .ok (.if_icmp .ge 7, 3) := by decide +kernel
theorem d_Model_room_24 : decode prog_14_method_49_code 24 = .ok (.iconst 1, 1) := by decide +kernel
theorem d_Model_room_25 : decode prog_14_method_49_code 25 = .ok (.goto 4, 3) := by decide +kernel
theorem d_Model_room_28 : decode prog_14_method_49_code 28 = .ok (.iconst 0, 1) := by decide +kernel
theorem d_Model_room_29 : decode prog_14_method_49_code 29 = .ok (.ireturn, 1) := by decide +kernel
theorem d_Model_unpack_0 : decode prog_14_method_17_code 0 = .ok (.aload_n 0, 1) := by decide +kernel
theorem d_Model_unpack_1 : decode prog_14_method_17_code 1 = .ok (.iload_n 3, 1) := by decide +kernel
theorem d_Model_unpack_2 : decode prog_14_method_17_code 2 = .ok (.invokevirtual 120, 3) := by decide +kernel
theorem d_Model_unpack_5 : decode prog_14_method_17_code 5 = .ok (.iconst 1, 1) := by decide +kernel
theorem d_Model_unpack_6 : decode prog_14_method_17_code 6 = .ok (.istore 4, 2) := by decide +kernel
theorem d_Model_unpack_8 : decode prog_14_method_17_code 8 = .ok (.iconst 0, 1) := by decide +kernel
theorem d_Model_unpack_9 : decode prog_14_method_17_code 9 = .ok (.istore 5, 2) := by decide +kernel
theorem d_Model_unpack_11 : decode prog_14_method_17_code 11 = .ok (.iload 5, 2) := by decide +kernel
theorem d_Model_unpack_13 : decode prog_14_method_17_code 13 = .ok (.bipush 8, 2) := by decide +kernel
theorem d_Model_unpack_15 : decode prog_14_method_17_code 15 = .ok (.if_icmp .ge 51, 3) := by decide +kernel
theorem d_Model_unpack_18 : decode prog_14_method_17_code 18 = .ok (.iload 4, 2) := by decide +kernel
theorem d_Model_unpack_20 : decode prog_14_method_17_code 20 = .ok (.ifCond .eq 46, 3) := by decide +kernel
theorem d_Model_unpack_23 : decode prog_14_method_17_code 23 = .ok (.lload_n 1, 1) := by decide +kernel
theorem d_Model_unpack_24 : decode prog_14_method_17_code 24 = .ok (.bipush 8, 2) := by decide +kernel
theorem d_Model_unpack_26 : decode prog_14_method_17_code 26 = .ok (.iload 5, 2) := by decide +kernel
theorem d_Model_unpack_28 : decode prog_14_method_17_code 28 = .ok (.imul, 1) := by decide +kernel
theorem d_Model_unpack_29 : decode prog_14_method_17_code 29 = .ok (.lshr, 1) := by decide +kernel
theorem d_Model_unpack_30 : decode prog_14_method_17_code 30 = .ok (.ldc2_w 114, 3) := by decide +kernel
theorem d_Model_unpack_33 : decode prog_14_method_17_code 33 = .ok (.land, 1) := by decide +kernel
theorem d_Model_unpack_34 : decode prog_14_method_17_code 34 = .ok (.l2i, 1) := by decide +kernel
theorem d_Model_unpack_35 : decode prog_14_method_17_code 35 = .ok (.istore 6, 2) := by decide +kernel
theorem d_Model_unpack_37 : decode prog_14_method_17_code 37 = .ok (.iload 6, 2) := by decide +kernel
theorem d_Model_unpack_39 : decode prog_14_method_17_code 39 = .ok (.bipush 32, 2) := by decide +kernel
theorem d_Model_unpack_41 : decode prog_14_method_17_code 41 = .ok (.bipush 126, 2) := by decide +kernel
theorem d_Model_unpack_43 : decode prog_14_method_17_code 43 = .ok (.invokestatic 103, 3) := by decide +kernel
theorem d_Model_unpack_46 : decode prog_14_method_17_code 46 = .ok (.istore 4, 2) := by decide +kernel
theorem d_Model_unpack_48 : decode prog_14_method_17_code 48 = .ok (.iload 4, 2) := by decide +kernel
theorem d_Model_unpack_50 : decode prog_14_method_17_code 50 = .ok (.ifCond .eq 10, 3) := by decide +kernel
theorem d_Model_unpack_53 : decode prog_14_method_17_code 53 = .ok (.aload_n 0, 1) := by decide +kernel
theorem d_Model_unpack_54 : decode prog_14_method_17_code 54 = .ok (.iload_n 3, 1) := by decide +kernel
theorem d_Model_unpack_55 : decode prog_14_method_17_code 55 = .ok (.iload 6, 2) := by decide +kernel
theorem d_Model_unpack_57 : decode prog_14_method_17_code 57 = .ok (.invokevirtual 124, 3) := by decide +kernel
theorem d_Model_unpack_60 : decode prog_14_method_17_code 60 = .ok (.iinc 5 1, 3) := by decide +kernel
theorem d_Model_unpack_63 : decode prog_14_method_17_code 63 = .ok (.goto (-52), 3) := by decide +kernel
theorem d_Model_unpack_66 : decode prog_14_method_17_code 66 = .ok (.return_, 1) := by decide +kernel
theorem d_Model_giveText_0 : decode prog_14_method_51_code 0 = .ok (.aload_n 0, 1) := by decide +kernel
theorem d_Model_giveText_1 : decode prog_14_method_51_code 1 = .ok (.invokevirtual 253, 3) := by decide +kernel
theorem d_Model_giveText_4 : decode prog_14_method_51_code 4 = .ok (.ifCond .ne 4, 3) := by decide +kernel
theorem d_Model_giveText_7 : decode prog_14_method_51_code 7 = .ok (.return_, 1) := by decide +kernel
theorem d_Model_giveText_8 : decode prog_14_method_51_code 8 = .ok (.aload_n 0, 1) := by decide +kernel
theorem d_Model_giveText_9 : decode prog_14_method_51_code 9 = .ok (.getfield 56, 3) := by decide +kernel
theorem d_Model_giveText_12 : decode prog_14_method_51_code 12 = .ok (.aload_n 0, 1) := by decide +kernel
theorem d_Model_giveText_13 : decode prog_14_method_51_code 13 = .ok (.getfield 250, 3) := by decide +kernel
theorem d_Model_giveText_16 : decode prog_14_method_51_code 16 = .ok (.iconst 1, 1) := by decide +kernel
theorem d_Model_giveText_17 : decode prog_14_method_51_code 17 = .ok (.iastore, 1) := by decide +kernel
theorem d_Model_giveText_18 : decode prog_14_method_51_code 18 = .ok (.aload_n 0, 1) := by decide +kernel
theorem d_Model_giveText_19 : decode prog_14_method_51_code 19 = .ok (.iload_n 1, 1) := by decide +kernel
theorem d_Model_giveText_20 : decode prog_14_method_51_code 20 = .ok (.bipush 70, 2) := by decide +kernel
theorem d_Model_giveText_22 : decode prog_14_method_51_code 22 = .ok (.aload_n 0, 1) := by decide +kernel
theorem d_Model_giveText_23 : decode prog_14_method_51_code 23 = .ok (.getfield 250, 3) := by decide +kernel
theorem d_Model_giveText_26 : decode prog_14_method_51_code 26 = .ok (.iadd, 1) := by decide +kernel
theorem d_Model_giveText_27 : decode prog_14_method_51_code 27 = .ok (.invokevirtual 194, 3) := by decide +kernel
theorem d_Model_giveText_30 : decode prog_14_method_51_code 30 = .ok (.aload_n 0, 1) := by decide +kernel
theorem d_Model_giveText_31 : decode prog_14_method_51_code 31 = .ok (.dup, 1) := by decide +kernel
theorem d_Model_giveText_32 : decode prog_14_method_51_code 32 = .ok (.getfield 250, 3) := by decide +kernel
theorem d_Model_giveText_35 : decode prog_14_method_51_code 35 = .ok (.iconst 1, 1) := by decide +kernel
theorem d_Model_giveText_36 : decode prog_14_method_51_code 36 = .ok (.iadd, 1) := by decide +kernel
theorem d_Model_giveText_37 : decode prog_14_method_51_code 37 = .ok (.putfield 250, 3) := by decide +kernel
theorem d_Model_giveText_40 : decode prog_14_method_51_code 40 = .ok (.return_, 1) := by decide +kernel
theorem d_Model_fields_0 : decode prog_14_method_61_code 0 = .ok (.aload_n 0, 1) := by decide +kernel
theorem d_Model_fields_1 : decode prog_14_method_61_code 1 = .ok (.getfield 279, 3) := by decide +kernel
theorem d_Model_fields_4 : decode prog_14_method_61_code 4 = .ok (.ifCond .ge 7, 3) := by decide +kernel
theorem d_Model_fields_7 : decode prog_14_method_61_code 7 = .ok (.iconst (-1), 1) := by decide +kernel
theorem d_Model_fields_8 : decode prog_14_method_61_code 8 = .ok (.goto 15, 3) := by decide +kernel
theorem d_Model_fields_11 : decode prog_14_method_61_code 11 = .ok (.aload_n 0, 1) := by decide +kernel
theorem d_Model_fields_12 : decode prog_14_method_61_code 12 = .ok (.aload_n 0, 1) := by decide +kernel
theorem d_Model_fields_13 : decode prog_14_method_61_code 13 = .ok (.getfield 279, 3) := by decide +kernel
theorem d_Model_fields_16 : decode prog_14_method_61_code 16 = .ok (.lload_n 1, 1) := by decide +kernel
theorem d_Model_fields_17 : decode prog_14_method_61_code 17 = .ok (.invokestatic 224, 3) := by decide +kernel
theorem d_Model_fields_20 : decode prog_14_method_61_code 20 = .ok (.invokevirtual 247, 3) := by decide +kernel
theorem d_Model_fields_23 : decode prog_14_method_61_code 23 = .ok (.istore_n 3, 1) := by decide +kernel
theorem d_Model_fields_24 : decode prog_14_method_61_code 24 = .ok (.iload_n 3, 1) := by decide +kernel
theorem d_Model_fields_25 : decode prog_14_method_61_code 25 = .ok (.ifCond .ge 10, 3) := by decide +kernel
theorem d_Model_fields_28 : decode prog_14_method_61_code 28 = .ok (.aload_n 0, 1) := by decide +kernel
theorem d_Model_fields_29 : decode prog_14_method_61_code 29 = .ok (.invokevirtual 266, 3) := by decide +kernel
theorem d_Model_fields_32 : decode prog_14_method_61_code 32 = .ok (.goto 8, 3) := by decide +kernel
theorem d_Model_fields_35 : decode prog_14_method_61_code 35 = .ok (.aload_n 0, 1) := by decide +kernel
theorem d_Model_fields_36 : decode prog_14_method_61_code 36 = .ok (.iload_n 3, 1) := by decide +kernel
theorem d_Model_fields_37 : decode prog_14_method_61_code 37 = .ok (.invokevirtual 263, 3) := by decide +kernel
theorem d_Model_fields_40 : decode prog_14_method_61_code 40 = .ok (.return_, 1) := by decide +kernel
theorem d_Model_giveMissing_0 : decode prog_14_method_52_code 0 = .ok (.aload_n 0, 1) := by decide +kernel
theorem d_Model_giveMissing_1 : decode prog_14_method_52_code 1 = .ok (.invokevirtual 253, 3) := by decide +kernel
theorem d_Model_giveMissing_4 : decode prog_14_method_52_code 4 = .ok (.ifCond .ne 4, 3) := by decide +kernel
theorem d_Model_giveMissing_7 : decode prog_14_method_52_code 7 = .ok (.return_, 1) := by decide +kernel
theorem d_Model_giveMissing_8 : decode prog_14_method_52_code 8 = .ok (.aload_n 0, 1) := by decide +kernel
theorem d_Model_giveMissing_9 : decode prog_14_method_52_code 9 = .ok (.getfield 56, 3) := by decide +kernel
theorem d_Model_giveMissing_12 : decode prog_14_method_52_code 12 = .ok (.aload_n 0, 1) := by decide +kernel
theorem d_Model_giveMissing_13 : decode prog_14_method_52_code 13 = .ok (.getfield 250, 3) := by decide +kernel
theorem d_Model_giveMissing_16 : decode prog_14_method_52_code 16 = .ok (.iconst 2, 1) := by decide +kernel
theorem d_Model_giveMissing_17 : decode prog_14_method_52_code 17 = .ok (.iastore, 1) := by decide +kernel
theorem d_Model_giveMissing_18 : decode prog_14_method_52_code 18 = .ok (.aload_n 0, 1) := by decide +kernel
theorem d_Model_giveMissing_19 : decode prog_14_method_52_code 19 = .ok (.dup, 1) := by decide +kernel
theorem d_Model_giveMissing_20 : decode prog_14_method_52_code 20 = .ok (.getfield 250, 3) := by decide +kernel
theorem d_Model_giveMissing_23 : decode prog_14_method_52_code 23 = .ok (.iconst 1, 1) := by decide +kernel
theorem d_Model_giveMissing_24 : decode prog_14_method_52_code 24 = .ok (.iadd, 1) := by decide +kernel
theorem d_Model_giveMissing_25 : decode prog_14_method_52_code 25 = .ok (.putfield 250, 3) := by decide +kernel
theorem d_Model_giveMissing_28 : decode prog_14_method_52_code 28 = .ok (.return_, 1) := by decide +kernel
theorem d_Model_compares_0 : decode prog_14_method_58_code 0 = .ok (.aload_n 0, 1) := by decide +kernel
theorem d_Model_compares_1 : decode prog_14_method_58_code 1 = .ok (.bipush 83, 2) := by decide +kernel
theorem d_Model_compares_3 : decode prog_14_method_58_code 3 = .ok (.invokevirtual 269, 3) := by decide +kernel
theorem d_Model_compares_6 : decode prog_14_method_58_code 6 = .ok (.istore_n 1, 1) := by decide +kernel
theorem d_Model_compares_7 : decode prog_14_method_58_code 7 = .ok (.aload_n 0, 1) := by decide +kernel
theorem d_Model_compares_8 : decode prog_14_method_58_code 8 = .ok (.getfield 257, 3) := by decide +kernel
theorem d_Model_compares_11 : decode prog_14_method_58_code 11 = .ok (.istore_n 2, 1) := by decide +kernel
theorem d_Model_compares_12 : decode prog_14_method_58_code 12 = .ok (.aload_n 0, 1) := by decide +kernel
theorem d_Model_compares_13 : decode prog_14_method_58_code 13 = .ok (.bipush 82, 2) := by decide +kernel
theorem d_Model_compares_15 : decode prog_14_method_58_code 15 = .ok (.invokevirtual 269, 3) := by decide +kernel
theorem d_Model_compares_18 : decode prog_14_method_58_code 18 = .ok (.istore_n 3, 1) := by decide +kernel
theorem d_Model_compares_19 : decode prog_14_method_58_code 19 = .ok (.iload_n 2, 1) := by decide +kernel
theorem d_Model_compares_20 : decode prog_14_method_58_code 20 = .ok (.ifCond .ne 14, 3) := by decide +kernel
theorem d_Model_compares_23 : decode prog_14_method_58_code 23 = .ok (.aload_n 0, 1) := by decide +kernel
theorem d_Model_compares_24 : decode prog_14_method_58_code 24 = .ok (.getfield 257, 3) := by decide +kernel
theorem d_Model_compares_27 : decode prog_14_method_58_code 27 = .ok (.ifCond .ne 7, 3) := by decide +kernel
theorem d_Model_compares_30 : decode prog_14_method_58_code 30 = .ok (.iconst 1, 1) := by decide +kernel
theorem d_Model_compares_31 : decode prog_14_method_58_code 31 = .ok (.goto 4, 3) := by decide +kernel
theorem d_Model_compares_34 : decode prog_14_method_58_code 34 = .ok (.iconst 0, 1) := by decide +kernel
theorem d_Model_compares_35 : decode prog_14_method_58_code 35 = .ok (.istore 4, 2) := by decide +kernel
theorem d_Model_compares_37 : decode prog_14_method_58_code 37 = .ok (.iload_n 2, 1) := by decide +kernel
theorem d_Model_compares_38 : decode prog_14_method_58_code 38 = .ok (.ifCond .eq 10, 3) := by decide +kernel
theorem d_Model_compares_41 : decode prog_14_method_58_code 41 = .ok (.aload_n 0, 1) := by decide +kernel
theorem d_Model_compares_42 : decode prog_14_method_58_code 42 = .ok (.getfield 257, 3) := by decide +kernel
theorem d_Model_compares_45 : decode prog_14_method_58_code 45 = .ok (.ifCond .ne 7, 3) := by decide +kernel
theorem d_Model_compares_48 : decode prog_14_method_58_code 48 = .ok (.iconst 1, 1) := by decide +kernel
theorem d_Model_compares_49 : decode prog_14_method_58_code 49 = .ok (.goto 4, 3) := by decide +kernel
theorem d_Model_compares_52 : decode prog_14_method_58_code 52 = .ok (.iconst 0, 1) := by decide +kernel
theorem d_Model_compares_53 : decode prog_14_method_58_code 53 = .ok (.istore 5, 2) := by decide +kernel
theorem d_Model_compares_55 : decode prog_14_method_58_code 55 = .ok (.aload_n 0, 1) := by decide +kernel
theorem d_Model_compares_56 : decode prog_14_method_58_code 56 = .ok (.iload 4, 2) := by decide +kernel
theorem d_Model_compares_58 : decode prog_14_method_58_code 58 = .ok (.ifCond .eq 11, 3) := by decide +kernel
theorem d_Model_compares_61 : decode prog_14_method_58_code 61 = .ok (.iload_n 1, 1) := by decide +kernel
theorem d_Model_compares_62 : decode prog_14_method_58_code 62 = .ok (.iload_n 3, 1) := by decide +kernel
theorem d_Model_compares_63 : decode prog_14_method_58_code 63 = .ok (.if_icmp .ne 26, 3) := by decide +kernel
theorem d_Model_compares_66 : decode prog_14_method_58_code 66 = .ok (.goto 19, 3) := by decide +kernel
theorem d_Model_compares_69 : decode prog_14_method_58_code 69 = .ok (.iload 5, 2) := by decide +kernel
theorem d_Model_compares_71 : decode prog_14_method_58_code 71 = .ok (.ifCond .ne 18, 3) := by decide +kernel
theorem d_Model_compares_74 : decode prog_14_method_58_code 74 = .ok (.aload_n 0, 1) := by decide +kernel
theorem d_Model_compares_75 : decode prog_14_method_58_code 75 = .ok (.bipush 82, 2) := by decide +kernel
theorem d_Model_compares_77 : decode prog_14_method_58_code 77 = .ok (.bipush 83, 2) := by decide +kernel
theorem d_Model_compares_79 : decode prog_14_method_58_code 79 = .ok (.invokevirtual 272, 3) := by decide +kernel
theorem d_Model_compares_82 : decode prog_14_method_58_code 82 = .ok (.ifCond .eq 7, 3) := by decide +kernel
theorem d_Model_compares_85 : decode prog_14_method_58_code 85 = .ok (.iconst 1, 1) := by decide +kernel
theorem d_Model_compares_86 : decode prog_14_method_58_code 86 = .ok (.goto 4, 3) := by decide +kernel
theorem d_Model_compares_89 : decode prog_14_method_58_code 89 = .ok (.iconst 0, 1) := by decide +kernel
theorem d_Model_compares_90 : decode prog_14_method_58_code 90 = .ok (.invokevirtual 260, 3) := by decide +kernel
theorem d_Model_compares_93 : decode prog_14_method_58_code 93 = .ok (.return_, 1) := by decide +kernel
theorem d_Model_any_0 : decode prog_14_method_55_code 0 = .ok (.aload_n 0, 1) := by decide +kernel
theorem d_Model_any_1 : decode prog_14_method_55_code 1 = .ok (.iload_n 1, 1) := by decide +kernel
theorem d_Model_any_2 : decode prog_14_method_55_code 2 = .ok (.invokevirtual 120, 3) := by decide +kernel
theorem d_Model_any_5 : decode prog_14_method_55_code 5 = .ok (.aload_n 0, 1) := by decide +kernel
theorem d_Model_any_6 : decode prog_14_method_55_code 6 = .ok (.iconst 0, 1) := by decide +kernel
theorem d_Model_any_7 : decode prog_14_method_55_code 7 = .ok (.putfield 257, 3) := by decide +kernel
theorem d_Model_any_10 : decode prog_14_method_55_code 10 = .ok (.aload_n 0, 1) := by decide +kernel
theorem d_Model_any_11 : decode prog_14_method_55_code 11 = .ok (.getfield 250, 3) := by decide +kernel
theorem d_Model_any_14 : decode prog_14_method_55_code 14 = .ok (.ifCond .ne 11, 3) := by decide +kernel
theorem d_Model_any_17 : decode prog_14_method_55_code 17 = .ok (.aload_n 0, 1) := by decide +kernel
theorem d_Model_any_18 : decode prog_14_method_55_code 18 = .ok (.bipush 7, 2) := by decide +kernel
theorem d_Model_any_20 : decode prog_14_method_55_code 20 = .ok (.invokevirtual 144, 3) := by decide +kernel
theorem d_Model_any_23 : decode prog_14_method_55_code 23 = .ok (.iconst 0, 1) := by decide +kernel
theorem d_Model_any_24 : decode prog_14_method_55_code 24 = .ok (.ireturn, 1) := by decide +kernel
theorem d_Model_any_25 : decode prog_14_method_55_code 25 = .ok (.aload_n 0, 1) := by decide +kernel
theorem d_Model_any_26 : decode prog_14_method_55_code 26 = .ok (.dup, 1) := by decide +kernel
theorem d_Model_any_27 : decode prog_14_method_55_code 27 = .ok (.getfield 250, 3) := by decide +kernel
theorem d_Model_any_30 : decode prog_14_method_55_code 30 = .ok (.iconst 1, 1) := by decide +kernel
theorem d_Model_any_31 : decode prog_14_method_55_code 31 = .ok (.isub, 1) := by decide +kernel
theorem d_Model_any_32 : decode prog_14_method_55_code 32 = .ok (.putfield 250, 3) := by decide +kernel
theorem d_Model_any_35 : decode prog_14_method_55_code 35 = .ok (.aload_n 0, 1) := by decide +kernel
theorem d_Model_any_36 : decode prog_14_method_55_code 36 = .ok (.aload_n 0, 1) := by decide +kernel
theorem d_Model_any_37 : decode prog_14_method_55_code 37 = .ok (.getfield 56, 3) := by decide +kernel
theorem d_Model_any_40 : decode prog_14_method_55_code 40 = .ok (.aload_n 0, 1) := by decide +kernel
theorem d_Model_any_41 : decode prog_14_method_55_code 41 = .ok (.getfield 250, 3) := by decide +kernel
theorem d_Model_any_44 : decode prog_14_method_55_code 44 = .ok (.iaload, 1) := by decide +kernel
theorem d_Model_any_45 : decode prog_14_method_55_code 45 = .ok (.putfield 257, 3) := by decide +kernel
theorem d_Model_any_48 : decode prog_14_method_55_code 48 = .ok (.aload_n 0, 1) := by decide +kernel
theorem d_Model_any_49 : decode prog_14_method_55_code 49 = .ok (.getfield 257, 3) := by decide +kernel
theorem d_Model_any_52 : decode prog_14_method_55_code 52 = .ok (.iconst 1, 1) := by decide +kernel
theorem d_Model_any_53 : decode prog_14_method_55_code 53 = .ok (.if_icmp .ne 15, 3) := by decide +kernel
theorem d_Model_any_56 : decode prog_14_method_55_code 56 = .ok (.aload_n 0, 1) := by decide +kernel
theorem d_Model_any_57 : decode prog_14_method_55_code 57 = .ok (.bipush 70, 2) := by decide +kernel
theorem d_Model_any_59 : decode prog_14_method_55_code 59 = .ok (.aload_n 0, 1) := by decide +kernel
theorem d_Model_any_60 : decode prog_14_method_55_code 60 = .ok (.getfield 250, 3) := by decide +kernel
theorem d_Model_any_63 : decode prog_14_method_55_code 63 = .ok (.iadd, 1) := by decide +kernel
theorem d_Model_any_64 : decode prog_14_method_55_code 64 = .ok (.iload_n 1, 1) := by decide +kernel
theorem d_Model_any_65 : decode prog_14_method_55_code 65 = .ok (.invokevirtual 194, 3) := by decide +kernel
theorem d_Model_any_68 : decode prog_14_method_55_code 68 = .ok (.aload_n 0, 1) := by decide +kernel
theorem d_Model_any_69 : decode prog_14_method_55_code 69 = .ok (.getfield 257, 3) := by decide +kernel
theorem d_Model_any_72 : decode prog_14_method_55_code 72 = .ok (.ifCond .ne 15, 3) := by decide +kernel
theorem d_Model_any_75 : decode prog_14_method_55_code 75 = .ok (.aload_n 0, 1) := by decide +kernel
theorem d_Model_any_76 : decode prog_14_method_55_code 76 = .ok (.getfield 59, 3) := by decide +kernel
theorem d_Model_any_79 : decode prog_14_method_55_code 79 = .ok (.aload_n 0, 1) := by decide +kernel
theorem d_Model_any_80 : decode prog_14_method_55_code 80 = .ok (.getfield 250, 3) := by decide +kernel
theorem d_Model_any_83 : decode prog_14_method_55_code 83 = .ok (.iaload, 1) := by decide +kernel
theorem d_Model_any_84 : decode prog_14_method_55_code 84 = .ok (.goto 4, 3) := by decide +kernel
theorem d_Model_any_87 : decode prog_14_method_55_code 87 = .ok (.iconst 0, 1) := by decide +kernel
theorem d_Model_any_88 : decode prog_14_method_55_code 88 = .ok (.ireturn, 1) := by decide +kernel
theorem d_Model_same_0 : decode prog_14_method_57_code 0 = .ok (.aload_n 0, 1) := by decide +kernel
theorem d_Model_same_1 : decode prog_14_method_57_code 1 = .ok (.getfield 16, 3) := by decide +kernel
theorem d_Model_same_4 : decode prog_14_method_57_code 4 = .ok (.iload_n 1, 1) := by decide +kernel
theorem d_Model_same_5 : decode prog_14_method_57_code 5 = .ok (.iaload, 1) := by decide +kernel
theorem d_Model_same_6 : decode prog_14_method_57_code 6 = .ok (.aload_n 0, 1) := by decide +kernel
theorem d_Model_same_7 : decode prog_14_method_57_code 7 = .ok (.getfield 16, 3) := by decide +kernel
theorem d_Model_same_10 : decode prog_14_method_57_code 10 = .ok (.iload_n 2, 1) := by decide +kernel
theorem d_Model_same_11 : decode prog_14_method_57_code 11 = .ok (.iaload, 1) := by decide +kernel
theorem d_Model_same_12 : decode prog_14_method_57_code 12 = .ok (.if_icmp .ne 7, 3) := by decide +kernel
theorem d_Model_same_15 : decode prog_14_method_57_code 15 = .ok (.iconst 1, 1) := by decide +kernel
theorem d_Model_same_16 : decode prog_14_method_57_code 16 = .ok (.goto 4, 3) := by decide +kernel
theorem d_Model_same_19 : decode prog_14_method_57_code 19 = .ok (.iconst 0, 1) := by decide +kernel
theorem d_Model_same_20 : decode prog_14_method_57_code 20 = .ok (.istore_n 3, 1) := by decide +kernel
theorem d_Model_same_21 : decode prog_14_method_57_code 21 = .ok (.iconst 0, 1) := by decide +kernel
theorem d_Model_same_22 : decode prog_14_method_57_code 22 = .ok (.istore 4, 2) := by decide +kernel
theorem d_Model_same_24 : decode prog_14_method_57_code 24 = .ok (.iload_n 3, 1) := by decide +kernel
theorem d_Model_same_25 : decode prog_14_method_57_code 25 = .ok (.ifCond .eq 43, 3) := by decide +kernel
theorem d_Model_same_28 : decode prog_14_method_57_code 28 = .ok (.iload 4, 2) := by decide +kernel
theorem d_Model_same_30 : decode prog_14_method_57_code 30 = .ok (.aload_n 0, 1) := by decide +kernel
theorem d_Model_same_31 : decode prog_14_method_57_code 31 = .ok (.getfield 16, 3) := by decide +kernel
theorem d_Model_same_34 : decode prog_14_method_57_code 34 = .ok (.iload_n 1, 1) := by decide +kernel
theorem d_Model_same_35 : decode prog_14_method_57_code 35 = .ok (.iaload, 1) := by decide +kernel
theorem d_Model_same_36 : decode prog_14_method_57_code 36 = .ok (.if_icmp .ge 32, 3) := by decide +kernel
theorem d_Model_same_39 : decode prog_14_method_57_code 39 = .ok (.aload_n 0, 1) := by decide +kernel
theorem d_Model_same_40 : decode prog_14_method_57_code 40 = .ok (.iload_n 1, 1) := by decide +kernel
theorem d_Model_same_41 : decode prog_14_method_57_code 41 = .ok (.iload 4, 2) := by decide +kernel
theorem d_Model_same_43 : decode prog_14_method_57_code 43 = .ok (.invokevirtual 99, 3) := by decide +kernel
theorem d_Model_same_46 : decode prog_14_method_57_code 46 = .ok (.aload_n 0, 1) := by decide +kernel
theorem d_Model_same_47 : decode prog_14_method_57_code 47 = .ok (.iload_n 2, 1) := by decide +kernel
theorem d_Model_same_48 : decode prog_14_method_57_code 48 = .ok (.iload 4, 2) := by decide +kernel
theorem d_Model_same_50 : decode prog_14_method_57_code 50 = .ok (.invokevirtual 99, 3) := by decide +kernel
theorem d_Model_same_53 : decode prog_14_method_57_code 53 = .ok (.if_icmp .ne 7, 3) := by decide +kernel
theorem d_Model_same_56 : decode prog_14_method_57_code 56 = .ok (.iconst 1, 1) := by decide +kernel
theorem d_Model_same_57 : decode prog_14_method_57_code 57 = .ok (.goto 4, 3) := by decide +kernel
theorem d_Model_same_60 : decode prog_14_method_57_code 60 = .ok (.iconst 0, 1) := by decide +kernel
theorem d_Model_same_61 : decode prog_14_method_57_code 61 = .ok (.istore_n 3, 1) := by decide +kernel
theorem d_Model_same_62 : decode prog_14_method_57_code 62 = .ok (.iinc 4 1, 3) := by decide +kernel
theorem d_Model_same_65 : decode prog_14_method_57_code 65 = .ok (.goto (-41), 3) := by decide +kernel
theorem d_Model_same_68 : decode prog_14_method_57_code 68 = .ok (.iload_n 3, 1) := by decide +kernel
theorem d_Model_same_69 : decode prog_14_method_57_code 69 = .ok (.ireturn, 1) := by decide +kernel
theorem d_Model_joined_0 : decode prog_14_method_62_code 0 = .ok (.aload_n 0, 1) := by decide +kernel
theorem d_Model_joined_1 : decode prog_14_method_62_code 1 = .ok (.bipush 83, 2) := by decide +kernel
theorem d_Model_joined_3 : decode prog_14_method_62_code 3 = .ok (.invokevirtual 286, 3) := by decide +kernel
theorem d_Model_joined_6 : decode prog_14_method_62_code 6 = .ok (.aload_n 0, 1) := by decide +kernel
theorem d_Model_joined_7 : decode prog_14_method_62_code 7 = .ok (.bipush 82, 2) := by decide +kernel
theorem d_Model_joined_9 : decode prog_14_method_62_code 9 = .ok (.invokevirtual 286, 3) := by decide +kernel
theorem d_Model_joined_12 : decode prog_14_method_62_code 12 = .ok (.iconst 0, 1) := by decide +kernel
theorem d_Model_joined_13 : decode prog_14_method_62_code 13 = .ok (.istore_n 1, 1) := by decide +kernel
theorem d_Model_joined_14 : decode prog_14_method_62_code 14 = .ok (.iload_n 1, 1) := by decide +kernel
theorem d_Model_joined_15 : decode prog_14_method_62_code 15 = .ok (.aload_n 0, 1) := by decide +kernel
theorem d_Model_joined_16 : decode prog_14_method_62_code 16 = .ok (.getfield 16, 3) := by decide +kernel
theorem d_Model_joined_19 : decode prog_14_method_62_code 19 = .ok (.bipush 83, 2) := by decide +kernel
theorem d_Model_joined_21 : decode prog_14_method_62_code 21 = .ok (.iaload, 1) := by decide +kernel
theorem d_Model_joined_22 : decode prog_14_method_62_code 22 = .ok (.if_icmp .ge 22, 3) := by decide +kernel
theorem d_Model_joined_25 : decode prog_14_method_62_code 25 = .ok (.aload_n 0, 1) := by decide +kernel
theorem d_Model_joined_26 : decode prog_14_method_62_code 26 = .ok (.bipush 82, 2) := by decide +kernel
theorem d_Model_joined_28 : decode prog_14_method_62_code 28 = .ok (.aload_n 0, 1) := by decide +kernel
theorem d_Model_joined_29 : decode prog_14_method_62_code 29 = .ok (.bipush 83, 2) := by decide +kernel
theorem d_Model_joined_31 : decode prog_14_method_62_code 31 = .ok (.iload_n 1, 1) := by decide +kernel
theorem d_Model_joined_32 : decode prog_14_method_62_code 32 = .ok (.invokevirtual 99, 3) := by decide +kernel
theorem d_Model_joined_35 : decode prog_14_method_62_code 35 = .ok (.invokevirtual 124, 3) := by decide +kernel
theorem d_Model_joined_38 : decode prog_14_method_62_code 38 = .ok (.iinc 1 1, 3) := by decide +kernel
theorem d_Model_joined_41 : decode prog_14_method_62_code 41 = .ok (.goto (-27), 3) := by decide +kernel
theorem d_Model_joined_44 : decode prog_14_method_62_code 44 = .ok (.aload_n 0, 1) := by decide +kernel
theorem d_Model_joined_45 : decode prog_14_method_62_code 45 = .ok (.bipush 82, 2) := by decide +kernel
theorem d_Model_joined_47 : decode prog_14_method_62_code 47 = .ok (.invokevirtual 263, 3) := by decide +kernel
theorem d_Model_joined_50 : decode prog_14_method_62_code 50 = .ok (.return_, 1) := by decide +kernel
theorem d_Model_taken_0 : decode prog_14_method_54_code 0 = .ok (.aload_n 0, 1) := by decide +kernel
theorem d_Model_taken_1 : decode prog_14_method_54_code 1 = .ok (.iload_n 1, 1) := by decide +kernel
theorem d_Model_taken_2 : decode prog_14_method_54_code 2 = .ok (.invokevirtual 120, 3) := by decide +kernel
theorem d_Model_taken_5 : decode prog_14_method_54_code 5 = .ok (.aload_n 0, 1) := by decide +kernel
theorem d_Model_taken_6 : decode prog_14_method_54_code 6 = .ok (.getfield 250, 3) := by decide +kernel
theorem d_Model_taken_9 : decode prog_14_method_54_code 9 = .ok (.ifCond .ne 10, 3) := by decide +kernel
theorem d_Model_taken_12 : decode prog_14_method_54_code 12 = .ok (.aload_n 0, 1) := by decide +kernel
theorem d_Model_taken_13 : decode prog_14_method_54_code 13 = .ok (.bipush 7, 2) := by decide +kernel
theorem d_Model_taken_15 : decode prog_14_method_54_code 15 = .ok (.invokevirtual 144, 3) := by decide +kernel
theorem d_Model_taken_18 : decode prog_14_method_54_code 18 = .ok (.return_, 1) := by decide +kernel
theorem d_Model_taken_19 : decode prog_14_method_54_code 19 = .ok (.aload_n 0, 1) := by decide +kernel
theorem d_Model_taken_20 : decode prog_14_method_54_code 20 = .ok (.dup, 1) := by decide +kernel
theorem d_Model_taken_21 : decode prog_14_method_54_code 21 = .ok (.getfield 250, 3) := by decide +kernel
theorem d_Model_taken_24 : decode prog_14_method_54_code 24 = .ok (.iconst 1, 1) := by decide +kernel
theorem d_Model_taken_25 : decode prog_14_method_54_code 25 = .ok (.isub, 1) := by decide +kernel
theorem d_Model_taken_26 : decode prog_14_method_54_code 26 = .ok (.putfield 250, 3) := by decide +kernel
theorem d_Model_taken_29 : decode prog_14_method_54_code 29 = .ok (.aload_n 0, 1) := by decide +kernel
theorem d_Model_taken_30 : decode prog_14_method_54_code 30 = .ok (.getfield 56, 3) := by decide +kernel
theorem d_Model_taken_33 : decode prog_14_method_54_code 33 = .ok (.aload_n 0, 1) := by decide +kernel
theorem d_Model_taken_34 : decode prog_14_method_54_code 34 = .ok (.getfield 250, 3) := by decide +kernel
theorem d_Model_taken_37 : decode prog_14_method_54_code 37 = .ok (.iaload, 1) := by decide +kernel
theorem d_Model_taken_38 : decode prog_14_method_54_code 38 = .ok (.iconst 1, 1) := by decide +kernel
theorem d_Model_taken_39 : decode prog_14_method_54_code 39 = .ok (.if_icmp .ne 15, 3) := by decide +kernel
theorem d_Model_taken_42 : decode prog_14_method_54_code 42 = .ok (.aload_n 0, 1) := by decide +kernel
theorem d_Model_taken_43 : decode prog_14_method_54_code 43 = .ok (.bipush 70, 2) := by decide +kernel
theorem d_Model_taken_45 : decode prog_14_method_54_code 45 = .ok (.aload_n 0, 1) := by decide +kernel
theorem d_Model_taken_46 : decode prog_14_method_54_code 46 = .ok (.getfield 250, 3) := by decide +kernel
theorem d_Model_taken_49 : decode prog_14_method_54_code 49 = .ok (.iadd, 1) := by decide +kernel
theorem d_Model_taken_50 : decode prog_14_method_54_code 50 = .ok (.iload_n 1, 1) := by decide +kernel
theorem d_Model_taken_51 : decode prog_14_method_54_code 51 = .ok (.invokevirtual 194, 3) := by decide +kernel
theorem d_Model_taken_54 : decode prog_14_method_54_code 54 = .ok (.aload_n 0, 1) := by decide +kernel
theorem d_Model_taken_55 : decode prog_14_method_54_code 55 = .ok (.getfield 56, 3) := by decide +kernel
theorem d_Model_taken_58 : decode prog_14_method_54_code 58 = .ok (.aload_n 0, 1) := by decide +kernel
theorem d_Model_taken_59 : decode prog_14_method_54_code 59 = .ok (.getfield 250, 3) := by decide +kernel
theorem d_Model_taken_62 : decode prog_14_method_54_code 62 = .ok (.iaload, 1) := by decide +kernel
theorem d_Model_taken_63 : decode prog_14_method_54_code 63 = .ok (.ifCond .ne 9, 3) := by decide +kernel
theorem d_Model_taken_66 : decode prog_14_method_54_code 66 = .ok (.aload_n 0, 1) := by decide +kernel
theorem d_Model_taken_67 : decode prog_14_method_54_code 67 = .ok (.bipush 7, 2) := by decide +kernel
theorem d_Model_taken_69 : decode prog_14_method_54_code 69 = .ok (.invokevirtual 144, 3) := by decide +kernel
theorem d_Model_taken_72 : decode prog_14_method_54_code 72 = .ok (.return_, 1) := by decide +kernel
theorem d_Model_exchanges_0 : decode prog_14_method_59_code 0 = .ok (.aload_n 0, 1) := by decide +kernel
theorem d_Model_exchanges_1 : decode prog_14_method_59_code 1 = .ok (.bipush 83, 2) := by decide +kernel
theorem d_Model_exchanges_3 : decode prog_14_method_59_code 3 = .ok (.invokevirtual 269, 3) := by decide +kernel
theorem d_Model_exchanges_6 : decode prog_14_method_59_code 6 = .ok (.istore_n 2, 1) := by decide +kernel
theorem d_Model_exchanges_7 : decode prog_14_method_59_code 7 = .ok (.aload_n 0, 1) := by decide +kernel
theorem d_Model_exchanges_8 : decode prog_14_method_59_code 8 = .ok (.getfield 257, 3) := by decide +kernel
theorem d_Model_exchanges_11 : decode prog_14_method_59_code 11 = .ok (.istore_n 3, 1) := by decide +kernel
theorem d_Model_exchanges_12 : decode prog_14_method_59_code 12 = .ok (.iload_n 1, 1) := by decide +kernel
theorem d_Model_exchanges_13 : decode prog_14_method_59_code 13 = .ok (.ifCond .eq 7, 3) := by decide +kernel
theorem d_Model_exchanges_16 : decode prog_14_method_59_code 16 = .ok (.iload_n 2, 1) := by decide +kernel
theorem d_Model_exchanges_17 : decode prog_14_method_59_code 17 = .ok (.goto 9, 3) := by decide +kernel
theorem d_Model_exchanges_20 : decode prog_14_method_59_code 20 = .ok (.aload_n 0, 1) := by decide +kernel
theorem d_Model_exchanges_21 : decode prog_14_method_59_code 21 = .ok (.bipush 82, 2) := by decide +kernel
theorem d_Model_exchanges_23 : decode prog_14_method_59_code 23 = .ok (.invokevirtual 269, 3) := by decide +kernel
theorem d_Model_exchanges_26 : decode prog_14_method_59_code 26 = .ok (.istore 4, 2) := by decide +kernel
theorem d_Model_exchanges_28 : decode prog_14_method_59_code 28 = .ok (.iload_n 1, 1) := by decide +kernel
theorem d_Model_exchanges_29 : decode prog_14_method_59_code 29 = .ok (.ifCond .eq 7, 3) := by decide +kernel
theorem d_Model_exchanges_32 : decode prog_14_method_59_code 32 = .ok (.iload_n 3, 1) := by decide +kernel
theorem d_Model_exchanges_33 : decode prog_14_method_59_code 33 = .ok (.goto 7, 3) := by decide +kernel
theorem d_Model_exchanges_36 : decode prog_14_method_59_code 36 = .ok (.aload_n 0, 1) := by decide +kernel
theorem d_Model_exchanges_37 : decode prog_14_method_59_code 37 = .ok (.getfield 257, 3) := by decide +kernel
theorem d_Model_exchanges_40 : decode prog_14_method_59_code 40 = .ok (.istore 5, 2) := by decide +kernel
theorem d_Model_exchanges_42 : decode prog_14_method_59_code 42 = .ok (.aload_n 0, 1) := by decide +kernel
theorem d_Model_exchanges_43 : decode prog_14_method_59_code 43 = .ok (.iload_n 3, 1) := by decide +kernel
theorem d_Model_exchanges_44 : decode prog_14_method_59_code 44 = .ok (.iload_n 2, 1) := by decide +kernel
theorem d_Model_exchanges_45 : decode prog_14_method_59_code 45 = .ok (.bipush 83, 2) := by decide +kernel
theorem d_Model_exchanges_47 : decode prog_14_method_59_code 47 = .ok (.invokevirtual 275, 3) := by decide +kernel
theorem d_Model_exchanges_50 : decode prog_14_method_59_code 50 = .ok (.aload_n 0, 1) := by decide +kernel
theorem d_Model_exchanges_51 : decode prog_14_method_59_code 51 = .ok (.iload 5, 2) := by decide +kernel
theorem d_Model_exchanges_53 : decode prog_14_method_59_code 53 = .ok (.iload 4, 2) := by decide +kernel
theorem d_Model_exchanges_55 : decode prog_14_method_59_code 55 = .ok (.iload_n 1, 1) := by decide +kernel
theorem d_Model_exchanges_56 : decode prog_14_method_59_code 56 = .ok (.ifCond .eq 8, 3) := by decide +kernel
theorem d_Model_exchanges_59 : decode prog_14_method_59_code 59 = .ok (.bipush 83, 2) := by decide +kernel
theorem d_Model_exchanges_61 : decode prog_14_method_59_code 61 = .ok (.goto 5, 3) := by decide +kernel
theorem d_Model_exchanges_64 : decode prog_14_method_59_code 64 = .ok (.bipush 82, 2) := by decide +kernel
theorem d_Model_exchanges_66 : decode prog_14_method_59_code 66 = .ok (.invokevirtual 275, 3) := by decide +kernel
theorem d_Model_exchanges_69 : decode prog_14_method_59_code 69 = .ok (.return_, 1) := by decide +kernel
theorem d_Model_giveAny_0 : decode prog_14_method_56_code 0 = .ok (.iload_n 1, 1) := by decide +kernel
theorem d_Model_giveAny_1 : decode prog_14_method_56_code 1 = .ok (.ifCond .ne 11, 3) := by decide +kernel
theorem d_Model_giveAny_4 : decode prog_14_method_56_code 4 = .ok (.aload_n 0, 1) := by decide +kernel
theorem d_Model_giveAny_5 : decode prog_14_method_56_code 5 = .ok (.iload_n 2, 1) := by decide +kernel
theorem d_Model_giveAny_6 : decode prog_14_method_56_code 6 = .ok (.invokevirtual 260, 3) := by decide +kernel
theorem d_Model_giveAny_9 : decode prog_14_method_56_code 9 = .ok (.goto 20, 3) := by decide +kernel
theorem d_Model_giveAny_12 : decode prog_14_method_56_code 12 = .ok (.iload_n 1, 1) := by decide +kernel
theorem d_Model_giveAny_13 : decode prog_14_method_56_code 13 = .ok (.iconst 1, 1) := by decide +kernel
theorem d_Model_giveAny_14 : decode prog_14_method_56_code 14 = .ok (.if_icmp .ne 11, 3) := by decide +kernel
theorem d_Model_giveAny_17 : decode prog_14_method_56_code 17 = .ok (.aload_n 0, 1) := by decide +kernel
theorem d_Model_giveAny_18 : decode prog_14_method_56_code 18 = .ok (.iload_n 3, 1) := by decide +kernel
theorem d_Model_giveAny_19 : decode prog_14_method_56_code 19 = .ok (.invokevirtual 263, 3) := by decide +kernel
theorem d_Model_giveAny_22 : decode prog_14_method_56_code 22 = .ok (.goto 7, 3) := by decide +kernel
theorem d_Model_giveAny_25 : decode prog_14_method_56_code 25 = .ok (.aload_n 0, 1) := by decide +kernel
theorem d_Model_giveAny_26 : decode prog_14_method_56_code 26 = .ok (.invokevirtual 266, 3) := by decide +kernel
theorem d_Model_giveAny_29 : decode prog_14_method_56_code 29 = .ok (.return_, 1) := by decide +kernel
theorem d_Model_empties_0 : decode prog_14_method_63_code 0 = .ok (.aload_n 0, 1) := by decide +kernel
theorem d_Model_empties_1 : decode prog_14_method_63_code 1 = .ok (.bipush 82, 2) := by decide +kernel
theorem d_Model_empties_3 : decode prog_14_method_63_code 3 = .ok (.invokevirtual 269, 3) := by decide +kernel
theorem d_Model_empties_6 : decode prog_14_method_63_code 6 = .ok (.pop, 1) := by decide +kernel
theorem d_Model_empties_7 : decode prog_14_method_63_code 7 = .ok (.aload_n 0, 1) := by decide +kernel
theorem d_Model_empties_8 : decode prog_14_method_63_code 8 = .ok (.getfield 257, 3) := by decide +kernel
theorem d_Model_empties_11 : decode prog_14_method_63_code 11 = .ok (.ifCond .eq 7, 3) := by decide +kernel
theorem d_Model_empties_14 : decode prog_14_method_63_code 14 = .ok (.iconst 1, 1) := by decide +kernel
theorem d_Model_empties_15 : decode prog_14_method_63_code 15 = .ok (.goto 4, 3) := by decide +kernel
theorem d_Model_empties_18 : decode prog_14_method_63_code 18 = .ok (.iconst 0, 1) := by decide +kernel
theorem d_Model_empties_19 : decode prog_14_method_63_code 19 = .ok (.istore_n 1, 1) := by decide +kernel
theorem d_Model_empties_20 : decode prog_14_method_63_code 20 = .ok (.iconst 0, 1) := by decide +kernel
theorem d_Model_empties_21 : decode prog_14_method_63_code 21 = .ok (.istore_n 2, 1) := by decide +kernel
theorem d_Model_empties_22 : decode prog_14_method_63_code 22 = .ok (.iload_n 2, 1) := by decide +kernel
theorem d_Model_empties_23 : decode prog_14_method_63_code 23 = .ok (.aload_n 0, 1) := by decide +kernel
theorem d_Model_empties_24 : decode prog_14_method_63_code 24 = .ok (.getfield 16, 3) := by decide +kernel
theorem d_Model_empties_27 : decode prog_14_method_63_code 27 = .ok (.bipush 82, 2) := by decide +kernel
theorem d_Model_empties_29 : decode prog_14_method_63_code 29 = .ok (.iaload, 1) := by decide +kernel
theorem d_Model_empties_30 : decode prog_14_method_63_code 30 = .ok (.if_icmp .ge 31, 3) := by decide +kernel
theorem d_Model_empties_33 : decode prog_14_method_63_code 33 = .ok (.iload_n 1, 1) := by decide +kernel
theorem d_Model_empties_34 : decode prog_14_method_63_code 34 = .ok (.ifCond .eq 19, 3) := by decide +kernel
theorem d_Model_empties_37 : decode prog_14_method_63_code 37 = .ok (.aload_n 0, 1) := by decide +kernel
theorem d_Model_empties_38 : decode prog_14_method_63_code 38 = .ok (.bipush 82, 2) := by decide +kernel
theorem d_Model_empties_40 : decode prog_14_method_63_code 40 = .ok (.iload_n 2, 1) := by decide +kernel
theorem d_Model_empties_41 : decode prog_14_method_63_code 41 = .ok (.invokevirtual 99, 3) := by decide +kernel
theorem d_Model_empties_44 : decode prog_14_method_63_code 44 = .ok (.bipush 32, 2) := by decide +kernel
theorem d_Model_empties_46 : decode prog_14_method_63_code 46 = .ok (.if_icmp .ne 7, 3) := by decide +kernel
theorem d_Model_empties_49 : decode prog_14_method_63_code 49 = .ok (.iconst 1, 1) := by decide +kernel
theorem d_Model_empties_50 : decode prog_14_method_63_code 50 = .ok (.goto 4, 3) := by decide +kernel
theorem d_Model_empties_53 : decode prog_14_method_63_code 53 = .ok (.iconst 0, 1) := by decide +kernel
theorem d_Model_empties_54 : decode prog_14_method_63_code 54 = .ok (.istore_n 1, 1) := by decide +kernel
theorem d_Model_empties_55 : decode prog_14_method_63_code 55 = .ok (.iinc 2 1, 3) := by decide +kernel
theorem d_Model_empties_58 : decode prog_14_method_63_code 58 = .ok (.goto (-36), 3) := by decide +kernel
theorem d_Model_empties_61 : decode prog_14_method_63_code 61 = .ok (.aload_n 0, 1) := by decide +kernel
theorem d_Model_empties_62 : decode prog_14_method_63_code 62 = .ok (.iload_n 1, 1) := by decide +kernel
theorem d_Model_empties_63 : decode prog_14_method_63_code 63 = .ok (.ifCond .eq 7, 3) := by decide +kernel
theorem d_Model_empties_66 : decode prog_14_method_63_code 66 = .ok (.iconst 1, 1) := by decide +kernel
theorem d_Model_empties_67 : decode prog_14_method_63_code 67 = .ok (.goto 4, 3) := by decide +kernel
theorem d_Model_empties_70 : decode prog_14_method_63_code 70 = .ok (.iconst 0, 1) := by decide +kernel
theorem d_Model_empties_71 : decode prog_14_method_63_code 71 = .ok (.invokevirtual 260, 3) := by decide +kernel
theorem d_Model_empties_74 : decode prog_14_method_63_code 74 = .ok (.return_, 1) := by decide +kernel
theorem d_Model_more_0 : decode prog_14_method_65_code 0 = .ok (.lload_n 2, 1) := by decide +kernel
theorem d_Model_more_1 : decode prog_14_method_65_code 1 = .ok (.lconst 0, 1) := by decide +kernel
theorem d_Model_more_2 : decode prog_14_method_65_code 2 = .ok (.lcmp, 1) := by decide +kernel
theorem d_Model_more_3 : decode prog_14_method_65_code 3 = .ok (.ifCond .ge 7, 3) := by decide +kernel
theorem d_Model_more_6 : decode prog_14_method_65_code 6 = .ok (.lconst 0, 1) := by decide +kernel
theorem d_Model_more_7 : decode prog_14_method_65_code 7 = .ok (.goto 8, 3) := by decide +kernel
theorem d_Model_more_10 : decode prog_14_method_65_code 10 = .ok (.lload_n 2, 1) := by decide +kernel
theorem d_Model_more_11 : decode prog_14_method_65_code 11 = .ok (.ldc2_w 308, 3) := by decide +kernel
theorem d_Model_more_14 : decode prog_14_method_65_code 14 = .ok (.lrem, 1) := by decide +kernel
theorem d_Model_more_15 : decode prog_14_method_65_code 15 = .ok (.l2i, 1) := by decide +kernel
theorem d_Model_more_16 : decode prog_14_method_65_code 16 = .ok (.istore 4, 2) := by decide +kernel
theorem d_Model_more_18 : decode prog_14_method_65_code 18 = .ok (.iload_n 1, 1) := by decide +kernel
theorem d_Model_more_19 : decode prog_14_method_65_code 19 = .ok (.bipush 16, 2) := by decide +kernel
theorem d_Model_more_21 : decode prog_14_method_65_code 21 = .ok (.if_icmp .ne 14, 3) := by decide +kernel
theorem d_Model_more_24 : decode prog_14_method_65_code 24 = .ok (.aload_n 0, 1) := by decide +kernel
theorem d_Model_more_25 : decode prog_14_method_65_code 25 = .ok (.getfield 53, 3) := by decide +kernel
theorem d_Model_more_28 : decode prog_14_method_65_code 28 = .ok (.iload 4, 2) := by decide +kernel
theorem d_Model_more_30 : decode prog_14_method_65_code 30 = .ok (.aload_n 0, 1) := by decide +kernel
theorem d_Model_more_31 : decode prog_14_method_65_code 31 = .ok (.invokevirtual 292, 3) := by decide +kernel
theorem d_Model_more_34 : decode prog_14_method_65_code 34 = .ok (.iastore, 1) := by decide +kernel
theorem d_Model_more_35 : decode prog_14_method_65_code 35 = .ok (.iload_n 1, 1) := by decide +kernel
theorem d_Model_more_36 : decode prog_14_method_65_code 36 = .ok (.bipush 17, 2) := by decide +kernel
theorem d_Model_more_38 : decode prog_14_method_65_code 38 = .ok (.if_icmp .ne 14, 3) := by decide +kernel
theorem d_Model_more_41 : decode prog_14_method_65_code 41 = .ok (.aload_n 0, 1) := by decide +kernel
theorem d_Model_more_42 : decode prog_14_method_65_code 42 = .ok (.aload_n 0, 1) := by decide +kernel
theorem d_Model_more_43 : decode prog_14_method_65_code 43 = .ok (.getfield 53, 3) := by decide +kernel
theorem d_Model_more_46 : decode prog_14_method_65_code 46 = .ok (.iload 4, 2) := by decide +kernel
theorem d_Model_more_48 : decode prog_14_method_65_code 48 = .ok (.iaload, 1) := by decide +kernel
theorem d_Model_more_49 : decode prog_14_method_65_code 49 = .ok (.invokevirtual 260, 3) := by decide +kernel
theorem d_Model_more_52 : decode prog_14_method_65_code 52 = .ok (.iload_n 1, 1) := by decide +kernel
theorem d_Model_more_53 : decode prog_14_method_65_code 53 = .ok (.bipush 18, 2) := by decide +kernel
theorem d_Model_more_55 : decode prog_14_method_65_code 55 = .ok (.if_icmp .eq 9, 3) := by decide +kernel
theorem d_Model_more_58 : decode prog_14_method_65_code 58 = .ok (.iload_n 1, 1) := by decide +kernel
theorem d_Model_more_59 : decode prog_14_method_65_code 59 = .ok (.bipush 19, 2) := by decide +kernel
theorem d_Model_more_61 : decode prog_14_method_65_code 61 = .ok (.if_icmp .ne 8, 3) := by decide +kernel
theorem d_Model_more_64 : decode prog_14_method_65_code 64 = .ok (.aload_n 0, 1) := by decide +kernel
theorem d_Model_more_65 : decode prog_14_method_65_code 65 = .ok (.iload_n 1, 1) := by decide +kernel
theorem d_Model_more_66 : decode prog_14_method_65_code 66 = .ok (.invokevirtual 310, 3) := by decide +kernel
theorem d_Model_more_69 : decode prog_14_method_65_code 69 = .ok (.iload_n 1, 1) := by decide +kernel
theorem d_Model_more_70 : decode prog_14_method_65_code 70 = .ok (.bipush 20, 2) := by decide +kernel
theorem d_Model_more_72 : decode prog_14_method_65_code 72 = .ok (.if_icmp .ne 29, 3) := by decide +kernel
theorem d_Model_more_75 : decode prog_14_method_65_code 75 = .ok (.aload_n 0, 1) := by decide +kernel
theorem d_Model_more_76 : decode prog_14_method_65_code 76 = .ok (.bipush 82, 2) := by decide +kernel
theorem d_Model_more_78 : decode prog_14_method_65_code 78 = .ok (.invokevirtual 286, 3) := by decide +kernel
theorem d_Model_more_81 : decode prog_14_method_65_code 81 = .ok (.aload_n 0, 1) := by decide +kernel
theorem d_Model_more_82 : decode prog_14_method_65_code 82 = .ok (.getfield 279, 3) := by decide +kernel
theorem d_Model_more_85 : decode prog_14_method_65_code 85 = .ok (.ifCond .lt 16, 3) := by decide +kernel
theorem d_Model_more_88 : decode prog_14_method_65_code 88 = .ok (.aload_n 0, 1) := by decide +kernel
theorem d_Model_more_89 : decode prog_14_method_65_code 89 = .ok (.bipush 82, 2) := by decide +kernel
theorem d_Model_more_91 : decode prog_14_method_65_code 91 = .ok (.bipush 62, 2) := by decide +kernel
theorem d_Model_more_93 : decode prog_14_method_65_code 93 = .ok (.aload_n 0, 1) := by decide +kernel
theorem d_Model_more_94 : decode prog_14_method_65_code 94 = .ok (.getfield 279, 3) := by decide +kernel
theorem d_Model_more_97 : decode prog_14_method_65_code 97 = .ok (.iadd, 1) := by decide +kernel
theorem d_Model_more_98 : decode prog_14_method_65_code 98 = .ok (.invokevirtual 194, 3) := by decide +kernel
theorem d_Model_more_101 : decode prog_14_method_65_code 101 = .ok (.iload_n 1, 1) := by decide +kernel
theorem d_Model_more_102 : decode prog_14_method_65_code 102 = .ok (.bipush 21, 2) := by decide +kernel
theorem d_Model_more_104 : decode prog_14_method_65_code 104 = .ok (.if_icmp .ne 13, 3) := by decide +kernel
theorem d_Model_more_107 : decode prog_14_method_65_code 107 = .ok (.aload_n 0, 1) := by decide +kernel
theorem d_Model_more_108 : decode prog_14_method_65_code 108 = .ok (.bipush 82, 2) := by decide +kernel
theorem d_Model_more_110 : decode prog_14_method_65_code 110 = .ok (.invokevirtual 286, 3) := by decide +kernel
theorem d_Model_more_113 : decode prog_14_method_65_code 113 = .ok (.aload_n 0, 1) := by decide +kernel
theorem d_Model_more_114 : decode prog_14_method_65_code 114 = .ok (.invokevirtual 313, 3) := by decide +kernel
theorem d_Model_more_117 : decode prog_14_method_65_code 117 = .ok (.iload_n 1, 1) := by decide +kernel
theorem d_Model_more_118 : decode prog_14_method_65_code 118 = .ok (.bipush 22, 2) := by decide +kernel
theorem d_Model_more_120 : decode prog_14_method_65_code 120 = .ok (.if_icmp .ne 18, 3) := by decide +kernel
theorem d_Model_more_123 : decode prog_14_method_65_code 123 = .ok (.aload_n 0, 1) := by decide +kernel
theorem d_Model_more_124 : decode prog_14_method_65_code 124 = .ok (.getfield 316, 3) := by decide +kernel
theorem d_Model_more_127 : decode prog_14_method_65_code 127 = .ok (.ifCond .le 11, 3) := by decide +kernel
theorem d_Model_more_130 : decode prog_14_method_65_code 130 = .ok (.aload_n 0, 1) := by decide +kernel
theorem d_Model_more_131 : decode prog_14_method_65_code 131 = .ok (.aload_n 0, 1) := by decide +kernel
theorem d_Model_more_132 : decode prog_14_method_65_code 132 = .ok (.getfield 316, 3) := by decide +kernel
theorem d_Model_more_135 : decode prog_14_method_65_code 135 = .ok (.invokevirtual 319, 3) := by decide +kernel
theorem d_Model_more_138 : decode prog_14_method_65_code 138 = .ok (.return_, 1) := by decide +kernel
theorem d_Model_entrys_0 : decode prog_14_method_60_code 0 = .ok (.aload_n 0, 1) := by decide +kernel
theorem d_Model_entrys_1 : decode prog_14_method_60_code 1 = .ok (.getfield 279, 3) := by decide +kernel
theorem d_Model_entrys_4 : decode prog_14_method_60_code 4 = .ok (.ifCond .ge 8, 3) := by decide +kernel
theorem d_Model_entrys_7 : decode prog_14_method_60_code 7 = .ok (.aload_n 0, 1) := by decide +kernel
theorem d_Model_entrys_8 : decode prog_14_method_60_code 8 = .ok (.invokevirtual 266, 3) := by decide +kernel
theorem d_Model_entrys_11 : decode prog_14_method_60_code 11 = .ok (.return_, 1) := by decide +kernel
theorem d_Model_entrys_12 : decode prog_14_method_60_code 12 = .ok (.aload_n 0, 1) := by decide +kernel
theorem d_Model_entrys_13 : decode prog_14_method_60_code 13 = .ok (.iload_n 1, 1) := by decide +kernel
theorem d_Model_entrys_14 : decode prog_14_method_60_code 14 = .ok (.bipush 18, 2) := by decide +kernel
theorem d_Model_entrys_16 : decode prog_14_method_60_code 16 = .ok (.if_icmp .ne 15, 3) := by decide +kernel
theorem d_Model_entrys_19 : decode prog_14_method_60_code 19 = .ok (.aload_n 0, 1) := by decide +kernel
theorem d_Model_entrys_20 : decode prog_14_method_60_code 20 = .ok (.getfield 22, 3) := by decide +kernel
theorem d_Model_entrys_23 : decode prog_14_method_60_code 23 = .ok (.aload_n 0, 1) := by decide +kernel
theorem d_Model_entrys_24 : decode prog_14_method_60_code 24 = .ok (.getfield 279, 3) := by decide +kernel
theorem d_Model_entrys_27 : decode prog_14_method_60_code 27 = .ok (.laload, 1) := by decide +kernel
theorem d_Model_entrys_28 : decode prog_14_method_60_code 28 = .ok (.goto 12, 3) := by decide +kernel
theorem d_Model_entrys_31 : decode prog_14_method_60_code 31 = .ok (.aload_n 0, 1) := by decide +kernel
theorem d_Model_entrys_32 : decode prog_14_method_60_code 32 = .ok (.getfield 26, 3) := by decide +kernel
theorem d_Model_entrys_35 : decode prog_14_method_60_code 35 = .ok (.aload_n 0, 1) := by decide +kernel
theorem d_Model_entrys_36 : decode prog_14_method_60_code 36 = .ok (.getfield 279, 3) := by decide +kernel
theorem d_Model_entrys_39 : decode prog_14_method_60_code 39 = .ok (.laload, 1) := by decide +kernel
theorem d_Model_entrys_40 : decode prog_14_method_60_code 40 = .ok (.bipush 84, 2) := by decide +kernel
theorem d_Model_entrys_42 : decode prog_14_method_60_code 42 = .ok (.invokevirtual 282, 3) := by decide +kernel
theorem d_Model_entrys_45 : decode prog_14_method_60_code 45 = .ok (.aload_n 0, 1) := by decide +kernel
theorem d_Model_entrys_46 : decode prog_14_method_60_code 46 = .ok (.bipush 84, 2) := by decide +kernel
theorem d_Model_entrys_48 : decode prog_14_method_60_code 48 = .ok (.invokevirtual 263, 3) := by decide +kernel
theorem d_Model_entrys_51 : decode prog_14_method_60_code 51 = .ok (.return_, 1) := by decide +kernel
theorem d_Model_putOut_0 : decode prog_14_method_81_code 0 = .ok (.iconst 0, 1) := by decide +kernel
theorem d_Model_putOut_1 : decode prog_14_method_81_code 1 = .ok (.istore_n 1, 1) := by decide +kernel
theorem d_Model_putOut_2 : decode prog_14_method_81_code 2 = .ok (.iload_n 1, 1) := by decide +kernel
theorem d_Model_putOut_3 : decode prog_14_method_81_code 3 = .ok (.aload_n 0, 1) := by decide +kernel
theorem d_Model_putOut_4 : decode prog_14_method_81_code 4 = .ok (.getfield 16, 3) := by decide +kernel
theorem d_Model_putOut_7 : decode prog_14_method_81_code 7 = .ok (.bipush 82, 2) := by decide +kernel
theorem d_Model_putOut_9 : decode prog_14_method_81_code 9 = .ok (.iaload, 1) := by decide +kernel
theorem d_Model_putOut_10 : decode prog_14_method_81_code 10 = .ok (.if_icmp .ge 45, 3) := by decide +kernel
theorem d_Model_putOut_13 : decode prog_14_method_81_code 13 = .ok (.aload_n 0, 1) := by decide +kernel
theorem d_Model_putOut_14 : decode prog_14_method_81_code 14 = .ok (.getfield 316, 3) := by decide +kernel
theorem d_Model_putOut_17 : decode prog_14_method_81_code 17 = .ok (.sipush 180, 3) := by decide +kernel
theorem d_Model_putOut_20 : decode prog_14_method_81_code 20 = .ok (.if_icmp .ge 35, 3) := by decide +kernel
theorem d_Model_putOut_23 : decode prog_14_method_81_code 23 = .ok (.aload_n 0, 1) := by decide +kernel
theorem d_Model_putOut_24 : decode prog_14_method_81_code 24 = .ok (.getfield 86, 3) := by decide +kernel
theorem d_Model_putOut_27 : decode prog_14_method_81_code 27 = .ok (.aload_n 0, 1) := by decide +kernel
theorem d_Model_putOut_28 : decode prog_14_method_81_code 28 = .ok (.getfield 316, 3) := by decide +kernel
theorem d_Model_putOut_31 : decode prog_14_method_81_code 31 = .ok (.aload_n 0, 1) := by decide +kernel
theorem d_Model_putOut_32 : decode prog_14_method_81_code 32 = .ok (.bipush 82, 2) := by decide +kernel
theorem d_Model_putOut_34 : decode prog_14_method_81_code 34 = .ok (.iload_n 1, 1) := by decide +kernel
theorem d_Model_putOut_35 : decode prog_14_method_81_code 35 = .ok (.invokevirtual 99, 3) := by decide +kernel
theorem d_Model_putOut_38 : decode prog_14_method_81_code 38 = .ok (.iastore, 1) := by decide +kernel
theorem d_Model_putOut_39 : decode prog_14_method_81_code 39 = .ok (.aload_n 0, 1) := by decide +kernel
theorem d_Model_putOut_40 : decode prog_14_method_81_code 40 = .ok (.dup, 1) := by decide +kernel
theorem d_Model_putOut_41 : decode prog_14_method_81_code 41 = .ok (.getfield 316, 3) := by decide +kernel
theorem d_Model_putOut_44 : decode prog_14_method_81_code 44 = .ok (.iconst 1, 1) := by decide +kernel
theorem d_Model_putOut_45 : decode prog_14_method_81_code 45 = .ok (.iadd, 1) := by decide +kernel
theorem d_Model_putOut_46 : decode prog_14_method_81_code 46 = .ok (.putfield 316, 3) := by decide +kernel
theorem d_Model_putOut_49 : decode prog_14_method_81_code 49 = .ok (.iinc 1 1, 3) := by decide +kernel
theorem d_Model_putOut_52 : decode prog_14_method_81_code 52 = .ok (.goto (-50), 3) := by decide +kernel
theorem d_Model_putOut_55 : decode prog_14_method_81_code 55 = .ok (.iconst 1, 1) := by decide +kernel
theorem d_Model_putOut_56 : decode prog_14_method_81_code 56 = .ok (.istore_n 1, 1) := by decide +kernel
theorem d_Model_putOut_57 : decode prog_14_method_81_code 57 = .ok (.iload_n 1, 1) := by decide +kernel
theorem d_Model_putOut_58 : decode prog_14_method_81_code 58 = .ok (.ifCond .eq 123, 3) := by decide +kernel
theorem d_Model_putOut_61 : decode prog_14_method_81_code 61 = .ok (.aload_n 0, 1) := by decide +kernel
theorem d_Model_putOut_62 : decode prog_14_method_81_code 62 = .ok (.getfield 316, 3) := by decide +kernel
theorem d_Model_putOut_65 : decode prog_14_method_81_code 65 = .ok (.bipush 30, 2) := by decide +kernel
theorem d_Model_putOut_67 : decode prog_14_method_81_code 67 = .ok (.if_icmp .le 114, 3) := by decide +kernel
theorem d_Model_putOut_70 : decode prog_14_method_81_code 70 = .ok (.iconst (-1), 1) := by decide +kernel
theorem d_Model_putOut_71 : decode prog_14_method_81_code 71 = .ok (.istore_n 2, 1) := by decide +kernel
theorem d_Model_putOut_72 : decode prog_14_method_81_code 72 = .ok (.iconst (-1), 1) := by decide +kernel
theorem d_Model_putOut_73 : decode prog_14_method_81_code 73 = .ok (.istore_n 3, 1) := by decide +kernel
theorem d_Model_putOut_74 : decode prog_14_method_81_code 74 = .ok (.iconst 3, 1) := by decide +kernel
theorem d_Model_putOut_75 : decode prog_14_method_81_code 75 = .ok (.istore 4, 2) := by decide +kernel
theorem d_Model_putOut_77 : decode prog_14_method_81_code 77 = .ok (.iload 4, 2) := by decide +kernel
theorem d_Model_putOut_79 : decode prog_14_method_81_code 79 = .ok (.aload_n 0, 1) := by decide +kernel
theorem d_Model_putOut_80 : decode prog_14_method_81_code 80 = .ok (.getfield 316, 3) := by decide +kernel
theorem d_Model_putOut_83 : decode prog_14_method_81_code 83 = .ok (.if_icmp .ge 63, 3) := by decide +kernel
theorem d_Model_putOut_86 : decode prog_14_method_81_code 86 = .ok (.aload_n 0, 1) := by decide +kernel
theorem d_Model_putOut_87 : decode prog_14_method_81_code 87 = .ok (.getfield 86, 3) := by decide +kernel
theorem d_Model_putOut_90 : decode prog_14_method_81_code 90 = .ok (.iload 4, 2) := by decide +kernel
theorem d_Model_putOut_92 : decode prog_14_method_81_code 92 = .ok (.iaload, 1) := by decide +kernel
theorem d_Model_putOut_93 : decode prog_14_method_81_code 93 = .ok (.bipush 32, 2) := by decide +kernel
theorem d_Model_putOut_95 : decode prog_14_method_81_code 95 = .ok (.if_icmp .ne 7, 3) := by decide +kernel
theorem d_Model_putOut_98 : decode prog_14_method_81_code 98 = .ok (.iconst 1, 1) := by decide +kernel
theorem d_Model_putOut_99 : decode prog_14_method_81_code 99 = .ok (.goto 4, 3) := by decide +kernel
theorem d_Model_putOut_102 : decode prog_14_method_81_code 102 = .ok (.iconst 0, 1) := by decide +kernel
theorem d_Model_putOut_103 : decode prog_14_method_81_code 103 = .ok (.istore 5, 2) := by decide +kernel
theorem d_Model_putOut_105 : decode prog_14_method_81_code 105 = .ok (.iload 5, 2) := by decide +kernel
theorem d_Model_putOut_107 : decode prog_14_method_81_code 107 = .ok (.ifCond .eq 12, 3) := by decide +kernel
theorem d_Model_putOut_110 : decode prog_14_method_81_code 110 = .ok (.iload_n 2, 1) := by decide +kernel
theorem d_Model_putOut_111 : decode prog_14_method_81_code 111 = .ok (.ifCond .ge 8, 3) := by decide +kernel
theorem d_Model_putOut_114 : decode prog_14_method_81_code 114 = .ok (.iload 4, 2) := by decide +kernel
theorem d_Model_putOut_116 : decode prog_14_method_81_code 116 = .ok (.goto 4, 3) := by decide +kernel
theorem d_Model_putOut_119 : decode prog_14_method_81_code 119 = .ok (.iload_n 2, 1) := by decide +kernel
theorem d_Model_putOut_120 : decode prog_14_method_81_code 120 = .ok (.istore_n 2, 1) := by decide +kernel
theorem d_Model_putOut_121 : decode prog_14_method_81_code 121 = .ok (.iload 5, 2) := by decide +kernel
theorem d_Model_putOut_123 : decode prog_14_method_81_code 123 = .ok (.ifCond .eq 15, 3) := by decide +kernel
theorem d_Model_putOut_126 : decode prog_14_method_81_code 126 = .ok (.iload 4, 2) := by decide +kernel
theorem d_Model_putOut_128 : decode prog_14_method_81_code 128 = .ok (.bipush 30, 2) := by decide +kernel
theorem d_Model_putOut_130 : decode prog_14_method_81_code 130 = .ok (.if_icmp .gt 8, 3) := by decide +kernel
theorem d_Model_putOut_133 : decode prog_14_method_81_code 133 = .ok (.iload 4, 2) := by decide +kernel
theorem d_Model_putOut_135 : decode prog_14_method_81_code 135 = .ok (.goto 4, 3) := by decide +kernel
theorem d_Model_putOut_138 : decode prog_14_method_81_code 138 = .ok (.iload_n 3, 1) := by decide +kernel
theorem d_Model_putOut_139 : decode prog_14_method_81_code 139 = .ok (.istore_n 3, 1) := by decide +kernel
theorem d_Model_putOut_140 : decode prog_14_method_81_code 140 = .ok (.iinc 4 1, 3) := by decide +kernel
theorem d_Model_putOut_143 : decode prog_14_method_81_code 143 = .ok (.goto (-66), 3) := by decide +kernel
theorem d_Model_putOut_146 : decode prog_14_method_81_code 146 = .ok (.iload_n 3, 1) := by decide +kernel
theorem d_Model_putOut_147 : decode prog_14_method_81_code 147 = .ok (.ifCond .ge 7, 3) := by decide +kernel
theorem d_Model_putOut_150 : decode prog_14_method_81_code 150 = .ok (.iload_n 2, 1) := by decide +kernel
theorem d_Model_putOut_151 : decode prog_14_method_81_code 151 = .ok (.goto 4, 3) := by decide +kernel
theorem d_Model_putOut_154 : decode prog_14_method_81_code 154 = .ok (.iload_n 3, 1) := by decide +kernel
theorem d_Model_putOut_155 : decode prog_14_method_81_code 155 = .ok (.istore 4, 2) := by decide +kernel
theorem d_Model_putOut_157 : decode prog_14_method_81_code 157 = .ok (.iload 4, 2) := by decide +kernel
theorem d_Model_putOut_159 : decode prog_14_method_81_code 159 = .ok (.ifCond .lt 7, 3) := by decide +kernel
theorem d_Model_putOut_162 : decode prog_14_method_81_code 162 = .ok (.iconst 1, 1) := by decide +kernel
theorem d_Model_putOut_163 : decode prog_14_method_81_code 163 = .ok (.goto 4, 3) := by decide +kernel
theorem d_Model_putOut_166 : decode prog_14_method_81_code 166 = .ok (.iconst 0, 1) := by decide +kernel
theorem d_Model_putOut_167 : decode prog_14_method_81_code 167 = .ok (.istore_n 1, 1) := by decide +kernel
theorem d_Model_putOut_168 : decode prog_14_method_81_code 168 = .ok (.iload_n 1, 1) := by decide +kernel
theorem d_Model_putOut_169 : decode prog_14_method_81_code 169 = .ok (.ifCond .eq 9, 3) := by decide +kernel
theorem d_Model_putOut_172 : decode prog_14_method_81_code 172 = .ok (.aload_n 0, 1) := by decide +kernel
theorem d_Model_putOut_173 : decode prog_14_method_81_code 173 = .ok (.iload 4, 2) := by decide +kernel
theorem d_Model_putOut_175 : decode prog_14_method_81_code 175 = .ok (.invokevirtual 380, 3) := by decide +kernel
theorem d_Model_putOut_178 : decode prog_14_method_81_code 178 = .ok (.goto (-121), 3) := by decide +kernel
theorem d_Model_putOut_181 : decode prog_14_method_81_code 181 = .ok (.return_, 1) := by decide +kernel
theorem d_Model_breaks_0 : decode prog_14_method_82_code 0 = .ok (.aload_n 0, 1) := by decide +kernel
theorem d_Model_breaks_1 : decode prog_14_method_82_code 1 = .ok (.getfield 316, 3) := by decide +kernel
theorem d_Model_breaks_4 : decode prog_14_method_82_code 4 = .ok (.istore_n 2, 1) := by decide +kernel
theorem d_Model_breaks_5 : decode prog_14_method_82_code 5 = .ok (.aload_n 0, 1) := by decide +kernel
theorem d_Model_breaks_6 : decode prog_14_method_82_code 6 = .ok (.iload_n 1, 1) := by decide +kernel
theorem d_Model_breaks_7 : decode prog_14_method_82_code 7 = .ok (.invokevirtual 319, 3) := by decide +kernel
theorem d_Model_breaks_10 : decode prog_14_method_82_code 10 = .ok (.iload_n 2, 1) := by decide +kernel
theorem d_Model_breaks_11 : decode prog_14_method_82_code 11 = .ok (.iload_n 1, 1) := by decide +kernel
theorem d_Model_breaks_12 : decode prog_14_method_82_code 12 = .ok (.isub, 1) := by decide +kernel
theorem d_Model_breaks_13 : decode prog_14_method_82_code 13 = .ok (.iconst 1, 1) := by decide +kernel
theorem d_Model_breaks_14 : decode prog_14_method_82_code 14 = .ok (.isub, 1) := by decide +kernel
theorem d_Model_breaks_15 : decode prog_14_method_82_code 15 = .ok (.istore_n 3, 1) := by decide +kernel
theorem d_Model_breaks_16 : decode prog_14_method_82_code 16 = .ok (.iconst 0, 1) := by decide +kernel
theorem d_Model_breaks_17 : decode prog_14_method_82_code 17 = .ok (.istore 4, 2) := by decide +kernel
theorem d_Model_breaks_19 : decode prog_14_method_82_code 19 = .ok (.iload 4, 2) := by decide +kernel
theorem d_Model_breaks_21 : decode prog_14_method_82_code 21 = .ok (.iload_n 3, 1) := by decide +kernel
theorem d_Model_breaks_22 : decode prog_14_method_82_code 22 = .ok (.if_icmp .ge 27, 3) := by decide +kernel
theorem d_Model_breaks_25 : decode prog_14_method_82_code 25 = .ok (.aload_n 0, 1) := by decide +kernel
theorem d_Model_breaks_26 : decode prog_14_method_82_code 26 = .ok (.getfield 86, 3) := by decide +kernel
theorem d_Model_breaks_29 : decode prog_14_method_82_code 29 = .ok (.iload 4, 2) := by decide +kernel
theorem d_Model_breaks_31 : decode prog_14_method_82_code 31 = .ok (.aload_n 0, 1) := by decide +kernel
theorem d_Model_breaks_32 : decode prog_14_method_82_code 32 = .ok (.getfield 86, 3) := by decide +kernel
theorem d_Model_breaks_35 : decode prog_14_method_82_code 35 = .ok (.iload_n 1, 1) := by decide +kernel
theorem d_Model_breaks_36 : decode prog_14_method_82_code 36 = .ok (.iconst 1, 1) := by decide +kernel
theorem d_Model_breaks_37 : decode prog_14_method_82_code 37 = .ok (.iadd, 1) := by decide +kernel
theorem d_Model_breaks_38 : decode prog_14_method_82_code 38 = .ok (.iload 4, 2) := by decide +kernel
theorem d_Model_breaks_40 : decode prog_14_method_82_code 40 = .ok (.iadd, 1) := by decide +kernel
theorem d_Model_breaks_41 : decode prog_14_method_82_code 41 = .ok (.iaload, 1) := by decide +kernel
theorem d_Model_breaks_42 : decode prog_14_method_82_code 42 = .ok (.iastore, 1) := by decide +kernel
theorem d_Model_breaks_43 : decode prog_14_method_82_code 43 = .ok (.iinc 4 1, 3) := by decide +kernel
theorem d_Model_breaks_46 : decode prog_14_method_82_code 46 = .ok (.goto (-27), 3) := by decide +kernel
theorem d_Model_breaks_49 : decode prog_14_method_82_code 49 = .ok (.iload_n 3, 1) := by decide +kernel
theorem d_Model_breaks_50 : decode prog_14_method_82_code 50 = .ok (.iconst 1, 1) := by decide +kernel
theorem d_Model_breaks_51 : decode prog_14_method_82_code 51 = .ok (.isub, 1) := by decide +kernel
theorem d_Model_breaks_52 : decode prog_14_method_82_code 52 = .ok (.istore 4, 2) := by decide +kernel
theorem d_Model_breaks_54 : decode prog_14_method_82_code 54 = .ok (.iload 4, 2) := by decide +kernel
theorem d_Model_breaks_56 : decode prog_14_method_82_code 56 = .ok (.ifCond .lt 25, 3) := by decide +kernel
theorem d_Model_breaks_59 : decode prog_14_method_82_code 59 = .ok (.aload_n 0, 1) := by decide +kernel
theorem d_Model_breaks_60 : decode prog_14_method_82_code 60 = .ok (.getfield 86, 3) := by decide +kernel
theorem d_Model_breaks_63 : decode prog_14_method_82_code 63 = .ok (.iload 4, 2) := by decide +kernel
theorem d_Model_breaks_65 : decode prog_14_method_82_code 65 = .ok (.iconst 2, 1) := by decide +kernel
theorem d_Model_breaks_66 : decode prog_14_method_82_code 66 = .ok (.iadd, 1) := by decide +kernel
theorem d_Model_breaks_67 : decode prog_14_method_82_code 67 = .ok (.aload_n 0, 1) := by decide +kernel
theorem d_Model_breaks_68 : decode prog_14_method_82_code 68 = .ok (.getfield 86, 3) := by decide +kernel
theorem d_Model_breaks_71 : decode prog_14_method_82_code 71 = .ok (.iload 4, 2) := by decide +kernel
theorem d_Model_breaks_73 : decode prog_14_method_82_code 73 = .ok (.iaload, 1) := by decide +kernel
theorem d_Model_breaks_74 : decode prog_14_method_82_code 74 = .ok (.iastore, 1) := by decide +kernel
theorem d_Model_breaks_75 : decode prog_14_method_82_code 75 = .ok (.iinc 4 (-1), 3) := by decide +kernel
theorem d_Model_breaks_78 : decode prog_14_method_82_code 78 = .ok (.goto (-24), 3) := by decide +kernel
theorem d_Model_breaks_81 : decode prog_14_method_82_code 81 = .ok (.aload_n 0, 1) := by decide +kernel
theorem d_Model_breaks_82 : decode prog_14_method_82_code 82 = .ok (.getfield 86, 3) := by decide +kernel
theorem d_Model_breaks_85 : decode prog_14_method_82_code 85 = .ok (.iconst 0, 1) := by decide +kernel
theorem d_Model_breaks_86 : decode prog_14_method_82_code 86 = .ok (.bipush 32, 2) := by decide +kernel
theorem d_Model_breaks_88 : decode prog_14_method_82_code 88 = .ok (.iastore, 1) := by decide +kernel
theorem d_Model_breaks_89 : decode prog_14_method_82_code 89 = .ok (.aload_n 0, 1) := by decide +kernel
theorem d_Model_breaks_90 : decode prog_14_method_82_code 90 = .ok (.getfield 86, 3) := by decide +kernel
theorem d_Model_breaks_93 : decode prog_14_method_82_code 93 = .ok (.iconst 1, 1) := by decide +kernel
theorem d_Model_breaks_94 : decode prog_14_method_82_code 94 = .ok (.bipush 32, 2) := by decide +kernel
theorem d_Model_breaks_96 : decode prog_14_method_82_code 96 = .ok (.iastore, 1) := by decide +kernel
theorem d_Model_breaks_97 : decode prog_14_method_82_code 97 = .ok (.aload_n 0, 1) := by decide +kernel
theorem d_Model_breaks_98 : decode prog_14_method_82_code 98 = .ok (.iload_n 3, 1) := by decide +kernel
theorem d_Model_breaks_99 : decode prog_14_method_82_code 99 = .ok (.iconst 2, 1) := by decide +kernel
theorem d_Model_breaks_100 : decode prog_14_method_82_code 100 = .ok (.iadd, 1) := by decide +kernel
theorem d_Model_breaks_101 : decode prog_14_method_82_code 101 = .ok (.putfield 316, 3) := by decide +kernel
theorem d_Model_breaks_104 : decode prog_14_method_82_code 104 = .ok (.return_, 1) := by decide +kernel
theorem d_Model_ends_0 : decode prog_14_method_80_code 0 = .ok (.aload_n 0, 1) := by decide +kernel
theorem d_Model_ends_1 : decode prog_14_method_80_code 1 = .ok (.getfield 377, 3) := by decide +kernel
theorem d_Model_ends_4 : decode prog_14_method_80_code 4 = .ok (.bipush 24, 2) := by decide +kernel
theorem d_Model_ends_6 : decode prog_14_method_80_code 6 = .ok (.if_icmp .ge 47, 3) := by decide +kernel
theorem d_Model_ends_9 : decode prog_14_method_80_code 9 = .ok (.aload_n 0, 1) := by decide +kernel
theorem d_Model_ends_10 : decode prog_14_method_80_code 10 = .ok (.getfield 89, 3) := by decide +kernel
theorem d_Model_ends_13 : decode prog_14_method_80_code 13 = .ok (.aload_n 0, 1) := by decide +kernel
theorem d_Model_ends_14 : decode prog_14_method_80_code 14 = .ok (.getfield 377, 3) := by decide +kernel
theorem d_Model_ends_17 : decode prog_14_method_80_code 17 = .ok (.iload_n 1, 1) := by decide +kernel
theorem d_Model_ends_18 : decode prog_14_method_80_code 18 = .ok (.iastore, 1) := by decide +kernel
theorem d_Model_ends_19 : decode prog_14_method_80_code 19 = .ok (.iconst 0, 1) := by decide +kernel
theorem d_Model_ends_20 : decode prog_14_method_80_code 20 = .ok (.istore_n 2, 1) := by decide +kernel
theorem d_Model_ends_21 : decode prog_14_method_80_code 21 = .ok (.iload_n 2, 1) := by decide +kernel
theorem d_Model_ends_22 : decode prog_14_method_80_code 22 = .ok (.iload_n 1, 1) := by decide +kernel
theorem d_Model_ends_23 : decode prog_14_method_80_code 23 = .ok (.if_icmp .ge 30, 3) := by decide +kernel
theorem d_Model_ends_26 : decode prog_14_method_80_code 26 = .ok (.aload_n 0, 1) := by decide +kernel
theorem d_Model_ends_27 : decode prog_14_method_80_code 27 = .ok (.getfield 92, 3) := by decide +kernel
theorem d_Model_ends_30 : decode prog_14_method_80_code 30 = .ok (.sipush 180, 3) := by decide +kernel
theorem d_Model_ends_33 : decode prog_14_method_80_code 33 = .ok (.aload_n 0, 1) := by decide +kernel
theorem d_Model_ends_34 : decode prog_14_method_80_code 34 = .ok (.getfield 377, 3) := by decide +kernel
theorem d_Model_ends_37 : decode prog_14_method_80_code 37 = .ok (.imul, 1) := by decide +kernel
theorem d_Model_ends_38 : decode prog_14_method_80_code 38 = .ok (.iload_n 2, 1) := by decide +kernel
theorem d_Model_ends_39 : decode prog_14_method_80_code 39 = .ok (.iadd, 1) := by decide +kernel
theorem d_Model_ends_40 : decode prog_14_method_80_code 40 = .ok (.aload_n 0, 1) := by decide +kernel
theorem d_Model_ends_41 : decode prog_14_method_80_code 41 = .ok (.getfield 86, 3) := by decide +kernel
theorem d_Model_ends_44 : decode prog_14_method_80_code 44 = .ok (.iload_n 2, 1) := by decide +kernel
