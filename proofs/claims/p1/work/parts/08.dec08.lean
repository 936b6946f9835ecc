/-! decode rows, printed by a program -/
theorem d_Model_ends_45 : decode prog_14_method_80_code 45 = .ok (.iaload, 1) := by decide +kernel
theorem d_Model_ends_46 : decode prog_14_method_80_code 46 = .ok (.iastore, 1) := by decide +kernel
theorem d_Model_ends_47 : decode prog_14_method_80_code 47 = .ok (.iinc 2 1, 3) := by decide +kernel
theorem d_Model_ends_50 : decode prog_14_method_80_code 50 = .ok (.goto (-29), 3) := by decide +kernel
theorem d_Model_ends_53 : decode prog_14_method_80_code 53 = .ok (.aload_n 0, 1) := by decide +kernel
theorem d_Model_ends_54 : decode prog_14_method_80_code 54 = .ok (.dup, 1) := by decide +kernel
theorem d_Model_ends_55 : decode prog_14_method_80_code 55 = .ok (.getfield 377, 3) := by decide +kernel
theorem d_Model_ends_58 : decode prog_14_method_80_code 58 = .ok (.iconst 1, 1) := by decide +kernel
theorem d_Model_ends_59 : decode prog_14_method_80_code 59 = .ok (.iadd, 1) := by decide +kernel
theorem d_Model_ends_60 : decode prog_14_method_80_code 60 = .ok (.putfield 377, 3) := by decide +kernel
theorem d_Model_ends_63 : decode prog_14_method_80_code 63 = .ok (.aload_n 0, 1) := by decide +kernel
theorem d_Model_ends_64 : decode prog_14_method_80_code 64 = .ok (.iconst 0, 1) := by decide +kernel
theorem d_Model_ends_65 : decode prog_14_method_80_code 65 = .ok (.putfield 316, 3) := by decide +kernel
theorem d_Model_ends_68 : decode prog_14_method_80_code 68 = .ok (.return_, 1) := by decide +kernel
theorem d_Model_texts_0 : decode prog_14_method_66_code 0 = .ok (.iload_n 1, 1) := by decide +kernel
theorem d_Model_texts_1 : decode prog_14_method_66_code 1 = .ok (.bipush 23, 2) := by decide +kernel
theorem d_Model_texts_3 : decode prog_14_method_66_code 3 = .ok (.if_icmp .ne 17, 3) := by decide +kernel
theorem d_Model_texts_6 : decode prog_14_method_66_code 6 = .ok (.aload_n 0, 1) := by decide +kernel
theorem d_Model_texts_7 : decode prog_14_method_66_code 7 = .ok (.bipush 82, 2) := by decide +kernel
theorem d_Model_texts_9 : decode prog_14_method_66_code 9 = .ok (.invokevirtual 286, 3) := by decide +kernel
theorem d_Model_texts_12 : decode prog_14_method_66_code 12 = .ok (.aload_n 0, 1) := by decide +kernel
theorem d_Model_texts_13 : decode prog_14_method_66_code 13 = .ok (.aload_n 0, 1) := by decide +kernel
theorem d_Model_texts_14 : decode prog_14_method_66_code 14 = .ok (.invokevirtual 322, 3) := by decide +kernel
theorem d_Model_texts_17 : decode prog_14_method_66_code 17 = .ok (.invokevirtual 260, 3) := by decide +kernel
theorem d_Model_texts_20 : decode prog_14_method_66_code 20 = .ok (.iload_n 1, 1) := by decide +kernel
theorem d_Model_texts_21 : decode prog_14_method_66_code 21 = .ok (.bipush 24, 2) := by decide +kernel
theorem d_Model_texts_23 : decode prog_14_method_66_code 23 = .ok (.if_icmp .ne 43, 3) := by decide +kernel
theorem d_Model_texts_26 : decode prog_14_method_66_code 26 = .ok (.aload_n 0, 1) := by decide +kernel
theorem d_Model_texts_27 : decode prog_14_method_66_code 27 = .ok (.invokevirtual 292, 3) := by decide +kernel
theorem d_Model_texts_30 : decode prog_14_method_66_code 30 = .ok (.istore 4, 2) := by decide +kernel
theorem d_Model_texts_32 : decode prog_14_method_66_code 32 = .ok (.aload_n 0, 1) := by decide +kernel
theorem d_Model_texts_33 : decode prog_14_method_66_code 33 = .ok (.bipush 82, 2) := by decide +kernel
theorem d_Model_texts_35 : decode prog_14_method_66_code 35 = .ok (.invokevirtual 286, 3) := by decide +kernel
theorem d_Model_texts_38 : decode prog_14_method_66_code 38 = .ok (.aload_n 0, 1) := by decide +kernel
theorem d_Model_texts_39 : decode prog_14_method_66_code 39 = .ok (.iload 4, 2) := by decide +kernel
theorem d_Model_texts_41 : decode prog_14_method_66_code 41 = .ok (.lload_n 2, 1) := by decide +kernel
theorem d_Model_texts_42 : decode prog_14_method_66_code 42 = .ok (.lconst 0, 1) := by decide +kernel
theorem d_Model_texts_43 : decode prog_14_method_66_code 43 = .ok (.lcmp, 1) := by decide +kernel
theorem d_Model_texts_44 : decode prog_14_method_66_code 44 = .ok (.ifCond .ge 7, 3) := by decide +kernel
theorem d_Model_texts_47 : decode prog_14_method_66_code 47 = .ok (.lconst 0, 1) := by decide +kernel
theorem d_Model_texts_48 : decode prog_14_method_66_code 48 = .ok (.goto 8, 3) := by decide +kernel
theorem d_Model_texts_51 : decode prog_14_method_66_code 51 = .ok (.lload_n 2, 1) := by decide +kernel
theorem d_Model_texts_52 : decode prog_14_method_66_code 52 = .ok (.ldc2_w 308, 3) := by decide +kernel
theorem d_Model_texts_55 : decode prog_14_method_66_code 55 = .ok (.lrem, 1) := by decide +kernel
theorem d_Model_texts_56 : decode prog_14_method_66_code 56 = .ok (.l2i, 1) := by decide +kernel
theorem d_Model_texts_57 : decode prog_14_method_66_code 57 = .ok (.invokevirtual 325, 3) := by decide +kernel
theorem d_Model_texts_60 : decode prog_14_method_66_code 60 = .ok (.aload_n 0, 1) := by decide +kernel
theorem d_Model_texts_61 : decode prog_14_method_66_code 61 = .ok (.bipush 84, 2) := by decide +kernel
theorem d_Model_texts_63 : decode prog_14_method_66_code 63 = .ok (.invokevirtual 263, 3) := by decide +kernel
theorem d_Model_texts_66 : decode prog_14_method_66_code 66 = .ok (.iload_n 1, 1) := by decide +kernel
theorem d_Model_texts_67 : decode prog_14_method_66_code 67 = .ok (.bipush 25, 2) := by decide +kernel
theorem d_Model_texts_69 : decode prog_14_method_66_code 69 = .ok (.if_icmp .eq 9, 3) := by decide +kernel
theorem d_Model_texts_72 : decode prog_14_method_66_code 72 = .ok (.iload_n 1, 1) := by decide +kernel
theorem d_Model_texts_73 : decode prog_14_method_66_code 73 = .ok (.bipush 26, 2) := by decide +kernel
theorem d_Model_texts_75 : decode prog_14_method_66_code 75 = .ok (.if_icmp .ne 48, 3) := by decide +kernel
theorem d_Model_texts_78 : decode prog_14_method_66_code 78 = .ok (.aload_n 0, 1) := by decide +kernel
theorem d_Model_texts_79 : decode prog_14_method_66_code 79 = .ok (.bipush 82, 2) := by decide +kernel
theorem d_Model_texts_81 : decode prog_14_method_66_code 81 = .ok (.invokevirtual 286, 3) := by decide +kernel
theorem d_Model_texts_84 : decode prog_14_method_66_code 84 = .ok (.iload_n 1, 1) := by decide +kernel
theorem d_Model_texts_85 : decode prog_14_method_66_code 85 = .ok (.bipush 25, 2) := by decide +kernel
theorem d_Model_texts_87 : decode prog_14_method_66_code 87 = .ok (.if_icmp .ne 26, 3) := by decide +kernel
theorem d_Model_texts_90 : decode prog_14_method_66_code 90 = .ok (.aload_n 0, 1) := by decide +kernel
theorem d_Model_texts_91 : decode prog_14_method_66_code 91 = .ok (.lload_n 2, 1) := by decide +kernel
theorem d_Model_texts_92 : decode prog_14_method_66_code 92 = .ok (.lconst 0, 1) := by decide +kernel
theorem d_Model_texts_93 : decode prog_14_method_66_code 93 = .ok (.lcmp, 1) := by decide +kernel
theorem d_Model_texts_94 : decode prog_14_method_66_code 94 = .ok (.ifCond .ge 7, 3) := by decide +kernel
theorem d_Model_texts_97 : decode prog_14_method_66_code 97 = .ok (.lconst 0, 1) := by decide +kernel
theorem d_Model_texts_98 : decode prog_14_method_66_code 98 = .ok (.goto 8, 3) := by decide +kernel
theorem d_Model_texts_101 : decode prog_14_method_66_code 101 = .ok (.lload_n 2, 1) := by decide +kernel
theorem d_Model_texts_102 : decode prog_14_method_66_code 102 = .ok (.ldc2_w 328, 3) := by decide +kernel
theorem d_Model_texts_105 : decode prog_14_method_66_code 105 = .ok (.lrem, 1) := by decide +kernel
theorem d_Model_texts_106 : decode prog_14_method_66_code 106 = .ok (.l2i, 1) := by decide +kernel
theorem d_Model_texts_107 : decode prog_14_method_66_code 107 = .ok (.invokevirtual 330, 3) := by decide +kernel
theorem d_Model_texts_110 : decode prog_14_method_66_code 110 = .ok (.goto 7, 3) := by decide +kernel
theorem d_Model_texts_113 : decode prog_14_method_66_code 113 = .ok (.aload_n 0, 1) := by decide +kernel
theorem d_Model_texts_114 : decode prog_14_method_66_code 114 = .ok (.invokevirtual 333, 3) := by decide +kernel
theorem d_Model_texts_117 : decode prog_14_method_66_code 117 = .ok (.aload_n 0, 1) := by decide +kernel
theorem d_Model_texts_118 : decode prog_14_method_66_code 118 = .ok (.bipush 84, 2) := by decide +kernel
theorem d_Model_texts_120 : decode prog_14_method_66_code 120 = .ok (.invokevirtual 263, 3) := by decide +kernel
theorem d_Model_texts_123 : decode prog_14_method_66_code 123 = .ok (.iload_n 1, 1) := by decide +kernel
theorem d_Model_texts_124 : decode prog_14_method_66_code 124 = .ok (.bipush 27, 2) := by decide +kernel
theorem d_Model_texts_126 : decode prog_14_method_66_code 126 = .ok (.if_icmp .ne 75, 3) := by decide +kernel
theorem d_Model_texts_129 : decode prog_14_method_66_code 129 = .ok (.aload_n 0, 1) := by decide +kernel
theorem d_Model_texts_130 : decode prog_14_method_66_code 130 = .ok (.bipush 82, 2) := by decide +kernel
theorem d_Model_texts_132 : decode prog_14_method_66_code 132 = .ok (.invokevirtual 286, 3) := by decide +kernel
theorem d_Model_texts_135 : decode prog_14_method_66_code 135 = .ok (.iconst 0, 1) := by decide +kernel
theorem d_Model_texts_136 : decode prog_14_method_66_code 136 = .ok (.istore 4, 2) := by decide +kernel
theorem d_Model_texts_138 : decode prog_14_method_66_code 138 = .ok (.iconst 0, 1) := by decide +kernel
theorem d_Model_texts_139 : decode prog_14_method_66_code 139 = .ok (.istore 5, 2) := by decide +kernel
theorem d_Model_texts_141 : decode prog_14_method_66_code 141 = .ok (.iload 5, 2) := by decide +kernel
theorem d_Model_texts_143 : decode prog_14_method_66_code 143 = .ok (.aload_n 0, 1) := by decide +kernel
theorem d_Model_texts_144 : decode prog_14_method_66_code 144 = .ok (.getfield 16, 3) := by decide +kernel
theorem d_Model_texts_147 : decode prog_14_method_66_code 147 = .ok (.bipush 82, 2) := by decide +kernel
theorem d_Model_texts_149 : decode prog_14_method_66_code 149 = .ok (.iaload, 1) := by decide +kernel
theorem d_Model_texts_150 : decode prog_14_method_66_code 150 = .ok (.if_icmp .ge 45, 3) := by decide +kernel
theorem d_Model_texts_153 : decode prog_14_method_66_code 153 = .ok (.iload 4, 2) := by decide +kernel
theorem d_Model_texts_155 : decode prog_14_method_66_code 155 = .ok (.aload_n 0, 1) := by decide +kernel
theorem d_Model_texts_156 : decode prog_14_method_66_code 156 = .ok (.bipush 82, 2) := by decide +kernel
theorem d_Model_texts_158 : decode prog_14_method_66_code 158 = .ok (.iload 5, 2) := by decide +kernel
theorem d_Model_texts_160 : decode prog_14_method_66_code 160 = .ok (.invokevirtual 99, 3) := by decide +kernel
theorem d_Model_texts_163 : decode prog_14_method_66_code 163 = .ok (.bipush 123, 2) := by decide +kernel
theorem d_Model_texts_165 : decode prog_14_method_66_code 165 = .ok (.if_icmp .eq 16, 3) := by decide +kernel
theorem d_Model_texts_168 : decode prog_14_method_66_code 168 = .ok (.aload_n 0, 1) := by decide +kernel
theorem d_Model_texts_169 : decode prog_14_method_66_code 169 = .ok (.bipush 82, 2) := by decide +kernel
theorem d_Model_texts_171 : decode prog_14_method_66_code 171 = .ok (.iload 5, 2) := by decide +kernel
theorem d_Model_texts_173 : decode prog_14_method_66_code 173 = .ok (.invokevirtual 99, 3) := by decide +kernel
theorem d_Model_texts_176 : decode prog_14_method_66_code 176 = .ok (.bipush 125, 2) := by decide +kernel
theorem d_Model_texts_178 : decode prog_14_method_66_code 178 = .ok (.if_icmp .ne 7, 3) := by decide +kernel
theorem d_Model_texts_181 : decode prog_14_method_66_code 181 = .ok (.iconst 0, 1) := by decide +kernel
theorem d_Model_texts_182 : decode prog_14_method_66_code 182 = .ok (.goto 4, 3) := by decide +kernel
theorem d_Model_texts_185 : decode prog_14_method_66_code 185 = .ok (.iconst 1, 1) := by decide +kernel
theorem d_Model_texts_186 : decode prog_14_method_66_code 186 = .ok (.iadd, 1) := by decide +kernel
theorem d_Model_texts_187 : decode prog_14_method_66_code 187 = .ok (.istore 4, 2) := by decide +kernel
theorem d_Model_texts_189 : decode prog_14_method_66_code 189 = .ok (.iinc 5 1, 3) := by decide +kernel
theorem d_Model_texts_192 : decode prog_14_method_66_code 192 = .ok (.goto (-51), 3) := by decide +kernel
theorem d_Model_texts_195 : decode prog_14_method_66_code 195 = .ok (.aload_n 0, 1) := by decide +kernel
theorem d_Model_texts_196 : decode prog_14_method_66_code 196 = .ok (.iload 4, 2) := by decide +kernel
theorem d_Model_texts_198 : decode prog_14_method_66_code 198 = .ok (.invokevirtual 260, 3) := by decide +kernel
theorem d_Model_texts_201 : decode prog_14_method_66_code 201 = .ok (.iload_n 1, 1) := by decide +kernel
theorem d_Model_texts_202 : decode prog_14_method_66_code 202 = .ok (.bipush 28, 2) := by decide +kernel
theorem d_Model_texts_204 : decode prog_14_method_66_code 204 = .ok (.if_icmp .ne 27, 3) := by decide +kernel
theorem d_Model_texts_207 : decode prog_14_method_66_code 207 = .ok (.aload_n 0, 1) := by decide +kernel
theorem d_Model_texts_208 : decode prog_14_method_66_code 208 = .ok (.invokevirtual 292, 3) := by decide +kernel
theorem d_Model_texts_211 : decode prog_14_method_66_code 211 = .ok (.istore 4, 2) := by decide +kernel
theorem d_Model_texts_213 : decode prog_14_method_66_code 213 = .ok (.aload_n 0, 1) := by decide +kernel
theorem d_Model_texts_214 : decode prog_14_method_66_code 214 = .ok (.bipush 82, 2) := by decide +kernel
theorem d_Model_texts_216 : decode prog_14_method_66_code 216 = .ok (.invokevirtual 286, 3) := by decide +kernel
theorem d_Model_texts_219 : decode prog_14_method_66_code 219 = .ok (.aload_n 0, 1) := by decide +kernel
theorem d_Model_texts_220 : decode prog_14_method_66_code 220 = .ok (.iload 4, 2) := by decide +kernel
theorem d_Model_texts_222 : decode prog_14_method_66_code 222 = .ok (.invokevirtual 336, 3) := by decide +kernel
theorem d_Model_texts_225 : decode prog_14_method_66_code 225 = .ok (.aload_n 0, 1) := by decide +kernel
theorem d_Model_texts_226 : decode prog_14_method_66_code 226 = .ok (.bipush 84, 2) := by decide +kernel
theorem d_Model_texts_228 : decode prog_14_method_66_code 228 = .ok (.invokevirtual 263, 3) := by decide +kernel
theorem d_Model_texts_231 : decode prog_14_method_66_code 231 = .ok (.iload_n 1, 1) := by decide +kernel
theorem d_Model_texts_232 : decode prog_14_method_66_code 232 = .ok (.bipush 29, 2) := by decide +kernel
theorem d_Model_texts_234 : decode prog_14_method_66_code 234 = .ok (.if_icmp .ne 35, 3) := by decide +kernel
theorem d_Model_texts_237 : decode prog_14_method_66_code 237 = .ok (.aload_n 0, 1) := by decide +kernel
theorem d_Model_texts_238 : decode prog_14_method_66_code 238 = .ok (.invokevirtual 292, 3) := by decide +kernel
theorem d_Model_texts_241 : decode prog_14_method_66_code 241 = .ok (.istore 4, 2) := by decide +kernel
theorem d_Model_texts_243 : decode prog_14_method_66_code 243 = .ok (.aload_n 0, 1) := by decide +kernel
theorem d_Model_texts_244 : decode prog_14_method_66_code 244 = .ok (.invokevirtual 292, 3) := by decide +kernel
theorem d_Model_texts_247 : decode prog_14_method_66_code 247 = .ok (.istore 5, 2) := by decide +kernel
theorem d_Model_texts_249 : decode prog_14_method_66_code 249 = .ok (.aload_n 0, 1) := by decide +kernel
theorem d_Model_texts_250 : decode prog_14_method_66_code 250 = .ok (.bipush 82, 2) := by decide +kernel
theorem d_Model_texts_252 : decode prog_14_method_66_code 252 = .ok (.invokevirtual 286, 3) := by decide +kernel
theorem d_Model_texts_255 : decode prog_14_method_66_code 255 = .ok (.aload_n 0, 1) := by decide +kernel
theorem d_Model_texts_256 : decode prog_14_method_66_code 256 = .ok (.iload 5, 2) := by decide +kernel
theorem d_Model_texts_258 : decode prog_14_method_66_code 258 = .ok (.iload 4, 2) := by decide +kernel
theorem d_Model_texts_260 : decode prog_14_method_66_code 260 = .ok (.invokevirtual 339, 3) := by decide +kernel
theorem d_Model_texts_263 : decode prog_14_method_66_code 263 = .ok (.aload_n 0, 1) := by decide +kernel
theorem d_Model_texts_264 : decode prog_14_method_66_code 264 = .ok (.bipush 84, 2) := by decide +kernel
theorem d_Model_texts_266 : decode prog_14_method_66_code 266 = .ok (.invokevirtual 263, 3) := by decide +kernel
theorem d_Model_texts_269 : decode prog_14_method_66_code 269 = .ok (.return_, 1) := by decide +kernel
theorem d_Model_people_0 : decode prog_14_method_72_code 0 = .ok (.iconst 1, 1) := by decide +kernel
theorem d_Model_people_1 : decode prog_14_method_72_code 1 = .ok (.istore_n 1, 1) := by decide +kernel
theorem d_Model_people_2 : decode prog_14_method_72_code 2 = .ok (.iconst 0, 1) := by decide +kernel
theorem d_Model_people_3 : decode prog_14_method_72_code 3 = .ok (.istore_n 2, 1) := by decide +kernel
theorem d_Model_people_4 : decode prog_14_method_72_code 4 = .ok (.iconst 0, 1) := by decide +kernel
theorem d_Model_people_5 : decode prog_14_method_72_code 5 = .ok (.istore_n 3, 1) := by decide +kernel
theorem d_Model_people_6 : decode prog_14_method_72_code 6 = .ok (.iconst 0, 1) := by decide +kernel
theorem d_Model_people_7 : decode prog_14_method_72_code 7 = .ok (.istore 4, 2) := by decide +kernel
theorem d_Model_people_9 : decode prog_14_method_72_code 9 = .ok (.iload 4, 2) := by decide +kernel
theorem d_Model_people_11 : decode prog_14_method_72_code 11 = .ok (.aload_n 0, 1) := by decide +kernel
theorem d_Model_people_12 : decode prog_14_method_72_code 12 = .ok (.getfield 16, 3) := by decide +kernel
theorem d_Model_people_15 : decode prog_14_method_72_code 15 = .ok (.bipush 82, 2) := by decide +kernel
theorem d_Model_people_17 : decode prog_14_method_72_code 17 = .ok (.iaload, 1) := by decide +kernel
theorem d_Model_people_18 : decode prog_14_method_72_code 18 = .ok (.if_icmp .ge 87, 3) := by decide +kernel
theorem d_Model_people_21 : decode prog_14_method_72_code 21 = .ok (.aload_n 0, 1) := by decide +kernel
theorem d_Model_people_22 : decode prog_14_method_72_code 22 = .ok (.bipush 82, 2) := by decide +kernel
theorem d_Model_people_24 : decode prog_14_method_72_code 24 = .ok (.iload 4, 2) := by decide +kernel
theorem d_Model_people_26 : decode prog_14_method_72_code 26 = .ok (.invokevirtual 99, 3) := by decide +kernel
theorem d_Model_people_29 : decode prog_14_method_72_code 29 = .ok (.istore 5, 2) := by decide +kernel
theorem d_Model_people_31 : decode prog_14_method_72_code 31 = .ok (.iload_n 1, 1) := by decide +kernel
theorem d_Model_people_32 : decode prog_14_method_72_code 32 = .ok (.iload_n 2, 1) := by decide +kernel
theorem d_Model_people_33 : decode prog_14_method_72_code 33 = .ok (.ifCond .ne 16, 3) := by decide +kernel
theorem d_Model_people_36 : decode prog_14_method_72_code 36 = .ok (.aload_n 0, 1) := by decide +kernel
theorem d_Model_people_37 : decode prog_14_method_72_code 37 = .ok (.iload 4, 2) := by decide +kernel
theorem d_Model_people_39 : decode prog_14_method_72_code 39 = .ok (.invokevirtual 345, 3) := by decide +kernel
theorem d_Model_people_42 : decode prog_14_method_72_code 42 = .ok (.ifCond .eq 7, 3) := by decide +kernel
theorem d_Model_people_45 : decode prog_14_method_72_code 45 = .ok (.iconst 1, 1) := by decide +kernel
theorem d_Model_people_46 : decode prog_14_method_72_code 46 = .ok (.goto 4, 3) := by decide +kernel
theorem d_Model_people_49 : decode prog_14_method_72_code 49 = .ok (.iconst 0, 1) := by decide +kernel
theorem d_Model_people_50 : decode prog_14_method_72_code 50 = .ok (.iadd, 1) := by decide +kernel
theorem d_Model_people_51 : decode prog_14_method_72_code 51 = .ok (.istore_n 1, 1) := by decide +kernel
theorem d_Model_people_52 : decode prog_14_method_72_code 52 = .ok (.iload_n 2, 1) := by decide +kernel
theorem d_Model_people_53 : decode prog_14_method_72_code 53 = .ok (.iload 5, 2) := by decide +kernel
theorem d_Model_people_55 : decode prog_14_method_72_code 55 = .ok (.bipush 123, 2) := by decide +kernel
theorem d_Model_people_57 : decode prog_14_method_72_code 57 = .ok (.if_icmp .ne 7, 3) := by decide +kernel
theorem d_Model_people_60 : decode prog_14_method_72_code 60 = .ok (.iconst 1, 1) := by decide +kernel
theorem d_Model_people_61 : decode prog_14_method_72_code 61 = .ok (.goto 19, 3) := by decide +kernel
theorem d_Model_people_64 : decode prog_14_method_72_code 64 = .ok (.iload 5, 2) := by decide +kernel
theorem d_Model_people_66 : decode prog_14_method_72_code 66 = .ok (.bipush 125, 2) := by decide +kernel
theorem d_Model_people_68 : decode prog_14_method_72_code 68 = .ok (.if_icmp .ne 11, 3) := by decide +kernel
theorem d_Model_people_71 : decode prog_14_method_72_code 71 = .ok (.iload_n 2, 1) := by decide +kernel
theorem d_Model_people_72 : decode prog_14_method_72_code 72 = .ok (.ifCond .le 7, 3) := by decide +kernel
theorem d_Model_people_75 : decode prog_14_method_72_code 75 = .ok (.iconst (-1), 1) := by decide +kernel
theorem d_Model_people_76 : decode prog_14_method_72_code 76 = .ok (.goto 4, 3) := by decide +kernel
theorem d_Model_people_79 : decode prog_14_method_72_code 79 = .ok (.iconst 0, 1) := by decide +kernel
theorem d_Model_people_80 : decode prog_14_method_72_code 80 = .ok (.iadd, 1) := by decide +kernel
theorem d_Model_people_81 : decode prog_14_method_72_code 81 = .ok (.istore_n 2, 1) := by decide +kernel
theorem d_Model_people_82 : decode prog_14_method_72_code 82 = .ok (.iload_n 3, 1) := by decide +kernel
theorem d_Model_people_83 : decode prog_14_method_72_code 83 = .ok (.ifCond .ne 10, 3) := by decide +kernel
theorem d_Model_people_86 : decode prog_14_method_72_code 86 = .ok (.iload 5, 2) := by decide +kernel
theorem d_Model_people_88 : decode prog_14_method_72_code 88 = .ok (.bipush 32, 2) := by decide +kernel
theorem d_Model_people_90 : decode prog_14_method_72_code 90 = .ok (.if_icmp .eq 7, 3) := by decide +kernel
theorem d_Model_people_93 : decode prog_14_method_72_code 93 = .ok (.iconst 1, 1) := by decide +kernel
theorem d_Model_people_94 : decode prog_14_method_72_code 94 = .ok (.goto 4, 3) := by decide +kernel
theorem d_Model_people_97 : decode prog_14_method_72_code 97 = .ok (.iconst 0, 1) := by decide +kernel
theorem d_Model_people_98 : decode prog_14_method_72_code 98 = .ok (.istore_n 3, 1) := by decide +kernel
theorem d_Model_people_99 : decode prog_14_method_72_code 99 = .ok (.iinc 4 1, 3) := by decide +kernel
theorem d_Model_people_102 : decode prog_14_method_72_code 102 = .ok (.goto (-93), 3) := by decide +kernel
theorem d_Model_people_105 : decode prog_14_method_72_code 105 = .ok (.iload_n 3, 1) := by decide +kernel
theorem d_Model_people_106 : decode prog_14_method_72_code 106 = .ok (.ifCond .eq 7, 3) := by decide +kernel
theorem d_Model_people_109 : decode prog_14_method_72_code 109 = .ok (.iload_n 1, 1) := by decide +kernel
theorem d_Model_people_110 : decode prog_14_method_72_code 110 = .ok (.goto 4, 3) := by decide +kernel
theorem d_Model_people_113 : decode prog_14_method_72_code 113 = .ok (.iconst 0, 1) := by decide +kernel
theorem d_Model_people_114 : decode prog_14_method_72_code 114 = .ok (.ireturn, 1) := by decide +kernel
theorem d_Model_isAnd_0 : decode prog_14_method_71_code 0 = .ok (.bipush 82, 2) := by decide +kernel
theorem d_Model_isAnd_2 : decode prog_14_method_71_code 2 = .ok (.istore_n 2, 1) := by decide +kernel
theorem d_Model_isAnd_3 : decode prog_14_method_71_code 3 = .ok (.iload_n 1, 1) := by decide +kernel
theorem d_Model_isAnd_4 : decode prog_14_method_71_code 4 = .ok (.ifCond .le 19, 3) := by decide +kernel
theorem d_Model_isAnd_7 : decode prog_14_method_71_code 7 = .ok (.iload_n 1, 1) := by decide +kernel
theorem d_Model_isAnd_8 : decode prog_14_method_71_code 8 = .ok (.iconst 3, 1) := by decide +kernel
theorem d_Model_isAnd_9 : decode prog_14_method_71_code 9 = .ok (.iadd, 1) := by decide +kernel
theorem d_Model_isAnd_10 : decode prog_14_method_71_code 10 = .ok (.aload_n 0, 1) := by decide +kernel
theorem d_Model_isAnd_11 : decode prog_14_method_71_code 11 = .ok (.getfield 16, 3) := by decide +kernel
theorem d_Model_isAnd_14 : decode prog_14_method_71_code 14 = .ok (.iload_n 2, 1) := by decide +kernel
theorem d_Model_isAnd_15 : decode prog_14_method_71_code 15 = .ok (.iaload, 1) := by decide +kernel
theorem d_Model_isAnd_16 : decode prog_14_method_71_code 16 = .ok (.if_icmp .ge 7, 3) := by decide +kernel
theorem d_Model_isAnd_19 : decode prog_14_method_71_code 19 = .ok (.iconst 1, 1) := by decide +kernel
theorem d_Model_isAnd_20 : decode prog_14_method_71_code 20 = .ok (.goto 4, 3) := by decide +kernel
theorem d_Model_isAnd_23 : decode prog_14_method_71_code 23 = .ok (.iconst 0, 1) := by decide +kernel
theorem d_Model_isAnd_24 : decode prog_14_method_71_code 24 = .ok (.istore_n 3, 1) := by decide +kernel
theorem d_Model_isAnd_25 : decode prog_14_method_71_code 25 = .ok (.iload_n 3, 1) := by decide +kernel
theorem d_Model_isAnd_26 : decode prog_14_method_71_code 26 = .ok (.ifCond .eq 70, 3) := by decide +kernel
theorem d_Model_isAnd_29 : decode prog_14_method_71_code 29 = .ok (.aload_n 0, 1) := by decide +kernel
theorem d_Model_isAnd_30 : decode prog_14_method_71_code 30 = .ok (.iload_n 2, 1) := by decide +kernel
theorem d_Model_isAnd_31 : decode prog_14_method_71_code 31 = .ok (.iload_n 1, 1) := by decide +kernel
theorem d_Model_isAnd_32 : decode prog_14_method_71_code 32 = .ok (.iconst 1, 1) := by decide +kernel
theorem d_Model_isAnd_33 : decode prog_14_method_71_code 33 = .ok (.isub, 1) := by decide +kernel
theorem d_Model_isAnd_34 : decode prog_14_method_71_code 34 = .ok (.invokevirtual 99, 3) := by decide +kernel
theorem d_Model_isAnd_37 : decode prog_14_method_71_code 37 = .ok (.bipush 32, 2) := by decide +kernel
theorem d_Model_isAnd_39 : decode prog_14_method_71_code 39 = .ok (.if_icmp .ne 57, 3) := by decide +kernel
theorem d_Model_isAnd_42 : decode prog_14_method_71_code 42 = .ok (.aload_n 0, 1) := by decide +kernel
theorem d_Model_isAnd_43 : decode prog_14_method_71_code 43 = .ok (.iload_n 2, 1) := by decide +kernel
theorem d_Model_isAnd_44 : decode prog_14_method_71_code 44 = .ok (.iload_n 1, 1) := by decide +kernel
theorem d_Model_isAnd_45 : decode prog_14_method_71_code 45 = .ok (.invokevirtual 99, 3) := by decide +kernel
theorem d_Model_isAnd_48 : decode prog_14_method_71_code 48 = .ok (.bipush 97, 2) := by decide +kernel
theorem d_Model_isAnd_50 : decode prog_14_method_71_code 50 = .ok (.if_icmp .ne 46, 3) := by decide +kernel
theorem d_Model_isAnd_53 : decode prog_14_method_71_code 53 = .ok (.aload_n 0, 1) := by decide +kernel
theorem d_Model_isAnd_54 : decode prog_14_method_71_code 54 = .ok (.iload_n 2, 1) := by decide +kernel
theorem d_Model_isAnd_55 : decode prog_14_method_71_code 55 = .ok (.iload_n 1, 1) := by decide +kernel
theorem d_Model_isAnd_56 : decode prog_14_method_71_code 56 = .ok (.iconst 1, 1) := by decide +kernel
theorem d_Model_isAnd_57 : decode prog_14_method_71_code 57 = .ok (.iadd, 1) := by decide +kernel
theorem d_Model_isAnd_58 : decode prog_14_method_71_code 58 = .ok (.invokevirtual 99, 3) := by decide +kernel
theorem d_Model_isAnd_61 : decode prog_14_method_71_code 61 = .ok (.bipush 110, 2) := by decide +kernel
theorem d_Model_isAnd_63 : decode prog_14_method_71_code 63 = .ok (.if_icmp .ne 33, 3) := by decide +kernel
theorem d_Model_isAnd_66 : decode prog_14_method_71_code 66 = .ok (.aload_n 0, 1) := by decide +kernel
theorem d_Model_isAnd_67 : decode prog_14_method_71_code 67 = .ok (.iload_n 2, 1) := by decide +kernel
theorem d_Model_isAnd_68 : decode prog_14_method_71_code 68 = .ok (.iload_n 1, 1) := by decide +kernel
theorem d_Model_isAnd_69 : decode prog_14_method_71_code 69 = .ok (.iconst 2, 1) := by decide +kernel
theorem d_Model_isAnd_70 : decode prog_14_method_71_code 70 = .ok (.iadd, 1) := by decide +kernel
theorem d_Model_isAnd_71 : decode prog_14_method_71_code 71 = .ok (.invokevirtual 99, 3) := by decide +kernel
theorem d_Model_isAnd_74 : decode prog_14_method_71_code 74 = .ok (.bipush 100, 2) := by decide +kernel
theorem d_Model_isAnd_76 : decode prog_14_method_71_code 76 = .ok (.if_icmp .ne 20, 3) := by decide +kernel
theorem d_Model_isAnd_79 : decode prog_14_method_71_code 79 = .ok (.aload_n 0, 1) := by decide +kernel
theorem d_Model_isAnd_80 : decode prog_14_method_71_code 80 = .ok (.iload_n 2, 1) := by decide +kernel
theorem d_Model_isAnd_81 : decode prog_14_method_71_code 81 = .ok (.iload_n 1, 1) := by decide +kernel
theorem d_Model_isAnd_82 : decode prog_14_method_71_code 82 = .ok (.iconst 3, 1) := by decide +kernel
theorem d_Model_isAnd_83 : decode prog_14_method_71_code 83 = .ok (.iadd, 1) := by decide +kernel
theorem d_Model_isAnd_84 : decode prog_14_method_71_code 84 = .ok (.invokevirtual 99, 3) := by decide +kernel
theorem d_Model_isAnd_87 : decode prog_14_method_71_code 87 = .ok (.bipush 32, 2) := by decide +kernel
theorem d_Model_isAnd_89 : decode prog_14_method_71_code 89 = .ok (.if_icmp .ne 7, 3) := by decide +kernel
theorem d_Model_isAnd_92 : decode prog_14_method_71_code 92 = .ok (.iconst 1, 1) := by decide +kernel
theorem d_Model_isAnd_93 : decode prog_14_method_71_code 93 = .ok (.goto 4, 3) := by decide +kernel
theorem d_Model_isAnd_96 : decode prog_14_method_71_code 96 = .ok (.iconst 0, 1) := by decide +kernel
theorem d_Model_isAnd_97 : decode prog_14_method_71_code 97 = .ok (.ireturn, 1) := by decide +kernel
theorem d_Model_person_0 : decode prog_14_method_79_code 0 = .ok (.aload_n 0, 1) := by decide +kernel
theorem d_Model_person_1 : decode prog_14_method_79_code 1 = .ok (.bipush 84, 2) := by decide +kernel
theorem d_Model_person_3 : decode prog_14_method_79_code 3 = .ok (.invokevirtual 120, 3) := by decide +kernel
theorem d_Model_person_6 : decode prog_14_method_79_code 6 = .ok (.iload_n 1, 1) := by decide +kernel
theorem d_Model_person_7 : decode prog_14_method_79_code 7 = .ok (.iconst 1, 1) := by decide +kernel
theorem d_Model_person_8 : decode prog_14_method_79_code 8 = .ok (.if_icmp .lt 11, 3) := by decide +kernel
theorem d_Model_person_11 : decode prog_14_method_79_code 11 = .ok (.iload_n 1, 1) := by decide +kernel
theorem d_Model_person_12 : decode prog_14_method_79_code 12 = .ok (.aload_n 0, 1) := by decide +kernel
theorem d_Model_person_13 : decode prog_14_method_79_code 13 = .ok (.invokevirtual 322, 3) := by decide +kernel
theorem d_Model_person_16 : decode prog_14_method_79_code 16 = .ok (.if_icmp .le 10, 3) := by decide +kernel
theorem d_Model_person_19 : decode prog_14_method_79_code 19 = .ok (.aload_n 0, 1) := by decide +kernel
theorem d_Model_person_20 : decode prog_14_method_79_code 20 = .ok (.bipush 9, 2) := by decide +kernel
theorem d_Model_person_22 : decode prog_14_method_79_code 22 = .ok (.invokevirtual 144, 3) := by decide +kernel
theorem d_Model_person_25 : decode prog_14_method_79_code 25 = .ok (.return_, 1) := by decide +kernel
theorem d_Model_person_26 : decode prog_14_method_79_code 26 = .ok (.aload_n 0, 1) := by decide +kernel
theorem d_Model_person_27 : decode prog_14_method_79_code 27 = .ok (.aload_n 0, 1) := by decide +kernel
theorem d_Model_person_28 : decode prog_14_method_79_code 28 = .ok (.iload_n 1, 1) := by decide +kernel
theorem d_Model_person_29 : decode prog_14_method_79_code 29 = .ok (.iconst 0, 1) := by decide +kernel
theorem d_Model_person_30 : decode prog_14_method_79_code 30 = .ok (.invokevirtual 363, 3) := by decide +kernel
theorem d_Model_person_33 : decode prog_14_method_79_code 33 = .ok (.aload_n 0, 1) := by decide +kernel
theorem d_Model_person_34 : decode prog_14_method_79_code 34 = .ok (.iload_n 1, 1) := by decide +kernel
theorem d_Model_person_35 : decode prog_14_method_79_code 35 = .ok (.iconst 1, 1) := by decide +kernel
theorem d_Model_person_36 : decode prog_14_method_79_code 36 = .ok (.invokevirtual 363, 3) := by decide +kernel
theorem d_Model_person_39 : decode prog_14_method_79_code 39 = .ok (.invokevirtual 367, 3) := by decide +kernel
theorem d_Model_person_42 : decode prog_14_method_79_code 42 = .ok (.aload_n 0, 1) := by decide +kernel
theorem d_Model_person_43 : decode prog_14_method_79_code 43 = .ok (.invokevirtual 370, 3) := by decide +kernel
theorem d_Model_person_46 : decode prog_14_method_79_code 46 = .ok (.aload_n 0, 1) := by decide +kernel
theorem d_Model_person_47 : decode prog_14_method_79_code 47 = .ok (.iconst 0, 1) := by decide +kernel
theorem d_Model_person_48 : decode prog_14_method_79_code 48 = .ok (.putfield 357, 3) := by decide +kernel
theorem d_Model_person_51 : decode prog_14_method_79_code 51 = .ok (.iload_n 2, 1) := by decide +kernel
theorem d_Model_person_52 : decode prog_14_method_79_code 52 = .ok (.ifCond .ne 10, 3) := by decide +kernel
theorem d_Model_person_55 : decode prog_14_method_79_code 55 = .ok (.aload_n 0, 1) := by decide +kernel
theorem d_Model_person_56 : decode prog_14_method_79_code 56 = .ok (.iconst 0, 1) := by decide +kernel
theorem d_Model_person_57 : decode prog_14_method_79_code 57 = .ok (.iconst 0, 1) := by decide +kernel
theorem d_Model_person_58 : decode prog_14_method_79_code 58 = .ok (.iconst 0, 1) := by decide +kernel
theorem d_Model_person_59 : decode prog_14_method_79_code 59 = .ok (.invokevirtual 373, 3) := by decide +kernel
theorem d_Model_person_62 : decode prog_14_method_79_code 62 = .ok (.iload_n 2, 1) := by decide +kernel
theorem d_Model_person_63 : decode prog_14_method_79_code 63 = .ok (.iconst 3, 1) := by decide +kernel
theorem d_Model_person_64 : decode prog_14_method_79_code 64 = .ok (.if_icmp .ne 10, 3) := by decide +kernel
theorem d_Model_person_67 : decode prog_14_method_79_code 67 = .ok (.aload_n 0, 1) := by decide +kernel
theorem d_Model_person_68 : decode prog_14_method_79_code 68 = .ok (.iconst 0, 1) := by decide +kernel
theorem d_Model_person_69 : decode prog_14_method_79_code 69 = .ok (.iconst 0, 1) := by decide +kernel
theorem d_Model_person_70 : decode prog_14_method_79_code 70 = .ok (.iconst 1, 1) := by decide +kernel
theorem d_Model_person_71 : decode prog_14_method_79_code 71 = .ok (.invokevirtual 373, 3) := by decide +kernel
theorem d_Model_person_74 : decode prog_14_method_79_code 74 = .ok (.iload_n 2, 1) := by decide +kernel
theorem d_Model_person_75 : decode prog_14_method_79_code 75 = .ok (.iconst 2, 1) := by decide +kernel
theorem d_Model_person_76 : decode prog_14_method_79_code 76 = .ok (.if_icmp .eq 10, 3) := by decide +kernel
theorem d_Model_person_79 : decode prog_14_method_79_code 79 = .ok (.aload_n 0, 1) := by decide +kernel
theorem d_Model_person_80 : decode prog_14_method_79_code 80 = .ok (.iconst 1, 1) := by decide +kernel
theorem d_Model_person_81 : decode prog_14_method_79_code 81 = .ok (.iconst 0, 1) := by decide +kernel
theorem d_Model_person_82 : decode prog_14_method_79_code 82 = .ok (.iconst 0, 1) := by decide +kernel
theorem d_Model_person_83 : decode prog_14_method_79_code 83 = .ok (.invokevirtual 373, 3) := by decide +kernel
theorem d_Model_person_86 : decode prog_14_method_79_code 86 = .ok (.aload_n 0, 1) := by decide +kernel
theorem d_Model_person_87 : decode prog_14_method_79_code 87 = .ok (.iconst 2, 1) := by decide +kernel
theorem d_Model_person_88 : decode prog_14_method_79_code 88 = .ok (.iconst 0, 1) := by decide +kernel
theorem d_Model_person_89 : decode prog_14_method_79_code 89 = .ok (.iconst 0, 1) := by decide +kernel
theorem d_Model_person_90 : decode prog_14_method_79_code 90 = .ok (.invokevirtual 373, 3) := by decide +kernel
theorem d_Model_person_93 : decode prog_14_method_79_code 93 = .ok (.iload_n 2, 1) := by decide +kernel
theorem d_Model_person_94 : decode prog_14_method_79_code 94 = .ok (.iconst 2, 1) := by decide +kernel
theorem d_Model_person_95 : decode prog_14_method_79_code 95 = .ok (.if_icmp .ge 10, 3) := by decide +kernel
theorem d_Model_person_98 : decode prog_14_method_79_code 98 = .ok (.aload_n 0, 1) := by decide +kernel
theorem d_Model_person_99 : decode prog_14_method_79_code 99 = .ok (.iconst 3, 1) := by decide +kernel
theorem d_Model_person_100 : decode prog_14_method_79_code 100 = .ok (.iconst 1, 1) := by decide +kernel
theorem d_Model_person_101 : decode prog_14_method_79_code 101 = .ok (.iconst 0, 1) := by decide +kernel
theorem d_Model_person_102 : decode prog_14_method_79_code 102 = .ok (.invokevirtual 373, 3) := by decide +kernel
theorem d_Model_person_105 : decode prog_14_method_79_code 105 = .ok (.iload_n 2, 1) := by decide +kernel
theorem d_Model_person_106 : decode prog_14_method_79_code 106 = .ok (.iconst 1, 1) := by decide +kernel
theorem d_Model_person_107 : decode prog_14_method_79_code 107 = .ok (.if_icmp .ne 10, 3) := by decide +kernel
theorem d_Model_person_110 : decode prog_14_method_79_code 110 = .ok (.aload_n 0, 1) := by decide +kernel
theorem d_Model_person_111 : decode prog_14_method_79_code 111 = .ok (.iconst 0, 1) := by decide +kernel
theorem d_Model_person_112 : decode prog_14_method_79_code 112 = .ok (.iconst 1, 1) := by decide +kernel
theorem d_Model_person_113 : decode prog_14_method_79_code 113 = .ok (.iconst 1, 1) := by decide +kernel
theorem d_Model_person_114 : decode prog_14_method_79_code 114 = .ok (.invokevirtual 373, 3) := by decide +kernel
theorem d_Model_person_117 : decode prog_14_method_79_code 117 = .ok (.return_, 1) := by decide +kernel
theorem d_Model_border_0 : decode prog_14_method_73_code 0 = .ok (.iconst 1, 1) := by decide +kernel
theorem d_Model_border_1 : decode prog_14_method_73_code 1 = .ok (.istore_n 3, 1) := by decide +kernel
theorem d_Model_border_2 : decode prog_14_method_73_code 2 = .ok (.iconst 0, 1) := by decide +kernel
theorem d_Model_border_3 : decode prog_14_method_73_code 3 = .ok (.istore 4, 2) := by decide +kernel
theorem d_Model_border_5 : decode prog_14_method_73_code 5 = .ok (.iconst 0, 1) := by decide +kernel
theorem d_Model_border_6 : decode prog_14_method_73_code 6 = .ok (.istore 5, 2) := by decide +kernel
theorem d_Model_border_8 : decode prog_14_method_73_code 8 = .ok (.iconst 0, 1) := by decide +kernel
theorem d_Model_border_9 : decode prog_14_method_73_code 9 = .ok (.istore 6, 2) := by decide +kernel
theorem d_Model_border_11 : decode prog_14_method_73_code 11 = .ok (.iload 6, 2) := by decide +kernel
theorem d_Model_border_13 : decode prog_14_method_73_code 13 = .ok (.aload_n 0, 1) := by decide +kernel
theorem d_Model_border_14 : decode prog_14_method_73_code 14 = .ok (.getfield 16, 3) := by decide +kernel
theorem d_Model_border_17 : decode prog_14_method_73_code 17 = .ok (.bipush 82, 2) := by decide +kernel
theorem d_Model_border_19 : decode prog_14_method_73_code 19 = .ok (.iaload, 1) := by decide +kernel
theorem d_Model_border_20 : decode prog_14_method_73_code 20 = .ok (.if_icmp .ge 92, 3) := by decide +kernel
theorem d_Model_border_23 : decode prog_14_method_73_code 23 = .ok (.aload_n 0, 1) := by decide +kernel
theorem d_Model_border_24 : decode prog_14_method_73_code 24 = .ok (.bipush 82, 2) := by decide +kernel
theorem d_Model_border_26 : decode prog_14_method_73_code 26 = .ok (.iload 6, 2) := by decide +kernel
theorem d_Model_border_28 : decode prog_14_method_73_code 28 = .ok (.invokevirtual 99, 3) := by decide +kernel
theorem d_Model_border_31 : decode prog_14_method_73_code 31 = .ok (.istore 7, 2) := by decide +kernel
theorem d_Model_border_33 : decode prog_14_method_73_code 33 = .ok (.iload 4, 2) := by decide +kernel
theorem d_Model_border_35 : decode prog_14_method_73_code 35 = .ok (.ifCond .ne 38, 3) := by decide +kernel
theorem d_Model_border_38 : decode prog_14_method_73_code 38 = .ok (.aload_n 0, 1) := by decide +kernel
theorem d_Model_border_39 : decode prog_14_method_73_code 39 = .ok (.iload 6, 2) := by decide +kernel
theorem d_Model_border_41 : decode prog_14_method_73_code 41 = .ok (.invokevirtual 345, 3) := by decide +kernel
theorem d_Model_border_44 : decode prog_14_method_73_code 44 = .ok (.ifCond .eq 29, 3) := by decide +kernel
theorem d_Model_border_47 : decode prog_14_method_73_code 47 = .ok (.iload_n 2, 1) := by decide +kernel
theorem d_Model_border_48 : decode prog_14_method_73_code 48 = .ok (.ifCond .eq 11, 3) := by decide +kernel
theorem d_Model_border_51 : decode prog_14_method_73_code 51 = .ok (.iload_n 3, 1) := by decide +kernel
theorem d_Model_border_52 : decode prog_14_method_73_code 52 = .ok (.iload_n 1, 1) := by decide +kernel
theorem d_Model_border_53 : decode prog_14_method_73_code 53 = .ok (.if_icmp .ne 6, 3) := by decide +kernel
theorem d_Model_border_56 : decode prog_14_method_73_code 56 = .ok (.iload 6, 2) := by decide +kernel
theorem d_Model_border_58 : decode prog_14_method_73_code 58 = .ok (.ireturn, 1) := by decide +kernel
theorem d_Model_border_59 : decode prog_14_method_73_code 59 = .ok (.iinc 3 1, 3) := by decide +kernel
theorem d_Model_border_62 : decode prog_14_method_73_code 62 = .ok (.iload_n 3, 1) := by decide +kernel
theorem d_Model_border_63 : decode prog_14_method_73_code 63 = .ok (.iload_n 1, 1) := by decide +kernel
theorem d_Model_border_64 : decode prog_14_method_73_code 64 = .ok (.if_icmp .ne 9, 3) := by decide +kernel
theorem d_Model_border_67 : decode prog_14_method_73_code 67 = .ok (.iload 6, 2) := by decide +kernel
theorem d_Model_border_69 : decode prog_14_method_73_code 69 = .ok (.iconst 3, 1) := by decide +kernel
theorem d_Model_border_70 : decode prog_14_method_73_code 70 = .ok (.iadd, 1) := by decide +kernel
theorem d_Model_border_71 : decode prog_14_method_73_code 71 = .ok (.istore 5, 2) := by decide +kernel
theorem d_Model_border_73 : decode prog_14_method_73_code 73 = .ok (.iload 4, 2) := by decide +kernel
theorem d_Model_border_75 : decode prog_14_method_73_code 75 = .ok (.iload 7, 2) := by decide +kernel
theorem d_Model_border_77 : decode prog_14_method_73_code 77 = .ok (.bipush 123, 2) := by decide +kernel
theorem d_Model_border_79 : decode prog_14_method_73_code 79 = .ok (.if_icmp .ne 7, 3) := by decide +kernel
theorem d_Model_border_82 : decode prog_14_method_73_code 82 = .ok (.iconst 1, 1) := by decide +kernel
theorem d_Model_border_83 : decode prog_14_method_73_code 83 = .ok (.goto 20, 3) := by decide +kernel
theorem d_Model_border_86 : decode prog_14_method_73_code 86 = .ok (.iload 7, 2) := by decide +kernel
theorem d_Model_border_88 : decode prog_14_method_73_code 88 = .ok (.bipush 125, 2) := by decide +kernel
theorem d_Model_border_90 : decode prog_14_method_73_code 90 = .ok (.if_icmp .ne 12, 3) := by decide +kernel
theorem d_Model_border_93 : decode prog_14_method_73_code 93 = .ok (.iload 4, 2) := by decide +kernel
theorem d_Model_border_95 : decode prog_14_method_73_code 95 = .ok (.ifCond .le 7, 3) := by decide +kernel
theorem d_Model_border_98 : decode prog_14_method_73_code 98 = .ok (.iconst (-1), 1) := by decide +kernel
theorem d_Model_border_99 : decode prog_14_method_73_code 99 = .ok (.goto 4, 3) := by decide +kernel
theorem d_Model_border_102 : decode prog_14_method_73_code 102 = .ok (.iconst 0, 1) := by decide +kernel
theorem d_Model_border_103 : decode prog_14_method_73_code 103 = .ok (.iadd, 1) := by decide +kernel
theorem d_Model_border_104 : decode prog_14_method_73_code 104 = .ok (.istore 4, 2) := by decide +kernel
theorem d_Model_border_106 : decode prog_14_method_73_code 106 = .ok (.iinc 6 1, 3) := by decide +kernel
theorem d_Model_border_109 : decode prog_14_method_73_code 109 = .ok (.goto (-98), 3) := by decide +kernel
theorem d_Model_border_112 : decode prog_14_method_73_code 112 = .ok (.iload_n 2, 1) := by decide +kernel
theorem d_Model_border_113 : decode prog_14_method_73_code 113 = .ok (.ifCond .eq 13, 3) := by decide +kernel
theorem d_Model_border_116 : decode prog_14_method_73_code 116 = .ok (.aload_n 0, 1) := by decide +kernel
theorem d_Model_border_117 : decode prog_14_method_73_code 117 = .ok (.getfield 16, 3) := by decide +kernel
theorem d_Model_border_120 : decode prog_14_method_73_code 120 = .ok (.bipush 82, 2) := by decide +kernel
theorem d_Model_border_122 : decode prog_14_method_73_code 122 = .ok (.iaload, 1) := by decide +kernel
theorem d_Model_border_123 : decode prog_14_method_73_code 123 = .ok (.goto 5, 3) := by decide +kernel
theorem d_Model_border_126 : decode prog_14_method_73_code 126 = .ok (.iload 5, 2) := by decide +kernel
theorem d_Model_border_128 : decode prog_14_method_73_code 128 = .ok (.ireturn, 1) := by decide +kernel
theorem d_Model_cut_0 : decode prog_14_method_74_code 0 = .ok (.aload_n 0, 1) := by decide +kernel
theorem d_Model_cut_1 : decode prog_14_method_74_code 1 = .ok (.iconst 0, 1) := by decide +kernel
theorem d_Model_cut_2 : decode prog_14_method_74_code 2 = .ok (.putfield 348, 3) := by decide +kernel
theorem d_Model_cut_5 : decode prog_14_method_74_code 5 = .ok (.aload_n 0, 1) := by decide +kernel
theorem d_Model_cut_6 : decode prog_14_method_74_code 6 = .ok (.iconst 1, 1) := by decide +kernel
theorem d_Model_cut_7 : decode prog_14_method_74_code 7 = .ok (.putfield 351, 3) := by decide +kernel
theorem d_Model_cut_10 : decode prog_14_method_74_code 10 = .ok (.iconst 0, 1) := by decide +kernel
theorem d_Model_cut_11 : decode prog_14_method_74_code 11 = .ok (.istore_n 3, 1) := by decide +kernel
theorem d_Model_cut_12 : decode prog_14_method_74_code 12 = .ok (.iconst 0, 1) := by decide +kernel
theorem d_Model_cut_13 : decode prog_14_method_74_code 13 = .ok (.istore 4, 2) := by decide +kernel
theorem d_Model_cut_15 : decode prog_14_method_74_code 15 = .ok (.iload_n 1, 1) := by decide +kernel
theorem d_Model_cut_16 : decode prog_14_method_74_code 16 = .ok (.istore 5, 2) := by decide +kernel
theorem d_Model_cut_18 : decode prog_14_method_74_code 18 = .ok (.iload 5, 2) := by decide +kernel
theorem d_Model_cut_20 : decode prog_14_method_74_code 20 = .ok (.iload_n 2, 1) := by decide +kernel
theorem d_Model_cut_21 : decode prog_14_method_74_code 21 = .ok (.if_icmp .ge 189, 3) := by decide +kernel
theorem d_Model_cut_24 : decode prog_14_method_74_code 24 = .ok (.aload_n 0, 1) := by decide +kernel
theorem d_Model_cut_25 : decode prog_14_method_74_code 25 = .ok (.bipush 82, 2) := by decide +kernel
theorem d_Model_cut_27 : decode prog_14_method_74_code 27 = .ok (.iload 5, 2) := by decide +kernel
theorem d_Model_cut_29 : decode prog_14_method_74_code 29 = .ok (.invokevirtual 99, 3) := by decide +kernel
theorem d_Model_cut_32 : decode prog_14_method_74_code 32 = .ok (.istore 6, 2) := by decide +kernel
theorem d_Model_cut_34 : decode prog_14_method_74_code 34 = .ok (.iload_n 3, 1) := by decide +kernel
theorem d_Model_cut_35 : decode prog_14_method_74_code 35 = .ok (.ifCond .ne 28, 3) := by decide +kernel
theorem d_Model_cut_38 : decode prog_14_method_74_code 38 = .ok (.iload 6, 2) := by decide +kernel
theorem d_Model_cut_40 : decode prog_14_method_74_code 40 = .ok (.bipush 32, 2) := by decide +kernel
theorem d_Model_cut_42 : decode prog_14_method_74_code 42 = .ok (.if_icmp .eq 17, 3) := by decide +kernel
theorem d_Model_cut_45 : decode prog_14_method_74_code 45 = .ok (.iload 6, 2) := by decide +kernel
theorem d_Model_cut_47 : decode prog_14_method_74_code 47 = .ok (.bipush 126, 2) := by decide +kernel
theorem d_Model_cut_49 : decode prog_14_method_74_code 49 = .ok (.if_icmp .eq 10, 3) := by decide +kernel
theorem d_Model_cut_52 : decode prog_14_method_74_code 52 = .ok (.iload 6, 2) := by decide +kernel
theorem d_Model_cut_54 : decode prog_14_method_74_code 54 = .ok (.bipush 44, 2) := by decide +kernel
theorem d_Model_cut_56 : decode prog_14_method_74_code 56 = .ok (.if_icmp .ne 7, 3) := by decide +kernel
theorem d_Model_cut_59 : decode prog_14_method_74_code 59 = .ok (.iconst 1, 1) := by decide +kernel
theorem d_Model_cut_60 : decode prog_14_method_74_code 60 = .ok (.goto 4, 3) := by decide +kernel
theorem d_Model_cut_63 : decode prog_14_method_74_code 63 = .ok (.iconst 0, 1) := by decide +kernel
theorem d_Model_cut_64 : decode prog_14_method_74_code 64 = .ok (.istore 7, 2) := by decide +kernel
theorem d_Model_cut_66 : decode prog_14_method_74_code 66 = .ok (.iload_n 3, 1) := by decide +kernel
theorem d_Model_cut_67 : decode prog_14_method_74_code 67 = .ok (.iload 6, 2) := by decide +kernel
theorem d_Model_cut_69 : decode prog_14_method_74_code 69 = .ok (.bipush 123, 2) := by decide +kernel
theorem d_Model_cut_71 : decode prog_14_method_74_code 71 = .ok (.if_icmp .ne 7, 3) := by decide +kernel
theorem d_Model_cut_74 : decode prog_14_method_74_code 74 = .ok (.iconst 1, 1) := by decide +kernel
theorem d_Model_cut_75 : decode prog_14_method_74_code 75 = .ok (.goto 19, 3) := by decide +kernel
theorem d_Model_cut_78 : decode prog_14_method_74_code 78 = .ok (.iload 6, 2) := by decide +kernel
theorem d_Model_cut_80 : decode prog_14_method_74_code 80 = .ok (.bipush 125, 2) := by decide +kernel
theorem d_Model_cut_82 : decode prog_14_method_74_code 82 = .ok (.if_icmp .ne 11, 3) := by decide +kernel
theorem d_Model_cut_85 : decode prog_14_method_74_code 85 = .ok (.iload_n 3, 1) := by decide +kernel
theorem d_Model_cut_86 : decode prog_14_method_74_code 86 = .ok (.ifCond .le 7, 3) := by decide +kernel
theorem d_Model_cut_89 : decode prog_14_method_74_code 89 = .ok (.iconst (-1), 1) := by decide +kernel
theorem d_Model_cut_90 : decode prog_14_method_74_code 90 = .ok (.goto 4, 3) := by decide +kernel
theorem d_Model_cut_93 : decode prog_14_method_74_code 93 = .ok (.iconst 0, 1) := by decide +kernel
theorem d_Model_cut_94 : decode prog_14_method_74_code 94 = .ok (.iadd, 1) := by decide +kernel
theorem d_Model_cut_95 : decode prog_14_method_74_code 95 = .ok (.istore_n 3, 1) := by decide +kernel
theorem d_Model_cut_96 : decode prog_14_method_74_code 96 = .ok (.iload 7, 2) := by decide +kernel
theorem d_Model_cut_98 : decode prog_14_method_74_code 98 = .ok (.ifCond .ne 44, 3) := by decide +kernel
theorem d_Model_cut_101 : decode prog_14_method_74_code 101 = .ok (.iload 4, 2) := by decide +kernel
theorem d_Model_cut_103 : decode prog_14_method_74_code 103 = .ok (.ifCond .ne 39, 3) := by decide +kernel
theorem d_Model_cut_106 : decode prog_14_method_74_code 106 = .ok (.aload_n 0, 1) := by decide +kernel
theorem d_Model_cut_107 : decode prog_14_method_74_code 107 = .ok (.getfield 74, 3) := by decide +kernel
theorem d_Model_cut_110 : decode prog_14_method_74_code 110 = .ok (.aload_n 0, 1) := by decide +kernel
theorem d_Model_cut_111 : decode prog_14_method_74_code 111 = .ok (.getfield 348, 3) := by decide +kernel
theorem d_Model_cut_114 : decode prog_14_method_74_code 114 = .ok (.iload 5, 2) := by decide +kernel
theorem d_Model_cut_116 : decode prog_14_method_74_code 116 = .ok (.iastore, 1) := by decide +kernel
theorem d_Model_cut_117 : decode prog_14_method_74_code 117 = .ok (.aload_n 0, 1) := by decide +kernel
theorem d_Model_cut_118 : decode prog_14_method_74_code 118 = .ok (.getfield 80, 3) := by decide +kernel
theorem d_Model_cut_121 : decode prog_14_method_74_code 121 = .ok (.aload_n 0, 1) := by decide +kernel
theorem d_Model_cut_122 : decode prog_14_method_74_code 122 = .ok (.getfield 348, 3) := by decide +kernel
theorem d_Model_cut_125 : decode prog_14_method_74_code 125 = .ok (.aload_n 0, 1) := by decide +kernel
theorem d_Model_cut_126 : decode prog_14_method_74_code 126 = .ok (.getfield 351, 3) := by decide +kernel
theorem d_Model_cut_129 : decode prog_14_method_74_code 129 = .ok (.iconst 1, 1) := by decide +kernel
theorem d_Model_cut_130 : decode prog_14_method_74_code 130 = .ok (.isub, 1) := by decide +kernel
theorem d_Model_cut_131 : decode prog_14_method_74_code 131 = .ok (.iastore, 1) := by decide +kernel
theorem d_Model_cut_132 : decode prog_14_method_74_code 132 = .ok (.aload_n 0, 1) := by decide +kernel
theorem d_Model_cut_133 : decode prog_14_method_74_code 133 = .ok (.dup, 1) := by decide +kernel
theorem d_Model_cut_134 : decode prog_14_method_74_code 134 = .ok (.getfield 348, 3) := by decide +kernel
theorem d_Model_cut_137 : decode prog_14_method_74_code 137 = .ok (.iconst 1, 1) := by decide +kernel
theorem d_Model_cut_138 : decode prog_14_method_74_code 138 = .ok (.iadd, 1) := by decide +kernel
theorem d_Model_cut_139 : decode prog_14_method_74_code 139 = .ok (.putfield 348, 3) := by decide +kernel
theorem d_Model_cut_142 : decode prog_14_method_74_code 142 = .ok (.iload 7, 2) := by decide +kernel
theorem d_Model_cut_144 : decode prog_14_method_74_code 144 = .ok (.ifCond .ne 7, 3) := by decide +kernel
theorem d_Model_cut_147 : decode prog_14_method_74_code 147 = .ok (.iconst 1, 1) := by decide +kernel
theorem d_Model_cut_148 : decode prog_14_method_74_code 148 = .ok (.goto 4, 3) := by decide +kernel
theorem d_Model_cut_151 : decode prog_14_method_74_code 151 = .ok (.iconst 0, 1) := by decide +kernel
theorem d_Model_cut_152 : decode prog_14_method_74_code 152 = .ok (.istore 4, 2) := by decide +kernel
theorem d_Model_cut_154 : decode prog_14_method_74_code 154 = .ok (.iload 4, 2) := by decide +kernel
theorem d_Model_cut_156 : decode prog_14_method_74_code 156 = .ok (.ifCond .eq 18, 3) := by decide +kernel
theorem d_Model_cut_159 : decode prog_14_method_74_code 159 = .ok (.aload_n 0, 1) := by decide +kernel
theorem d_Model_cut_160 : decode prog_14_method_74_code 160 = .ok (.getfield 77, 3) := by decide +kernel
theorem d_Model_cut_163 : decode prog_14_method_74_code 163 = .ok (.aload_n 0, 1) := by decide +kernel
theorem d_Model_cut_164 : decode prog_14_method_74_code 164 = .ok (.getfield 348, 3) := by decide +kernel
theorem d_Model_cut_167 : decode prog_14_method_74_code 167 = .ok (.iconst 1, 1) := by decide +kernel
theorem d_Model_cut_168 : decode prog_14_method_74_code 168 = .ok (.isub, 1) := by decide +kernel
theorem d_Model_cut_169 : decode prog_14_method_74_code 169 = .ok (.iload 5, 2) := by decide +kernel
theorem d_Model_cut_171 : decode prog_14_method_74_code 171 = .ok (.iconst 1, 1) := by decide +kernel
theorem d_Model_cut_172 : decode prog_14_method_74_code 172 = .ok (.iadd, 1) := by decide +kernel
theorem d_Model_cut_173 : decode prog_14_method_74_code 173 = .ok (.iastore, 1) := by decide +kernel
theorem d_Model_cut_174 : decode prog_14_method_74_code 174 = .ok (.iload 7, 2) := by decide +kernel
theorem d_Model_cut_176 : decode prog_14_method_74_code 176 = .ok (.ifCond .eq 28, 3) := by decide +kernel
theorem d_Model_cut_179 : decode prog_14_method_74_code 179 = .ok (.iload 6, 2) := by decide +kernel
theorem d_Model_cut_181 : decode prog_14_method_74_code 181 = .ok (.bipush 44, 2) := by decide +kernel
theorem d_Model_cut_183 : decode prog_14_method_74_code 183 = .ok (.if_icmp .ne 21, 3) := by decide +kernel
theorem d_Model_cut_186 : decode prog_14_method_74_code 186 = .ok (.aload_n 0, 1) := by decide +kernel
theorem d_Model_cut_187 : decode prog_14_method_74_code 187 = .ok (.getfield 351, 3) := by decide +kernel
theorem d_Model_cut_190 : decode prog_14_method_74_code 190 = .ok (.iconst 3, 1) := by decide +kernel
theorem d_Model_cut_191 : decode prog_14_method_74_code 191 = .ok (.if_icmp .ge 13, 3) := by decide +kernel
theorem d_Model_cut_194 : decode prog_14_method_74_code 194 = .ok (.aload_n 0, 1) := by decide +kernel
theorem d_Model_cut_195 : decode prog_14_method_74_code 195 = .ok (.dup, 1) := by decide +kernel
theorem d_Model_cut_196 : decode prog_14_method_74_code 196 = .ok (.getfield 351, 3) := by decide +kernel
theorem d_Model_cut_199 : decode prog_14_method_74_code 199 = .ok (.iconst 1, 1) := by decide +kernel
theorem d_Model_cut_200 : decode prog_14_method_74_code 200 = .ok (.iadd, 1) := by decide +kernel
theorem d_Model_cut_201 : decode prog_14_method_74_code 201 = .ok (.putfield 351, 3) := by decide +kernel
theorem d_Model_cut_204 : decode prog_14_method_74_code 204 = .ok (.iinc 5 1, 3) := by decide +kernel
theorem d_Model_cut_207 : decode prog_14_method_74_code 207 = .ok (.goto (-189), 3) := by decide +kernel
theorem d_Model_cut_210 : decode prog_14_method_74_code 210 = .ok (.return_, 1) := by decide +kernel
theorem d_Model_roles_0 : decode prog_14_method_76_code 0 = .ok (.iconst 0, 1) := by decide +kernel
theorem d_Model_roles_1 : decode prog_14_method_76_code 1 = .ok (.istore_n 1, 1) := by decide +kernel
theorem d_Model_roles_2 : decode prog_14_method_76_code 2 = .ok (.iload_n 1, 1) := by decide +kernel
theorem d_Model_roles_3 : decode prog_14_method_76_code 3 = .ok (.aload_n 0, 1) := by decide +kernel
theorem d_Model_roles_4 : decode prog_14_method_76_code 4 = .ok (.getfield 348, 3) := by decide +kernel
theorem d_Model_roles_7 : decode prog_14_method_76_code 7 = .ok (.if_icmp .ge 18, 3) := by decide +kernel
theorem d_Model_roles_10 : decode prog_14_method_76_code 10 = .ok (.aload_n 0, 1) := by decide +kernel
theorem d_Model_roles_11 : decode prog_14_method_76_code 11 = .ok (.getfield 80, 3) := by decide +kernel
theorem d_Model_roles_14 : decode prog_14_method_76_code 14 = .ok (.iload_n 1, 1) := by decide +kernel
theorem d_Model_roles_15 : decode prog_14_method_76_code 15 = .ok (.iaload, 1) := by decide +kernel
theorem d_Model_roles_16 : decode prog_14_method_76_code 16 = .ok (.ifCond .ne 9, 3) := by decide +kernel
theorem d_Model_roles_19 : decode prog_14_method_76_code 19 = .ok (.iinc 1 1, 3) := by decide +kernel
theorem d_Model_roles_22 : decode prog_14_method_76_code 22 = .ok (.goto (-20), 3) := by decide +kernel
theorem d_Model_roles_25 : decode prog_14_method_76_code 25 = .ok (.iconst (-1), 1) := by decide +kernel
theorem d_Model_roles_26 : decode prog_14_method_76_code 26 = .ok (.istore_n 2, 1) := by decide +kernel
theorem d_Model_roles_27 : decode prog_14_method_76_code 27 = .ok (.iconst (-1), 1) := by decide +kernel
theorem d_Model_roles_28 : decode prog_14_method_76_code 28 = .ok (.istore_n 3, 1) := by decide +kernel
theorem d_Model_roles_29 : decode prog_14_method_76_code 29 = .ok (.iconst 0, 1) := by decide +kernel
theorem d_Model_roles_30 : decode prog_14_method_76_code 30 = .ok (.istore 4, 2) := by decide +kernel
theorem d_Model_roles_32 : decode prog_14_method_76_code 32 = .ok (.iload 4, 2) := by decide +kernel
theorem d_Model_roles_34 : decode prog_14_method_76_code 34 = .ok (.iload_n 1, 1) := by decide +kernel
theorem d_Model_roles_35 : decode prog_14_method_76_code 35 = .ok (.iconst 1, 1) := by decide +kernel
theorem d_Model_roles_36 : decode prog_14_method_76_code 36 = .ok (.isub, 1) := by decide +kernel
theorem d_Model_roles_37 : decode prog_14_method_76_code 37 = .ok (.if_icmp .ge 32, 3) := by decide +kernel
theorem d_Model_roles_40 : decode prog_14_method_76_code 40 = .ok (.aload_n 0, 1) := by decide +kernel
theorem d_Model_roles_41 : decode prog_14_method_76_code 41 = .ok (.iload 4, 2) := by decide +kernel
theorem d_Model_roles_43 : decode prog_14_method_76_code 43 = .ok (.invokevirtual 354, 3) := by decide +kernel
theorem d_Model_roles_46 : decode prog_14_method_76_code 46 = .ok (.ifCond .eq 17, 3) := by decide +kernel
theorem d_Model_roles_49 : decode prog_14_method_76_code 49 = .ok (.iload_n 2, 1) := by decide +kernel
theorem d_Model_roles_50 : decode prog_14_method_76_code 50 = .ok (.ifCond .ge 8, 3) := by decide +kernel
theorem d_Model_roles_53 : decode prog_14_method_76_code 53 = .ok (.iload 4, 2) := by decide +kernel
theorem d_Model_roles_55 : decode prog_14_method_76_code 55 = .ok (.goto 4, 3) := by decide +kernel
theorem d_Model_roles_58 : decode prog_14_method_76_code 58 = .ok (.iload_n 2, 1) := by decide +kernel
theorem d_Model_roles_59 : decode prog_14_method_76_code 59 = .ok (.istore_n 2, 1) := by decide +kernel
theorem d_Model_roles_60 : decode prog_14_method_76_code 60 = .ok (.iload 4, 2) := by decide +kernel
theorem d_Model_roles_62 : decode prog_14_method_76_code 62 = .ok (.istore_n 3, 1) := by decide +kernel
theorem d_Model_roles_63 : decode prog_14_method_76_code 63 = .ok (.iinc 4 1, 3) := by decide +kernel
theorem d_Model_roles_66 : decode prog_14_method_76_code 66 = .ok (.goto (-34), 3) := by decide +kernel
theorem d_Model_roles_69 : decode prog_14_method_76_code 69 = .ok (.iconst 0, 1) := by decide +kernel
theorem d_Model_roles_70 : decode prog_14_method_76_code 70 = .ok (.istore 4, 2) := by decide +kernel
theorem d_Model_roles_72 : decode prog_14_method_76_code 72 = .ok (.iload 4, 2) := by decide +kernel
theorem d_Model_roles_74 : decode prog_14_method_76_code 74 = .ok (.aload_n 0, 1) := by decide +kernel
theorem d_Model_roles_75 : decode prog_14_method_76_code 75 = .ok (.getfield 348, 3) := by decide +kernel
theorem d_Model_roles_78 : decode prog_14_method_76_code 78 = .ok (.if_icmp .ge 134, 3) := by decide +kernel
theorem d_Model_roles_81 : decode prog_14_method_76_code 81 = .ok (.aload_n 0, 1) := by decide +kernel
theorem d_Model_roles_82 : decode prog_14_method_76_code 82 = .ok (.getfield 80, 3) := by decide +kernel
theorem d_Model_roles_85 : decode prog_14_method_76_code 85 = .ok (.iload 4, 2) := by decide +kernel
theorem d_Model_roles_87 : decode prog_14_method_76_code 87 = .ok (.iaload, 1) := by decide +kernel
theorem d_Model_roles_88 : decode prog_14_method_76_code 88 = .ok (.ifCond .le 34, 3) := by decide +kernel
theorem d_Model_roles_91 : decode prog_14_method_76_code 91 = .ok (.aload_n 0, 1) := by decide +kernel
theorem d_Model_roles_92 : decode prog_14_method_76_code 92 = .ok (.getfield 83, 3) := by decide +kernel
theorem d_Model_roles_95 : decode prog_14_method_76_code 95 = .ok (.iload 4, 2) := by decide +kernel
theorem d_Model_roles_97 : decode prog_14_method_76_code 97 = .ok (.aload_n 0, 1) := by decide +kernel
theorem d_Model_roles_98 : decode prog_14_method_76_code 98 = .ok (.getfield 80, 3) := by decide +kernel
theorem d_Model_roles_101 : decode prog_14_method_76_code 101 = .ok (.iload 4, 2) := by decide +kernel
theorem d_Model_roles_103 : decode prog_14_method_76_code 103 = .ok (.iaload, 1) := by decide +kernel
theorem d_Model_roles_104 : decode prog_14_method_76_code 104 = .ok (.aload_n 0, 1) := by decide +kernel
theorem d_Model_roles_105 : decode prog_14_method_76_code 105 = .ok (.getfield 351, 3) := by decide +kernel
theorem d_Model_roles_108 : decode prog_14_method_76_code 108 = .ok (.iconst 1, 1) := by decide +kernel
theorem d_Model_roles_109 : decode prog_14_method_76_code 109 = .ok (.isub, 1) := by decide +kernel
theorem d_Model_roles_110 : decode prog_14_method_76_code 110 = .ok (.if_icmp .ne 7, 3) := by decide +kernel
theorem d_Model_roles_113 : decode prog_14_method_76_code 113 = .ok (.iconst 0, 1) := by decide +kernel
theorem d_Model_roles_114 : decode prog_14_method_76_code 114 = .ok (.goto 4, 3) := by decide +kernel
theorem d_Model_roles_117 : decode prog_14_method_76_code 117 = .ok (.iconst 3, 1) := by decide +kernel
theorem d_Model_roles_118 : decode prog_14_method_76_code 118 = .ok (.iastore, 1) := by decide +kernel
theorem d_Model_roles_119 : decode prog_14_method_76_code 119 = .ok (.goto 87, 3) := by decide +kernel
theorem d_Model_roles_122 : decode prog_14_method_76_code 122 = .ok (.aload_n 0, 1) := by decide +kernel
theorem d_Model_roles_123 : decode prog_14_method_76_code 123 = .ok (.getfield 351, 3) := by decide +kernel
theorem d_Model_roles_126 : decode prog_14_method_76_code 126 = .ok (.iconst 1, 1) := by decide +kernel
theorem d_Model_roles_127 : decode prog_14_method_76_code 127 = .ok (.if_icmp .le 24, 3) := by decide +kernel
theorem d_Model_roles_130 : decode prog_14_method_76_code 130 = .ok (.aload_n 0, 1) := by decide +kernel
theorem d_Model_roles_131 : decode prog_14_method_76_code 131 = .ok (.getfield 83, 3) := by decide +kernel
theorem d_Model_roles_134 : decode prog_14_method_76_code 134 = .ok (.iload 4, 2) := by decide +kernel
theorem d_Model_roles_136 : decode prog_14_method_76_code 136 = .ok (.iload 4, 2) := by decide +kernel
theorem d_Model_roles_138 : decode prog_14_method_76_code 138 = .ok (.iload_n 3, 1) := by decide +kernel
theorem d_Model_roles_139 : decode prog_14_method_76_code 139 = .ok (.if_icmp .gt 7, 3) := by decide +kernel
theorem d_Model_roles_142 : decode prog_14_method_76_code 142 = .ok (.iconst 1, 1) := by decide +kernel
theorem d_Model_roles_143 : decode prog_14_method_76_code 143 = .ok (.goto 4, 3) := by decide +kernel
theorem d_Model_roles_146 : decode prog_14_method_76_code 146 = .ok (.iconst 2, 1) := by decide +kernel
theorem d_Model_roles_147 : decode prog_14_method_76_code 147 = .ok (.iastore, 1) := by decide +kernel
theorem d_Model_roles_148 : decode prog_14_method_76_code 148 = .ok (.goto 58, 3) := by decide +kernel
theorem d_Model_roles_151 : decode prog_14_method_76_code 151 = .ok (.iload_n 3, 1) := by decide +kernel
theorem d_Model_roles_152 : decode prog_14_method_76_code 152 = .ok (.ifCond .ge 26, 3) := by decide +kernel
theorem d_Model_roles_155 : decode prog_14_method_76_code 155 = .ok (.aload_n 0, 1) := by decide +kernel
theorem d_Model_roles_156 : decode prog_14_method_76_code 156 = .ok (.getfield 83, 3) := by decide +kernel
theorem d_Model_roles_159 : decode prog_14_method_76_code 159 = .ok (.iload 4, 2) := by decide +kernel
theorem d_Model_roles_161 : decode prog_14_method_76_code 161 = .ok (.iload 4, 2) := by decide +kernel
theorem d_Model_roles_163 : decode prog_14_method_76_code 163 = .ok (.iload_n 1, 1) := by decide +kernel
theorem d_Model_roles_164 : decode prog_14_method_76_code 164 = .ok (.iconst 1, 1) := by decide +kernel
theorem d_Model_roles_165 : decode prog_14_method_76_code 165 = .ok (.isub, 1) := by decide +kernel
theorem d_Model_roles_166 : decode prog_14_method_76_code 166 = .ok (.if_icmp .ne 7, 3) := by decide +kernel
theorem d_Model_roles_169 : decode prog_14_method_76_code 169 = .ok (.iconst 2, 1) := by decide +kernel
theorem d_Model_roles_170 : decode prog_14_method_76_code 170 = .ok (.goto 4, 3) := by decide +kernel
theorem d_Model_roles_173 : decode prog_14_method_76_code 173 = .ok (.iconst 0, 1) := by decide +kernel
theorem d_Model_roles_174 : decode prog_14_method_76_code 174 = .ok (.iastore, 1) := by decide +kernel
theorem d_Model_roles_175 : decode prog_14_method_76_code 175 = .ok (.goto 31, 3) := by decide +kernel
theorem d_Model_roles_178 : decode prog_14_method_76_code 178 = .ok (.aload_n 0, 1) := by decide +kernel
theorem d_Model_roles_179 : decode prog_14_method_76_code 179 = .ok (.getfield 83, 3) := by decide +kernel
theorem d_Model_roles_182 : decode prog_14_method_76_code 182 = .ok (.iload 4, 2) := by decide +kernel
theorem d_Model_roles_184 : decode prog_14_method_76_code 184 = .ok (.iload 4, 2) := by decide +kernel
theorem d_Model_roles_186 : decode prog_14_method_76_code 186 = .ok (.iload_n 2, 1) := by decide +kernel
theorem d_Model_roles_187 : decode prog_14_method_76_code 187 = .ok (.if_icmp .ge 7, 3) := by decide +kernel
theorem d_Model_roles_190 : decode prog_14_method_76_code 190 = .ok (.iconst 0, 1) := by decide +kernel
theorem d_Model_roles_191 : decode prog_14_method_76_code 191 = .ok (.goto 14, 3) := by decide +kernel
theorem d_Model_roles_194 : decode prog_14_method_76_code 194 = .ok (.iload 4, 2) := by decide +kernel
theorem d_Model_roles_196 : decode prog_14_method_76_code 196 = .ok (.iload_n 3, 1) := by decide +kernel
theorem d_Model_roles_197 : decode prog_14_method_76_code 197 = .ok (.if_icmp .gt 7, 3) := by decide +kernel
theorem d_Model_roles_200 : decode prog_14_method_76_code 200 = .ok (.iconst 1, 1) := by decide +kernel
theorem d_Model_roles_201 : decode prog_14_method_76_code 201 = .ok (.goto 4, 3) := by decide +kernel
theorem d_Model_roles_204 : decode prog_14_method_76_code 204 = .ok (.iconst 2, 1) := by decide +kernel
theorem d_Model_roles_205 : decode prog_14_method_76_code 205 = .ok (.iastore, 1) := by decide +kernel
theorem d_Model_roles_206 : decode prog_14_method_76_code 206 = .ok (.iinc 4 1, 3) := by decide +kernel
theorem d_Model_roles_209 : decode prog_14_method_76_code 209 = .ok (.goto (-137), 3) := by decide +kernel
theorem d_Model_roles_212 : decode prog_14_method_76_code 212 = .ok (.return_, 1) := by decide +kernel
theorem d_Model_low_0 : decode prog_14_method_75_code 0 = .ok (.iconst 0, 1) := by decide +kernel
theorem d_Model_low_1 : decode prog_14_method_75_code 1 = .ok (.istore_n 2, 1) := by decide +kernel
theorem d_Model_low_2 : decode prog_14_method_75_code 2 = .ok (.aload_n 0, 1) := by decide +kernel
theorem d_Model_low_3 : decode prog_14_method_75_code 3 = .ok (.getfield 74, 3) := by decide +kernel
theorem d_Model_low_6 : decode prog_14_method_75_code 6 = .ok (.iload_n 1, 1) := by decide +kernel
theorem d_Model_low_7 : decode prog_14_method_75_code 7 = .ok (.iaload, 1) := by decide +kernel
theorem d_Model_low_8 : decode prog_14_method_75_code 8 = .ok (.istore_n 3, 1) := by decide +kernel
theorem d_Model_low_9 : decode prog_14_method_75_code 9 = .ok (.iload_n 3, 1) := by decide +kernel
theorem d_Model_low_10 : decode prog_14_method_75_code 10 = .ok (.aload_n 0, 1) := by decide +kernel
theorem d_Model_low_11 : decode prog_14_method_75_code 11 = .ok (.getfield 77, 3) := by decide +kernel
theorem d_Model_low_14 : decode prog_14_method_75_code 14 = .ok (.iload_n 1, 1) := by decide +kernel
theorem d_Model_low_15 : decode prog_14_method_75_code 15 = .ok (.iaload, 1) := by decide +kernel
theorem d_Model_low_16 : decode prog_14_method_75_code 16 = .ok (.if_icmp .ge 70, 3) := by decide +kernel
theorem d_Model_low_19 : decode prog_14_method_75_code 19 = .ok (.aload_n 0, 1) := by decide +kernel
theorem d_Model_low_20 : decode prog_14_method_75_code 20 = .ok (.bipush 82, 2) := by decide +kernel
theorem d_Model_low_22 : decode prog_14_method_75_code 22 = .ok (.iload_n 3, 1) := by decide +kernel
theorem d_Model_low_23 : decode prog_14_method_75_code 23 = .ok (.invokevirtual 99, 3) := by decide +kernel
theorem d_Model_low_26 : decode prog_14_method_75_code 26 = .ok (.istore 4, 2) := by decide +kernel
theorem d_Model_low_28 : decode prog_14_method_75_code 28 = .ok (.iload_n 2, 1) := by decide +kernel
theorem d_Model_low_29 : decode prog_14_method_75_code 29 = .ok (.ifCond .ne 21, 3) := by decide +kernel
theorem d_Model_low_32 : decode prog_14_method_75_code 32 = .ok (.iload 4, 2) := by decide +kernel
theorem d_Model_low_34 : decode prog_14_method_75_code 34 = .ok (.invokestatic 107, 3) := by decide +kernel
theorem d_Model_low_37 : decode prog_14_method_75_code 37 = .ok (.ifCond .eq 13, 3) := by decide +kernel
theorem d_Model_low_40 : decode prog_14_method_75_code 40 = .ok (.iload 4, 2) := by decide +kernel
theorem d_Model_low_42 : decode prog_14_method_75_code 42 = .ok (.bipush 97, 2) := by decide +kernel
theorem d_Model_low_44 : decode prog_14_method_75_code 44 = .ok (.bipush 122, 2) := by decide +kernel
theorem d_Model_low_46 : decode prog_14_method_75_code 46 = .ok (.invokestatic 103, 3) := by decide +kernel
theorem d_Model_low_49 : decode prog_14_method_75_code 49 = .ok (.ireturn, 1) := by decide +kernel
theorem d_Model_low_50 : decode prog_14_method_75_code 50 = .ok (.iload_n 2, 1) := by decide +kernel
theorem d_Model_low_51 : decode prog_14_method_75_code 51 = .ok (.iload 4, 2) := by decide +kernel
theorem d_Model_low_53 : decode prog_14_method_75_code 53 = .ok (.bipush 123, 2) := by decide +kernel
theorem d_Model_low_55 : decode prog_14_method_75_code 55 = .ok (.if_icmp .ne 7, 3) := by decide +kernel
theorem d_Model_low_58 : decode prog_14_method_75_code 58 = .ok (.iconst 1, 1) := by decide +kernel
theorem d_Model_low_59 : decode prog_14_method_75_code 59 = .ok (.goto 19, 3) := by decide +kernel
theorem d_Model_low_62 : decode prog_14_method_75_code 62 = .ok (.iload 4, 2) := by decide +kernel
theorem d_Model_low_64 : decode prog_14_method_75_code 64 = .ok (.bipush 125, 2) := by decide +kernel
theorem d_Model_low_66 : decode prog_14_method_75_code 66 = .ok (.if_icmp .ne 11, 3) := by decide +kernel
theorem d_Model_low_69 : decode prog_14_method_75_code 69 = .ok (.iload_n 2, 1) := by decide +kernel
theorem d_Model_low_70 : decode prog_14_method_75_code 70 = .ok (.ifCond .le 7, 3) := by decide +kernel
theorem d_Model_low_73 : decode prog_14_method_75_code 73 = .ok (.iconst (-1), 1) := by decide +kernel
theorem d_Model_low_74 : decode prog_14_method_75_code 74 = .ok (.goto 4, 3) := by decide +kernel
theorem d_Model_low_77 : decode prog_14_method_75_code 77 = .ok (.iconst 0, 1) := by decide +kernel
theorem d_Model_low_78 : decode prog_14_method_75_code 78 = .ok (.iadd, 1) := by decide +kernel
theorem d_Model_low_79 : decode prog_14_method_75_code 79 = .ok (.istore_n 2, 1) := by decide +kernel
theorem d_Model_low_80 : decode prog_14_method_75_code 80 = .ok (.iinc 3 1, 3) := by decide +kernel
theorem d_Model_low_83 : decode prog_14_method_75_code 83 = .ok (.goto (-74), 3) := by decide +kernel
theorem d_Model_low_86 : decode prog_14_method_75_code 86 = .ok (.iconst 0, 1) := by decide +kernel
theorem d_Model_low_87 : decode prog_14_method_75_code 87 = .ok (.ireturn, 1) := by decide +kernel
theorem d_Model_group_0 : decode prog_14_method_78_code 0 = .ok (.iconst 0, 1) := by decide +kernel
theorem d_Model_group_1 : decode prog_14_method_78_code 1 = .ok (.istore 4, 2) := by decide +kernel
theorem d_Model_group_3 : decode prog_14_method_78_code 3 = .ok (.iconst 0, 1) := by decide +kernel
theorem d_Model_group_4 : decode prog_14_method_78_code 4 = .ok (.istore 5, 2) := by decide +kernel
theorem d_Model_group_6 : decode prog_14_method_78_code 6 = .ok (.iload 5, 2) := by decide +kernel
theorem d_Model_group_8 : decode prog_14_method_78_code 8 = .ok (.aload_n 0, 1) := by decide +kernel
theorem d_Model_group_9 : decode prog_14_method_78_code 9 = .ok (.getfield 348, 3) := by decide +kernel
theorem d_Model_group_12 : decode prog_14_method_78_code 12 = .ok (.if_icmp .ge 122, 3) := by decide +kernel
theorem d_Model_group_15 : decode prog_14_method_78_code 15 = .ok (.aload_n 0, 1) := by decide +kernel
theorem d_Model_group_16 : decode prog_14_method_78_code 16 = .ok (.getfield 83, 3) := by decide +kernel
theorem d_Model_group_19 : decode prog_14_method_78_code 19 = .ok (.iload 5, 2) := by decide +kernel
theorem d_Model_group_21 : decode prog_14_method_78_code 21 = .ok (.iaload, 1) := by decide +kernel
theorem d_Model_group_22 : decode prog_14_method_78_code 22 = .ok (.iload_n 1, 1) := by decide +kernel
theorem d_Model_group_23 : decode prog_14_method_78_code 23 = .ok (.if_icmp .ne 105, 3) := by decide +kernel
theorem d_Model_group_26 : decode prog_14_method_78_code 26 = .ok (.aload_n 0, 1) := by decide +kernel
theorem d_Model_group_27 : decode prog_14_method_78_code 27 = .ok (.getfield 357, 3) := by decide +kernel
theorem d_Model_group_30 : decode prog_14_method_78_code 30 = .ok (.ifCond .eq 20, 3) := by decide +kernel
theorem d_Model_group_33 : decode prog_14_method_78_code 33 = .ok (.iload 4, 2) := by decide +kernel
theorem d_Model_group_35 : decode prog_14_method_78_code 35 = .ok (.ifCond .ne 15, 3) := by decide +kernel
theorem d_Model_group_38 : decode prog_14_method_78_code 38 = .ok (.iload_n 2, 1) := by decide +kernel
theorem d_Model_group_39 : decode prog_14_method_78_code 39 = .ok (.ifCond .eq 11, 3) := by decide +kernel
theorem d_Model_group_42 : decode prog_14_method_78_code 42 = .ok (.aload_n 0, 1) := by decide +kernel
theorem d_Model_group_43 : decode prog_14_method_78_code 43 = .ok (.bipush 84, 2) := by decide +kernel
theorem d_Model_group_45 : decode prog_14_method_78_code 45 = .ok (.bipush 44, 2) := by decide +kernel
theorem d_Model_group_47 : decode prog_14_method_78_code 47 = .ok (.invokevirtual 124, 3) := by decide +kernel
theorem d_Model_group_50 : decode prog_14_method_78_code 50 = .ok (.aload_n 0, 1) := by decide +kernel
theorem d_Model_group_51 : decode prog_14_method_78_code 51 = .ok (.getfield 357, 3) := by decide +kernel
theorem d_Model_group_54 : decode prog_14_method_78_code 54 = .ok (.ifCond .eq 11, 3) := by decide +kernel
theorem d_Model_group_57 : decode prog_14_method_78_code 57 = .ok (.aload_n 0, 1) := by decide +kernel
theorem d_Model_group_58 : decode prog_14_method_78_code 58 = .ok (.bipush 84, 2) := by decide +kernel
theorem d_Model_group_60 : decode prog_14_method_78_code 60 = .ok (.bipush 32, 2) := by decide +kernel
theorem d_Model_group_62 : decode prog_14_method_78_code 62 = .ok (.invokevirtual 124, 3) := by decide +kernel
theorem d_Model_group_65 : decode prog_14_method_78_code 65 = .ok (.aload_n 0, 1) := by decide +kernel
theorem d_Model_group_66 : decode prog_14_method_78_code 66 = .ok (.iconst 1, 1) := by decide +kernel
theorem d_Model_group_67 : decode prog_14_method_78_code 67 = .ok (.putfield 357, 3) := by decide +kernel
theorem d_Model_group_70 : decode prog_14_method_78_code 70 = .ok (.iconst 1, 1) := by decide +kernel
theorem d_Model_group_71 : decode prog_14_method_78_code 71 = .ok (.istore 4, 2) := by decide +kernel
theorem d_Model_group_73 : decode prog_14_method_78_code 73 = .ok (.iload_n 3, 1) := by decide +kernel
theorem d_Model_group_74 : decode prog_14_method_78_code 74 = .ok (.ifCond .eq 9, 3) := by decide +kernel
theorem d_Model_group_77 : decode prog_14_method_78_code 77 = .ok (.aload_n 0, 1) := by decide +kernel
theorem d_Model_group_78 : decode prog_14_method_78_code 78 = .ok (.iload 5, 2) := by decide +kernel
theorem d_Model_group_80 : decode prog_14_method_78_code 80 = .ok (.invokevirtual 360, 3) := by decide +kernel
theorem d_Model_group_83 : decode prog_14_method_78_code 83 = .ok (.aload_n 0, 1) := by decide +kernel
theorem d_Model_group_84 : decode prog_14_method_78_code 84 = .ok (.getfield 74, 3) := by decide +kernel
theorem d_Model_group_87 : decode prog_14_method_78_code 87 = .ok (.iload 5, 2) := by decide +kernel
theorem d_Model_group_89 : decode prog_14_method_78_code 89 = .ok (.iaload, 1) := by decide +kernel
theorem d_Model_group_90 : decode prog_14_method_78_code 90 = .ok (.istore 6, 2) := by decide +kernel
theorem d_Model_group_92 : decode prog_14_method_78_code 92 = .ok (.iload 6, 2) := by decide +kernel
theorem d_Model_group_94 : decode prog_14_method_78_code 94 = .ok (.aload_n 0, 1) := by decide +kernel
theorem d_Model_group_95 : decode prog_14_method_78_code 95 = .ok (.getfield 77, 3) := by decide +kernel
theorem d_Model_group_98 : decode prog_14_method_78_code 98 = .ok (.iload 5, 2) := by decide +kernel
theorem d_Model_group_100 : decode prog_14_method_78_code 100 = .ok (.iaload, 1) := by decide +kernel
theorem d_Model_group_101 : decode prog_14_method_78_code 101 = .ok (.if_icmp .ge 27, 3) := by decide +kernel
theorem d_Model_group_104 : decode prog_14_method_78_code 104 = .ok (.iload_n 3, 1) := by decide +kernel
theorem d_Model_group_105 : decode prog_14_method_78_code 105 = .ok (.ifCond .ne 23, 3) := by decide +kernel
theorem d_Model_group_108 : decode prog_14_method_78_code 108 = .ok (.aload_n 0, 1) := by decide +kernel
theorem d_Model_group_109 : decode prog_14_method_78_code 109 = .ok (.bipush 84, 2) := by decide +kernel
theorem d_Model_group_111 : decode prog_14_method_78_code 111 = .ok (.aload_n 0, 1) := by decide +kernel
theorem d_Model_group_112 : decode prog_14_method_78_code 112 = .ok (.bipush 82, 2) := by decide +kernel
theorem d_Model_group_114 : decode prog_14_method_78_code 114 = .ok (.iload 6, 2) := by decide +kernel
theorem d_Model_group_116 : decode prog_14_method_78_code 116 = .ok (.invokevirtual 99, 3) := by decide +kernel
theorem d_Model_group_119 : decode prog_14_method_78_code 119 = .ok (.invokevirtual 124, 3) := by decide +kernel
theorem d_Model_group_122 : decode prog_14_method_78_code 122 = .ok (.iinc 6 1, 3) := by decide +kernel
theorem d_Model_group_125 : decode prog_14_method_78_code 125 = .ok (.goto (-33), 3) := by decide +kernel
theorem d_Model_group_128 : decode prog_14_method_78_code 128 = .ok (.iinc 5 1, 3) := by decide +kernel
theorem d_Model_group_131 : decode prog_14_method_78_code 131 = .ok (.goto (-125), 3) := by decide +kernel
theorem d_Model_group_134 : decode prog_14_method_78_code 134 = .ok (.return_, 1) := by decide +kernel
theorem d_Model_initial_0 : decode prog_14_method_77_code 0 = .ok (.iconst (-1), 1) := by decide +kernel
theorem d_Model_initial_1 : decode prog_14_method_77_code 1 = .ok (.istore_n 2, 1) := by decide +kernel
theorem d_Model_initial_2 : decode prog_14_method_77_code 2 = .ok (.aload_n 0, 1) := by decide +kernel
theorem d_Model_initial_3 : decode prog_14_method_77_code 3 = .ok (.getfield 77, 3) := by decide +kernel
theorem d_Model_initial_6 : decode prog_14_method_77_code 6 = .ok (.iload_n 1, 1) := by decide +kernel
theorem d_Model_initial_7 : decode prog_14_method_77_code 7 = .ok (.iaload, 1) := by decide +kernel
theorem d_Model_initial_8 : decode prog_14_method_77_code 8 = .ok (.iconst 1, 1) := by decide +kernel
theorem d_Model_initial_9 : decode prog_14_method_77_code 9 = .ok (.isub, 1) := by decide +kernel
theorem d_Model_initial_10 : decode prog_14_method_77_code 10 = .ok (.istore_n 3, 1) := by decide +kernel
theorem d_Model_initial_11 : decode prog_14_method_77_code 11 = .ok (.iload_n 3, 1) := by decide +kernel
theorem d_Model_initial_12 : decode prog_14_method_77_code 12 = .ok (.aload_n 0, 1) := by decide +kernel
theorem d_Model_initial_13 : decode prog_14_method_77_code 13 = .ok (.getfield 74, 3) := by decide +kernel
theorem d_Model_initial_16 : decode prog_14_method_77_code 16 = .ok (.iload_n 1, 1) := by decide +kernel
theorem d_Model_initial_17 : decode prog_14_method_77_code 17 = .ok (.iaload, 1) := by decide +kernel
theorem d_Model_initial_18 : decode prog_14_method_77_code 18 = .ok (.if_icmp .lt 45, 3) := by decide +kernel
theorem d_Model_initial_21 : decode prog_14_method_77_code 21 = .ok (.aload_n 0, 1) := by decide +kernel
theorem d_Model_initial_22 : decode prog_14_method_77_code 22 = .ok (.bipush 82, 2) := by decide +kernel
theorem d_Model_initial_24 : decode prog_14_method_77_code 24 = .ok (.iload_n 3, 1) := by decide +kernel
theorem d_Model_initial_25 : decode prog_14_method_77_code 25 = .ok (.invokevirtual 99, 3) := by decide +kernel
theorem d_Model_initial_28 : decode prog_14_method_77_code 28 = .ok (.bipush 123, 2) := by decide +kernel
theorem d_Model_initial_30 : decode prog_14_method_77_code 30 = .ok (.if_icmp .eq 25, 3) := by decide +kernel
theorem d_Model_initial_33 : decode prog_14_method_77_code 33 = .ok (.aload_n 0, 1) := by decide +kernel
theorem d_Model_initial_34 : decode prog_14_method_77_code 34 = .ok (.bipush 82, 2) := by decide +kernel
theorem d_Model_initial_36 : decode prog_14_method_77_code 36 = .ok (.iload_n 3, 1) := by decide +kernel
theorem d_Model_initial_37 : decode prog_14_method_77_code 37 = .ok (.invokevirtual 99, 3) := by decide +kernel
theorem d_Model_initial_40 : decode prog_14_method_77_code 40 = .ok (.bipush 125, 2) := by decide +kernel
theorem d_Model_initial_42 : decode prog_14_method_77_code 42 = .ok (.if_icmp .eq 13, 3) := by decide +kernel
theorem d_Model_initial_45 : decode prog_14_method_77_code 45 = .ok (.aload_n 0, 1) := by decide +kernel
theorem d_Model_initial_46 : decode prog_14_method_77_code 46 = .ok (.bipush 82, 2) := by decide +kernel
theorem d_Model_initial_48 : decode prog_14_method_77_code 48 = .ok (.iload_n 3, 1) := by decide +kernel
theorem d_Model_initial_49 : decode prog_14_method_77_code 49 = .ok (.invokevirtual 99, 3) := by decide +kernel
theorem d_Model_initial_52 : decode prog_14_method_77_code 52 = .ok (.goto 4, 3) := by decide +kernel
theorem d_Model_initial_55 : decode prog_14_method_77_code 55 = .ok (.iload_n 2, 1) := by decide +kernel
theorem d_Model_initial_56 : decode prog_14_method_77_code 56 = .ok (.istore_n 2, 1) := by decide +kernel
theorem d_Model_initial_57 : decode prog_14_method_77_code 57 = .ok (.iinc 3 (-1), 3) := by decide +kernel
theorem d_Model_initial_60 : decode prog_14_method_77_code 60 = .ok (.goto (-49), 3) := by decide +kernel
theorem d_Model_initial_63 : decode prog_14_method_77_code 63 = .ok (.aload_n 0, 1) := by decide +kernel
theorem d_Model_initial_64 : decode prog_14_method_77_code 64 = .ok (.getfield 77, 3) := by decide +kernel
theorem d_Model_initial_67 : decode prog_14_method_77_code 67 = .ok (.iload_n 1, 1) := by decide +kernel
theorem d_Model_initial_68 : decode prog_14_method_77_code 68 = .ok (.iaload, 1) := by decide +kernel
theorem d_Model_initial_69 : decode prog_14_method_77_code 69 = .ok (.iconst 1, 1) := by decide +kernel
theorem d_Model_initial_70 : decode prog_14_method_77_code 70 = .ok (.isub, 1) := by decide +kernel
theorem d_Model_initial_71 : decode prog_14_method_77_code 71 = .ok (.istore_n 3, 1) := by decide +kernel
theorem d_Model_initial_72 : decode prog_14_method_77_code 72 = .ok (.iload_n 3, 1) := by decide +kernel
theorem d_Model_initial_73 : decode prog_14_method_77_code 73 = .ok (.aload_n 0, 1) := by decide +kernel
theorem d_Model_initial_74 : decode prog_14_method_77_code 74 = .ok (.getfield 74, 3) := by decide +kernel
theorem d_Model_initial_77 : decode prog_14_method_77_code 77 = .ok (.iload_n 1, 1) := by decide +kernel
theorem d_Model_initial_78 : decode prog_14_method_77_code 78 = .ok (.iaload, 1) := by decide +kernel
theorem d_Model_initial_79 : decode prog_14_method_77_code 79 = .ok (.if_icmp .lt 34, 3) := by decide +kernel
theorem d_Model_initial_82 : decode prog_14_method_77_code 82 = .ok (.aload_n 0, 1) := by decide +kernel
theorem d_Model_initial_83 : decode prog_14_method_77_code 83 = .ok (.bipush 82, 2) := by decide +kernel
theorem d_Model_initial_85 : decode prog_14_method_77_code 85 = .ok (.iload_n 3, 1) := by decide +kernel
theorem d_Model_initial_86 : decode prog_14_method_77_code 86 = .ok (.invokevirtual 99, 3) := by decide +kernel
theorem d_Model_initial_89 : decode prog_14_method_77_code 89 = .ok (.invokestatic 107, 3) := by decide +kernel
theorem d_Model_initial_92 : decode prog_14_method_77_code 92 = .ok (.ifCond .eq 13, 3) := by decide +kernel
theorem d_Model_initial_95 : decode prog_14_method_77_code 95 = .ok (.aload_n 0, 1) := by decide +kernel
theorem d_Model_initial_96 : decode prog_14_method_77_code 96 = .ok (.bipush 82, 2) := by decide +kernel
theorem d_Model_initial_98 : decode prog_14_method_77_code 98 = .ok (.iload_n 3, 1) := by decide +kernel
theorem d_Model_initial_99 : decode prog_14_method_77_code 99 = .ok (.invokevirtual 99, 3) := by decide +kernel
theorem d_Model_initial_102 : decode prog_14_method_77_code 102 = .ok (.goto 4, 3) := by decide +kernel
theorem d_Model_initial_105 : decode prog_14_method_77_code 105 = .ok (.iload_n 2, 1) := by decide +kernel
theorem d_Model_initial_106 : decode prog_14_method_77_code 106 = .ok (.istore_n 2, 1) := by decide +kernel
theorem d_Model_initial_107 : decode prog_14_method_77_code 107 = .ok (.iinc 3 (-1), 3) := by decide +kernel
theorem d_Model_initial_110 : decode prog_14_method_77_code 110 = .ok (.goto (-38), 3) := by decide +kernel
theorem d_Model_initial_113 : decode prog_14_method_77_code 113 = .ok (.iload_n 2, 1) := by decide +kernel
theorem d_Model_initial_114 : decode prog_14_method_77_code 114 = .ok (.ifCond .lt 10, 3) := by decide +kernel
theorem d_Model_initial_117 : decode prog_14_method_77_code 117 = .ok (.aload_n 0, 1) := by decide +kernel
theorem d_Model_initial_118 : decode prog_14_method_77_code 118 = .ok (.bipush 84, 2) := by decide +kernel
theorem d_Model_initial_120 : decode prog_14_method_77_code 120 = .ok (.iload_n 2, 1) := by decide +kernel
theorem d_Model_initial_121 : decode prog_14_method_77_code 121 = .ok (.invokevirtual 124, 3) := by decide +kernel
theorem d_Model_initial_124 : decode prog_14_method_77_code 124 = .ok (.aload_n 0, 1) := by decide +kernel
theorem d_Model_initial_125 : decode prog_14_method_77_code 125 = .ok (.bipush 84, 2) := by decide +kernel
theorem d_Model_initial_127 : decode prog_14_method_77_code 127 = .ok (.bipush 46, 2) := by decide +kernel
theorem d_Model_initial_129 : decode prog_14_method_77_code 129 = .ok (.invokevirtual 124, 3) := by decide +kernel
theorem d_Model_initial_132 : decode prog_14_method_77_code 132 = .ok (.return_, 1) := by decide +kernel
theorem d_Model_capitals_0 : decode prog_14_method_67_code 0 = .ok (.aload_n 0, 1) := by decide +kernel
theorem d_Model_capitals_1 : decode prog_14_method_67_code 1 = .ok (.bipush 84, 2) := by decide +kernel
theorem d_Model_capitals_3 : decode prog_14_method_67_code 3 = .ok (.invokevirtual 120, 3) := by decide +kernel
theorem d_Model_capitals_6 : decode prog_14_method_67_code 6 = .ok (.iconst 0, 1) := by decide +kernel
theorem d_Model_capitals_7 : decode prog_14_method_67_code 7 = .ok (.istore_n 2, 1) := by decide +kernel
theorem d_Model_capitals_8 : decode prog_14_method_67_code 8 = .ok (.iconst 1, 1) := by decide +kernel
theorem d_Model_capitals_9 : decode prog_14_method_67_code 9 = .ok (.istore_n 3, 1) := by decide +kernel
theorem d_Model_capitals_10 : decode prog_14_method_67_code 10 = .ok (.iconst 0, 1) := by decide +kernel
theorem d_Model_capitals_11 : decode prog_14_method_67_code 11 = .ok (.istore 4, 2) := by decide +kernel
theorem d_Model_capitals_13 : decode prog_14_method_67_code 13 = .ok (.iload 4, 2) := by decide +kernel
theorem d_Model_capitals_15 : decode prog_14_method_67_code 15 = .ok (.aload_n 0, 1) := by decide +kernel
theorem d_Model_capitals_16 : decode prog_14_method_67_code 16 = .ok (.getfield 16, 3) := by decide +kernel
theorem d_Model_capitals_19 : decode prog_14_method_67_code 19 = .ok (.bipush 82, 2) := by decide +kernel
theorem d_Model_capitals_21 : decode prog_14_method_67_code 21 = .ok (.iaload, 1) := by decide +kernel
theorem d_Model_capitals_22 : decode prog_14_method_67_code 22 = .ok (.if_icmp .ge 160, 3) := by decide +kernel
theorem d_Model_capitals_25 : decode prog_14_method_67_code 25 = .ok (.aload_n 0, 1) := by decide +kernel
theorem d_Model_capitals_26 : decode prog_14_method_67_code 26 = .ok (.bipush 82, 2) := by decide +kernel
theorem d_Model_capitals_28 : decode prog_14_method_67_code 28 = .ok (.iload 4, 2) := by decide +kernel
theorem d_Model_capitals_30 : decode prog_14_method_67_code 30 = .ok (.invokevirtual 99, 3) := by decide +kernel
theorem d_Model_capitals_33 : decode prog_14_method_67_code 33 = .ok (.istore 5, 2) := by decide +kernel
theorem d_Model_capitals_35 : decode prog_14_method_67_code 35 = .ok (.iload_n 2, 1) := by decide +kernel
theorem d_Model_capitals_36 : decode prog_14_method_67_code 36 = .ok (.ifCond .ne 7, 3) := by decide +kernel
theorem d_Model_capitals_39 : decode prog_14_method_67_code 39 = .ok (.iconst 1, 1) := by decide +kernel
theorem d_Model_capitals_40 : decode prog_14_method_67_code 40 = .ok (.goto 4, 3) := by decide +kernel
theorem d_Model_capitals_43 : decode prog_14_method_67_code 43 = .ok (.iconst 0, 1) := by decide +kernel
theorem d_Model_capitals_44 : decode prog_14_method_67_code 44 = .ok (.istore 6, 2) := by decide +kernel
theorem d_Model_capitals_46 : decode prog_14_method_67_code 46 = .ok (.iload_n 2, 1) := by decide +kernel
theorem d_Model_capitals_47 : decode prog_14_method_67_code 47 = .ok (.iload 5, 2) := by decide +kernel
theorem d_Model_capitals_49 : decode prog_14_method_67_code 49 = .ok (.bipush 123, 2) := by decide +kernel
theorem d_Model_capitals_51 : decode prog_14_method_67_code 51 = .ok (.if_icmp .ne 7, 3) := by decide +kernel
theorem d_Model_capitals_54 : decode prog_14_method_67_code 54 = .ok (.iconst 1, 1) := by decide +kernel
theorem d_Model_capitals_55 : decode prog_14_method_67_code 55 = .ok (.goto 19, 3) := by decide +kernel
theorem d_Model_capitals_58 : decode prog_14_method_67_code 58 = .ok (.iload 5, 2) := by decide +kernel
theorem d_Model_capitals_60 : decode prog_14_method_67_code 60 = .ok (.bipush 125, 2) := by decide +kernel
theorem d_Model_capitals_62 : decode prog_14_method_67_code 62 = .ok (.if_icmp .ne 11, 3) := by decide +kernel
theorem d_Model_capitals_65 : decode prog_14_method_67_code 65 = .ok (.iload_n 2, 1) := by decide +kernel
theorem d_Model_capitals_66 : decode prog_14_method_67_code 66 = .ok (.ifCond .le 7, 3) := by decide +kernel
theorem d_Model_capitals_69 : decode prog_14_method_67_code 69 = .ok (.iconst (-1), 1) := by decide +kernel
theorem d_Model_capitals_70 : decode prog_14_method_67_code 70 = .ok (.goto 4, 3) := by decide +kernel
theorem d_Model_capitals_73 : decode prog_14_method_67_code 73 = .ok (.iconst 0, 1) := by decide +kernel
theorem d_Model_capitals_74 : decode prog_14_method_67_code 74 = .ok (.iadd, 1) := by decide +kernel
theorem d_Model_capitals_75 : decode prog_14_method_67_code 75 = .ok (.istore_n 2, 1) := by decide +kernel
theorem d_Model_capitals_76 : decode prog_14_method_67_code 76 = .ok (.iload_n 3, 1) := by decide +kernel
theorem d_Model_capitals_77 : decode prog_14_method_67_code 77 = .ok (.ifCond .eq 19, 3) := by decide +kernel
theorem d_Model_capitals_80 : decode prog_14_method_67_code 80 = .ok (.iload 4, 2) := by decide +kernel
theorem d_Model_capitals_82 : decode prog_14_method_67_code 82 = .ok (.ifCond .eq 10, 3) := by decide +kernel
theorem d_Model_capitals_85 : decode prog_14_method_67_code 85 = .ok (.iload 5, 2) := by decide +kernel
theorem d_Model_capitals_87 : decode prog_14_method_67_code 87 = .ok (.bipush 32, 2) := by decide +kernel
theorem d_Model_capitals_89 : decode prog_14_method_67_code 89 = .ok (.if_icmp .eq 7, 3) := by decide +kernel
theorem d_Model_capitals_92 : decode prog_14_method_67_code 92 = .ok (.iconst 1, 1) := by decide +kernel
theorem d_Model_capitals_93 : decode prog_14_method_67_code 93 = .ok (.goto 4, 3) := by decide +kernel
theorem d_Model_capitals_96 : decode prog_14_method_67_code 96 = .ok (.iconst 0, 1) := by decide +kernel
theorem d_Model_capitals_97 : decode prog_14_method_67_code 97 = .ok (.istore 7, 2) := by decide +kernel
theorem d_Model_capitals_99 : decode prog_14_method_67_code 99 = .ok (.aload_n 0, 1) := by decide +kernel
theorem d_Model_capitals_100 : decode prog_14_method_67_code 100 = .ok (.bipush 84, 2) := by decide +kernel
theorem d_Model_capitals_102 : decode prog_14_method_67_code 102 = .ok (.iload 6, 2) := by decide +kernel
theorem d_Model_capitals_104 : decode prog_14_method_67_code 104 = .ok (.ifCond .eq 12, 3) := by decide +kernel
theorem d_Model_capitals_107 : decode prog_14_method_67_code 107 = .ok (.iload_n 1, 1) := by decide +kernel
theorem d_Model_capitals_108 : decode prog_14_method_67_code 108 = .ok (.ifCond .ne 13, 3) := by decide +kernel
theorem d_Model_capitals_111 : decode prog_14_method_67_code 111 = .ok (.iload 7, 2) := by decide +kernel
theorem d_Model_capitals_113 : decode prog_14_method_67_code 113 = .ok (.ifCond .eq 8, 3) := by decide +kernel
theorem d_Model_capitals_116 : decode prog_14_method_67_code 116 = .ok (.iload 5, 2) := by decide +kernel
theorem d_Model_capitals_118 : decode prog_14_method_67_code 118 = .ok (.goto 21, 3) := by decide +kernel
theorem d_Model_capitals_121 : decode prog_14_method_67_code 121 = .ok (.iload_n 1, 1) := by decide +kernel
theorem d_Model_capitals_122 : decode prog_14_method_67_code 122 = .ok (.iconst 2, 1) := by decide +kernel
theorem d_Model_capitals_123 : decode prog_14_method_67_code 123 = .ok (.if_icmp .ne 11, 3) := by decide +kernel
