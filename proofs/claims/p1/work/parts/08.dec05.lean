/-! decode rows, printed by a program -/
theorem d_Model_read_38 : decode prog_14_method_36_code 38 = .ok (.if_icmp .ge 107, 3) := by decide +kernel
theorem d_Model_read_41 : decode prog_14_method_36_code 41 = .ok (.aload_n 0, 1) := by decide +kernel
theorem d_Model_read_42 : decode prog_14_method_36_code 42 = .ok (.getfield 147, 3) := by decide +kernel
theorem d_Model_read_45 : decode prog_14_method_36_code 45 = .ok (.bipush 8, 2) := by decide +kernel
theorem d_Model_read_47 : decode prog_14_method_36_code 47 = .ok (.if_icmp .ge 98, 3) := by decide +kernel
theorem d_Model_read_50 : decode prog_14_method_36_code 50 = .ok (.aload_n 0, 1) := by decide +kernel
theorem d_Model_read_51 : decode prog_14_method_36_code 51 = .ok (.getfield 13, 3) := by decide +kernel
theorem d_Model_read_54 : decode prog_14_method_36_code 54 = .ok (.aload_n 0, 1) := by decide +kernel
theorem d_Model_read_55 : decode prog_14_method_36_code 55 = .ok (.getfield 134, 3) := by decide +kernel
theorem d_Model_read_58 : decode prog_14_method_36_code 58 = .ok (.iaload, 1) := by decide +kernel
theorem d_Model_read_59 : decode prog_14_method_36_code 59 = .ok (.bipush 64, 2) := by decide +kernel
theorem d_Model_read_61 : decode prog_14_method_36_code 61 = .ok (.if_icmp .ne 7, 3) := by decide +kernel
theorem d_Model_read_64 : decode prog_14_method_36_code 64 = .ok (.iconst 1, 1) := by decide +kernel
theorem d_Model_read_65 : decode prog_14_method_36_code 65 = .ok (.goto 4, 3) := by decide +kernel
theorem d_Model_read_68 : decode prog_14_method_36_code 68 = .ok (.iconst 0, 1) := by decide +kernel
theorem d_Model_read_69 : decode prog_14_method_36_code 69 = .ok (.istore_n 1, 1) := by decide +kernel
theorem d_Model_read_70 : decode prog_14_method_36_code 70 = .ok (.aload_n 0, 1) := by decide +kernel
theorem d_Model_read_71 : decode prog_14_method_36_code 71 = .ok (.dup, 1) := by decide +kernel
theorem d_Model_read_72 : decode prog_14_method_36_code 72 = .ok (.getfield 134, 3) := by decide +kernel
theorem d_Model_read_75 : decode prog_14_method_36_code 75 = .ok (.iconst 1, 1) := by decide +kernel
theorem d_Model_read_76 : decode prog_14_method_36_code 76 = .ok (.iadd, 1) := by decide +kernel
theorem d_Model_read_77 : decode prog_14_method_36_code 77 = .ok (.putfield 134, 3) := by decide +kernel
theorem d_Model_read_80 : decode prog_14_method_36_code 80 = .ok (.iload_n 1, 1) := by decide +kernel
theorem d_Model_read_81 : decode prog_14_method_36_code 81 = .ok (.ifCond .eq 61, 3) := by decide +kernel
theorem d_Model_read_84 : decode prog_14_method_36_code 84 = .ok (.aload_n 0, 1) := by decide +kernel
theorem d_Model_read_85 : decode prog_14_method_36_code 85 = .ok (.iconst 0, 1) := by decide +kernel
theorem d_Model_read_86 : decode prog_14_method_36_code 86 = .ok (.putfield 140, 3) := by decide +kernel
theorem d_Model_read_89 : decode prog_14_method_36_code 89 = .ok (.aload_n 0, 1) := by decide +kernel
theorem d_Model_read_90 : decode prog_14_method_36_code 90 = .ok (.invokevirtual 177, 3) := by decide +kernel
theorem d_Model_read_93 : decode prog_14_method_36_code 93 = .ok (.lstore_n 2, 1) := by decide +kernel
theorem d_Model_read_94 : decode prog_14_method_36_code 94 = .ok (.aload_n 0, 1) := by decide +kernel
theorem d_Model_read_95 : decode prog_14_method_36_code 95 = .ok (.bipush 123, 2) := by decide +kernel
theorem d_Model_read_97 : decode prog_14_method_36_code 97 = .ok (.invokevirtual 188, 3) := by decide +kernel
theorem d_Model_read_100 : decode prog_14_method_36_code 100 = .ok (.aload_n 0, 1) := by decide +kernel
theorem d_Model_read_101 : decode prog_14_method_36_code 101 = .ok (.getfield 140, 3) := by decide +kernel
theorem d_Model_read_104 : decode prog_14_method_36_code 104 = .ok (.ifCond .ne 18, 3) := by decide +kernel
theorem d_Model_read_107 : decode prog_14_method_36_code 107 = .ok (.lload_n 2, 1) := by decide +kernel
theorem d_Model_read_108 : decode prog_14_method_36_code 108 = .ok (.ldc2_w 213, 3) := by decide +kernel
theorem d_Model_read_111 : decode prog_14_method_36_code 111 = .ok (.lcmp, 1) := by decide +kernel
theorem d_Model_read_112 : decode prog_14_method_36_code 112 = .ok (.ifCond .ne 10, 3) := by decide +kernel
theorem d_Model_read_115 : decode prog_14_method_36_code 115 = .ok (.aload_n 0, 1) := by decide +kernel
theorem d_Model_read_116 : decode prog_14_method_36_code 116 = .ok (.invokevirtual 215, 3) := by decide +kernel
theorem d_Model_read_119 : decode prog_14_method_36_code 119 = .ok (.goto 23, 3) := by decide +kernel
theorem d_Model_read_122 : decode prog_14_method_36_code 122 = .ok (.aload_n 0, 1) := by decide +kernel
theorem d_Model_read_123 : decode prog_14_method_36_code 123 = .ok (.getfield 140, 3) := by decide +kernel
theorem d_Model_read_126 : decode prog_14_method_36_code 126 = .ok (.ifCond .ne 16, 3) := by decide +kernel
theorem d_Model_read_129 : decode prog_14_method_36_code 129 = .ok (.lload_n 2, 1) := by decide +kernel
theorem d_Model_read_130 : decode prog_14_method_36_code 130 = .ok (.ldc2_w 218, 3) := by decide +kernel
theorem d_Model_read_133 : decode prog_14_method_36_code 133 = .ok (.lcmp, 1) := by decide +kernel
theorem d_Model_read_134 : decode prog_14_method_36_code 134 = .ok (.ifCond .eq 8, 3) := by decide +kernel
theorem d_Model_read_137 : decode prog_14_method_36_code 137 = .ok (.aload_n 0, 1) := by decide +kernel
theorem d_Model_read_138 : decode prog_14_method_36_code 138 = .ok (.lload_n 2, 1) := by decide +kernel
theorem d_Model_read_139 : decode prog_14_method_36_code 139 = .ok (.invokevirtual 220, 3) := by decide +kernel
theorem d_Model_read_142 : decode prog_14_method_36_code 142 = .ok (.goto (-112), 3) := by decide +kernel
theorem d_Model_read_145 : decode prog_14_method_36_code 145 = .ok (.aload_n 0, 1) := by decide +kernel
theorem d_Model_read_146 : decode prog_14_method_36_code 146 = .ok (.getfield 201, 3) := by decide +kernel
theorem d_Model_read_149 : decode prog_14_method_36_code 149 = .ok (.ireturn, 1) := by decide +kernel
theorem d_Model_word_0 : decode prog_14_method_24_code 0 = .ok (.aload_n 0, 1) := by decide +kernel
theorem d_Model_word_1 : decode prog_14_method_24_code 1 = .ok (.getfield 140, 3) := by decide +kernel
theorem d_Model_word_4 : decode prog_14_method_24_code 4 = .ok (.ifCond .eq 5, 3) := by decide +kernel
theorem d_Model_word_7 : decode prog_14_method_24_code 7 = .ok (.lconst 0, 1) := by decide +kernel
theorem d_Model_word_8 : decode prog_14_method_24_code 8 = .ok (.lreturn, 1) := by decide +kernel
theorem d_Model_word_9 : decode prog_14_method_24_code 9 = .ok (.aload_n 0, 1) := by decide +kernel
theorem d_Model_word_10 : decode prog_14_method_24_code 10 = .ok (.invokevirtual 150, 3) := by decide +kernel
theorem d_Model_word_13 : decode prog_14_method_24_code 13 = .ok (.lconst 0, 1) := by decide +kernel
theorem d_Model_word_14 : decode prog_14_method_24_code 14 = .ok (.lstore_n 1, 1) := by decide +kernel
theorem d_Model_word_15 : decode prog_14_method_24_code 15 = .ok (.iconst 0, 1) := by decide +kernel
theorem d_Model_word_16 : decode prog_14_method_24_code 16 = .ok (.istore_n 3, 1) := by decide +kernel
theorem d_Model_word_17 : decode prog_14_method_24_code 17 = .ok (.iload_n 3, 1) := by decide +kernel
theorem d_Model_word_18 : decode prog_14_method_24_code 18 = .ok (.bipush 8, 2) := by decide +kernel
theorem d_Model_word_20 : decode prog_14_method_24_code 20 = .ok (.if_icmp .ge 45, 3) := by decide +kernel
theorem d_Model_word_23 : decode prog_14_method_24_code 23 = .ok (.aload_n 0, 1) := by decide +kernel
theorem d_Model_word_24 : decode prog_14_method_24_code 24 = .ok (.invokevirtual 136, 3) := by decide +kernel
theorem d_Model_word_27 : decode prog_14_method_24_code 27 = .ok (.invokestatic 156, 3) := by decide +kernel
theorem d_Model_word_30 : decode prog_14_method_24_code 30 = .ok (.ifCond .eq 35, 3) := by decide +kernel
theorem d_Model_word_33 : decode prog_14_method_24_code 33 = .ok (.lload_n 1, 1) := by decide +kernel
theorem d_Model_word_34 : decode prog_14_method_24_code 34 = .ok (.aload_n 0, 1) := by decide +kernel
theorem d_Model_word_35 : decode prog_14_method_24_code 35 = .ok (.invokevirtual 136, 3) := by decide +kernel
theorem d_Model_word_38 : decode prog_14_method_24_code 38 = .ok (.invokestatic 116, 3) := by decide +kernel
theorem d_Model_word_41 : decode prog_14_method_24_code 41 = .ok (.i2l, 1) := by decide +kernel
theorem d_Model_word_42 : decode prog_14_method_24_code 42 = .ok (.bipush 8, 2) := by decide +kernel
theorem d_Model_word_44 : decode prog_14_method_24_code 44 = .ok (.iload_n 3, 1) := by decide +kernel
theorem d_Model_word_45 : decode prog_14_method_24_code 45 = .ok (.imul, 1) := by decide +kernel
theorem d_Model_word_46 : decode prog_14_method_24_code 46 = .ok (.lshl, 1) := by decide +kernel
theorem d_Model_word_47 : decode prog_14_method_24_code 47 = .ok (.lor, 1) := by decide +kernel
theorem d_Model_word_48 : decode prog_14_method_24_code 48 = .ok (.lstore_n 1, 1) := by decide +kernel
theorem d_Model_word_49 : decode prog_14_method_24_code 49 = .ok (.iinc 3 1, 3) := by decide +kernel
theorem d_Model_word_52 : decode prog_14_method_24_code 52 = .ok (.aload_n 0, 1) := by decide +kernel
theorem d_Model_word_53 : decode prog_14_method_24_code 53 = .ok (.dup, 1) := by decide +kernel
theorem d_Model_word_54 : decode prog_14_method_24_code 54 = .ok (.getfield 134, 3) := by decide +kernel
theorem d_Model_word_57 : decode prog_14_method_24_code 57 = .ok (.iconst 1, 1) := by decide +kernel
theorem d_Model_word_58 : decode prog_14_method_24_code 58 = .ok (.iadd, 1) := by decide +kernel
theorem d_Model_word_59 : decode prog_14_method_24_code 59 = .ok (.putfield 134, 3) := by decide +kernel
theorem d_Model_word_62 : decode prog_14_method_24_code 62 = .ok (.goto (-45), 3) := by decide +kernel
theorem d_Model_word_65 : decode prog_14_method_24_code 65 = .ok (.iload_n 3, 1) := by decide +kernel
theorem d_Model_word_66 : decode prog_14_method_24_code 66 = .ok (.ifCond .ne 7, 3) := by decide +kernel
theorem d_Model_word_69 : decode prog_14_method_24_code 69 = .ok (.aload_n 0, 1) := by decide +kernel
theorem d_Model_word_70 : decode prog_14_method_24_code 70 = .ok (.invokevirtual 153, 3) := by decide +kernel
theorem d_Model_word_73 : decode prog_14_method_24_code 73 = .ok (.lload_n 1, 1) := by decide +kernel
theorem d_Model_word_74 : decode prog_14_method_24_code 74 = .ok (.lreturn, 1) := by decide +kernel
theorem d_Model_blanks_0 : decode prog_14_method_21_code 0 = .ok (.aload_n 0, 1) := by decide +kernel
theorem d_Model_blanks_1 : decode prog_14_method_21_code 1 = .ok (.invokevirtual 136, 3) := by decide +kernel
theorem d_Model_blanks_4 : decode prog_14_method_21_code 4 = .ok (.bipush 32, 2) := by decide +kernel
theorem d_Model_blanks_6 : decode prog_14_method_21_code 6 = .ok (.if_icmp .eq 12, 3) := by decide +kernel
theorem d_Model_blanks_9 : decode prog_14_method_21_code 9 = .ok (.aload_n 0, 1) := by decide +kernel
theorem d_Model_blanks_10 : decode prog_14_method_21_code 10 = .ok (.invokevirtual 136, 3) := by decide +kernel
theorem d_Model_blanks_13 : decode prog_14_method_21_code 13 = .ok (.bipush 10, 2) := by decide +kernel
theorem d_Model_blanks_15 : decode prog_14_method_21_code 15 = .ok (.if_icmp .ne 16, 3) := by decide +kernel
theorem d_Model_blanks_18 : decode prog_14_method_21_code 18 = .ok (.aload_n 0, 1) := by decide +kernel
theorem d_Model_blanks_19 : decode prog_14_method_21_code 19 = .ok (.dup, 1) := by decide +kernel
theorem d_Model_blanks_20 : decode prog_14_method_21_code 20 = .ok (.getfield 134, 3) := by decide +kernel
theorem d_Model_blanks_23 : decode prog_14_method_21_code 23 = .ok (.iconst 1, 1) := by decide +kernel
theorem d_Model_blanks_24 : decode prog_14_method_21_code 24 = .ok (.iadd, 1) := by decide +kernel
theorem d_Model_blanks_25 : decode prog_14_method_21_code 25 = .ok (.putfield 134, 3) := by decide +kernel
theorem d_Model_blanks_28 : decode prog_14_method_21_code 28 = .ok (.goto (-28), 3) := by decide +kernel
theorem d_Model_blanks_31 : decode prog_14_method_21_code 31 = .ok (.return_, 1) := by decide +kernel
theorem d_Model_here_0 : decode prog_14_method_20_code 0 = .ok (.aload_n 0, 1) := by decide +kernel
theorem d_Model_here_1 : decode prog_14_method_20_code 1 = .ok (.getfield 134, 3) := by decide +kernel
theorem d_Model_here_4 : decode prog_14_method_20_code 4 = .ok (.aload_n 0, 1) := by decide +kernel
theorem d_Model_here_5 : decode prog_14_method_20_code 5 = .ok (.getfield 131, 3) := by decide +kernel
theorem d_Model_here_8 : decode prog_14_method_20_code 8 = .ok (.if_icmp .ge 15, 3) := by decide +kernel
theorem d_Model_here_11 : decode prog_14_method_20_code 11 = .ok (.aload_n 0, 1) := by decide +kernel
theorem d_Model_here_12 : decode prog_14_method_20_code 12 = .ok (.getfield 13, 3) := by decide +kernel
theorem d_Model_here_15 : decode prog_14_method_20_code 15 = .ok (.aload_n 0, 1) := by decide +kernel
theorem d_Model_here_16 : decode prog_14_method_20_code 16 = .ok (.getfield 134, 3) := by decide +kernel
theorem d_Model_here_19 : decode prog_14_method_20_code 19 = .ok (.iaload, 1) := by decide +kernel
theorem d_Model_here_20 : decode prog_14_method_20_code 20 = .ok (.goto 4, 3) := by decide +kernel
theorem d_Model_here_23 : decode prog_14_method_20_code 23 = .ok (.iconst (-1), 1) := by decide +kernel
theorem d_Model_here_24 : decode prog_14_method_20_code 24 = .ok (.ireturn, 1) := by decide +kernel
theorem d_Model_isWord_0 : decode prog_14_method_14_code 0 = .ok (.iload_n 0, 1) := by decide +kernel
theorem d_Model_isWord_1 : decode prog_14_method_14_code 1 = .ok (.invokestatic 107, 3) := by decide +kernel
theorem d_Model_isWord_4 : decode prog_14_method_14_code 4 = .ok (.ifCond .ne 22, 3) := by decide +kernel
theorem d_Model_isWord_7 : decode prog_14_method_14_code 7 = .ok (.iload_n 0, 1) := by decide +kernel
theorem d_Model_isWord_8 : decode prog_14_method_14_code 8 = .ok (.invokestatic 111, 3) := by decide +kernel
theorem d_Model_isWord_11 : decode prog_14_method_14_code 11 = .ok (.ifCond .ne 15, 3) := by decide +kernel
theorem d_Model_isWord_14 : decode prog_14_method_14_code 14 = .ok (.iload_n 0, 1) := by decide +kernel
theorem d_Model_isWord_15 : decode prog_14_method_14_code 15 = .ok (.bipush 58, 2) := by decide +kernel
theorem d_Model_isWord_17 : decode prog_14_method_14_code 17 = .ok (.if_icmp .eq 9, 3) := by decide +kernel
theorem d_Model_isWord_20 : decode prog_14_method_14_code 20 = .ok (.iload_n 0, 1) := by decide +kernel
theorem d_Model_isWord_21 : decode prog_14_method_14_code 21 = .ok (.bipush 45, 2) := by decide +kernel
theorem d_Model_isWord_23 : decode prog_14_method_14_code 23 = .ok (.if_icmp .ne 7, 3) := by decide +kernel
theorem d_Model_isWord_26 : decode prog_14_method_14_code 26 = .ok (.iconst 1, 1) := by decide +kernel
theorem d_Model_isWord_27 : decode prog_14_method_14_code 27 = .ok (.goto 4, 3) := by decide +kernel
theorem d_Model_isWord_30 : decode prog_14_method_14_code 30 = .ok (.iconst 0, 1) := by decide +kernel
theorem d_Model_isWord_31 : decode prog_14_method_14_code 31 = .ok (.ireturn, 1) := by decide +kernel
theorem d_Model_isLetter_0 : decode prog_14_method_10_code 0 = .ok (.iload_n 0, 1) := by decide +kernel
theorem d_Model_isLetter_1 : decode prog_14_method_10_code 1 = .ok (.bipush 97, 2) := by decide +kernel
theorem d_Model_isLetter_3 : decode prog_14_method_10_code 3 = .ok (.bipush 122, 2) := by decide +kernel
theorem d_Model_isLetter_5 : decode prog_14_method_10_code 5 = .ok (.invokestatic 103, 3) := by decide +kernel
theorem d_Model_isLetter_8 : decode prog_14_method_10_code 8 = .ok (.ifCond .ne 14, 3) := by decide +kernel
theorem d_Model_isLetter_11 : decode prog_14_method_10_code 11 = .ok (.iload_n 0, 1) := by decide +kernel
theorem d_Model_isLetter_12 : decode prog_14_method_10_code 12 = .ok (.bipush 65, 2) := by decide +kernel
theorem d_Model_isLetter_14 : decode prog_14_method_10_code 14 = .ok (.bipush 90, 2) := by decide +kernel
theorem d_Model_isLetter_16 : decode prog_14_method_10_code 16 = .ok (.invokestatic 103, 3) := by decide +kernel
theorem d_Model_isLetter_19 : decode prog_14_method_10_code 19 = .ok (.ifCond .eq 7, 3) := by decide +kernel
theorem d_Model_isLetter_22 : decode prog_14_method_10_code 22 = .ok (.iconst 1, 1) := by decide +kernel
theorem d_Model_isLetter_23 : decode prog_14_method_10_code 23 = .ok (.goto 4, 3) := by decide +kernel
theorem d_Model_isLetter_26 : decode prog_14_method_10_code 26 = .ok (.iconst 0, 1) := by decide +kernel
theorem d_Model_isLetter_27 : decode prog_14_method_10_code 27 = .ok (.ireturn, 1) := by decide +kernel
theorem d_Model_digit_0 : decode prog_14_method_11_code 0 = .ok (.iload_n 0, 1) := by decide +kernel
theorem d_Model_digit_1 : decode prog_14_method_11_code 1 = .ok (.bipush 48, 2) := by decide +kernel
theorem d_Model_digit_3 : decode prog_14_method_11_code 3 = .ok (.bipush 57, 2) := by decide +kernel
theorem d_Model_digit_5 : decode prog_14_method_11_code 5 = .ok (.invokestatic 103, 3) := by decide +kernel
theorem d_Model_digit_8 : decode prog_14_method_11_code 8 = .ok (.ireturn, 1) := by decide +kernel
theorem d_Model_small_0 : decode prog_14_method_12_code 0 = .ok (.iload_n 0, 1) := by decide +kernel
theorem d_Model_small_1 : decode prog_14_method_12_code 1 = .ok (.bipush 65, 2) := by decide +kernel
theorem d_Model_small_3 : decode prog_14_method_12_code 3 = .ok (.bipush 90, 2) := by decide +kernel
theorem d_Model_small_5 : decode prog_14_method_12_code 5 = .ok (.invokestatic 103, 3) := by decide +kernel
theorem d_Model_small_8 : decode prog_14_method_12_code 8 = .ok (.ifCond .eq 10, 3) := by decide +kernel
theorem d_Model_small_11 : decode prog_14_method_12_code 11 = .ok (.iload_n 0, 1) := by decide +kernel
theorem d_Model_small_12 : decode prog_14_method_12_code 12 = .ok (.bipush 32, 2) := by decide +kernel
theorem d_Model_small_14 : decode prog_14_method_12_code 14 = .ok (.iadd, 1) := by decide +kernel
theorem d_Model_small_15 : decode prog_14_method_12_code 15 = .ok (.goto 4, 3) := by decide +kernel
theorem d_Model_small_18 : decode prog_14_method_12_code 18 = .ok (.iload_n 0, 1) := by decide +kernel
theorem d_Model_small_19 : decode prog_14_method_12_code 19 = .ok (.ireturn, 1) := by decide +kernel
theorem d_Model_other_0 : decode prog_14_method_22_code 0 = .ok (.aload_n 0, 1) := by decide +kernel
theorem d_Model_other_1 : decode prog_14_method_22_code 1 = .ok (.getfield 140, 3) := by decide +kernel
theorem d_Model_other_4 : decode prog_14_method_22_code 4 = .ok (.ifCond .ne 18, 3) := by decide +kernel
theorem d_Model_other_7 : decode prog_14_method_22_code 7 = .ok (.aload_n 0, 1) := by decide +kernel
theorem d_Model_other_8 : decode prog_14_method_22_code 8 = .ok (.iconst 1, 1) := by decide +kernel
theorem d_Model_other_9 : decode prog_14_method_22_code 9 = .ok (.invokevirtual 144, 3) := by decide +kernel
theorem d_Model_other_12 : decode prog_14_method_22_code 12 = .ok (.aload_n 0, 1) := by decide +kernel
theorem d_Model_other_13 : decode prog_14_method_22_code 13 = .ok (.dup, 1) := by decide +kernel
theorem d_Model_other_14 : decode prog_14_method_22_code 14 = .ok (.getfield 147, 3) := by decide +kernel
theorem d_Model_other_17 : decode prog_14_method_22_code 17 = .ok (.iconst 1, 1) := by decide +kernel
theorem d_Model_other_18 : decode prog_14_method_22_code 18 = .ok (.iadd, 1) := by decide +kernel
theorem d_Model_other_19 : decode prog_14_method_22_code 19 = .ok (.putfield 147, 3) := by decide +kernel
theorem d_Model_other_22 : decode prog_14_method_22_code 22 = .ok (.aload_n 0, 1) := by decide +kernel
theorem d_Model_other_23 : decode prog_14_method_22_code 23 = .ok (.iconst 1, 1) := by decide +kernel
theorem d_Model_other_24 : decode prog_14_method_22_code 24 = .ok (.putfield 140, 3) := by decide +kernel
theorem d_Model_other_27 : decode prog_14_method_22_code 27 = .ok (.return_, 1) := by decide +kernel
theorem d_Model_warn_0 : decode prog_14_method_5_code 0 = .ok (.aload_n 0, 1) := by decide +kernel
theorem d_Model_warn_1 : decode prog_14_method_5_code 1 = .ok (.getfield 7, 3) := by decide +kernel
theorem d_Model_warn_4 : decode prog_14_method_5_code 4 = .ok (.iload_n 1, 1) := by decide +kernel
theorem d_Model_warn_5 : decode prog_14_method_5_code 5 = .ok (.dup2, 1) := by decide +kernel
theorem d_Model_warn_6 : decode prog_14_method_5_code 6 = .ok (.iaload, 1) := by decide +kernel
theorem d_Model_warn_7 : decode prog_14_method_5_code 7 = .ok (.iconst 1, 1) := by decide +kernel
theorem d_Model_warn_8 : decode prog_14_method_5_code 8 = .ok (.iadd, 1) := by decide +kernel
theorem d_Model_warn_9 : decode prog_14_method_5_code 9 = .ok (.iastore, 1) := by decide +kernel
theorem d_Model_warn_10 : decode prog_14_method_5_code 10 = .ok (.return_, 1) := by decide +kernel
theorem d_Model_expect_0 : decode prog_14_method_23_code 0 = .ok (.aload_n 0, 1) := by decide +kernel
theorem d_Model_expect_1 : decode prog_14_method_23_code 1 = .ok (.getfield 140, 3) := by decide +kernel
theorem d_Model_expect_4 : decode prog_14_method_23_code 4 = .ok (.ifCond .eq 4, 3) := by decide +kernel
theorem d_Model_expect_7 : decode prog_14_method_23_code 7 = .ok (.return_, 1) := by decide +kernel
theorem d_Model_expect_8 : decode prog_14_method_23_code 8 = .ok (.aload_n 0, 1) := by decide +kernel
theorem d_Model_expect_9 : decode prog_14_method_23_code 9 = .ok (.invokevirtual 150, 3) := by decide +kernel
theorem d_Model_expect_12 : decode prog_14_method_23_code 12 = .ok (.aload_n 0, 1) := by decide +kernel
theorem d_Model_expect_13 : decode prog_14_method_23_code 13 = .ok (.invokevirtual 136, 3) := by decide +kernel
theorem d_Model_expect_16 : decode prog_14_method_23_code 16 = .ok (.iload_n 1, 1) := by decide +kernel
theorem d_Model_expect_17 : decode prog_14_method_23_code 17 = .ok (.if_icmp .ne 16, 3) := by decide +kernel
theorem d_Model_expect_20 : decode prog_14_method_23_code 20 = .ok (.aload_n 0, 1) := by decide +kernel
theorem d_Model_expect_21 : decode prog_14_method_23_code 21 = .ok (.dup, 1) := by decide +kernel
theorem d_Model_expect_22 : decode prog_14_method_23_code 22 = .ok (.getfield 134, 3) := by decide +kernel
theorem d_Model_expect_25 : decode prog_14_method_23_code 25 = .ok (.iconst 1, 1) := by decide +kernel
theorem d_Model_expect_26 : decode prog_14_method_23_code 26 = .ok (.iadd, 1) := by decide +kernel
theorem d_Model_expect_27 : decode prog_14_method_23_code 27 = .ok (.putfield 134, 3) := by decide +kernel
theorem d_Model_expect_30 : decode prog_14_method_23_code 30 = .ok (.goto 7, 3) := by decide +kernel
theorem d_Model_expect_33 : decode prog_14_method_23_code 33 = .ok (.aload_n 0, 1) := by decide +kernel
theorem d_Model_expect_34 : decode prog_14_method_23_code 34 = .ok (.invokevirtual 153, 3) := by decide +kernel
theorem d_Model_expect_37 : decode prog_14_method_23_code 37 = .ok (.return_, 1) := by decide +kernel
theorem d_Model_string_0 : decode prog_14_method_31_code 0 = .ok (.aload_n 0, 1) := by decide +kernel
theorem d_Model_string_1 : decode prog_14_method_31_code 1 = .ok (.invokevirtual 177, 3) := by decide +kernel
theorem d_Model_string_4 : decode prog_14_method_31_code 4 = .ok (.lstore_n 1, 1) := by decide +kernel
theorem d_Model_string_5 : decode prog_14_method_31_code 5 = .ok (.aload_n 0, 1) := by decide +kernel
theorem d_Model_string_6 : decode prog_14_method_31_code 6 = .ok (.bipush 61, 2) := by decide +kernel
theorem d_Model_string_8 : decode prog_14_method_31_code 8 = .ok (.invokevirtual 188, 3) := by decide +kernel
theorem d_Model_string_11 : decode prog_14_method_31_code 11 = .ok (.aload_n 0, 1) := by decide +kernel
theorem d_Model_string_12 : decode prog_14_method_31_code 12 = .ok (.invokevirtual 191, 3) := by decide +kernel
theorem d_Model_string_15 : decode prog_14_method_31_code 15 = .ok (.aload_n 0, 1) := by decide +kernel
theorem d_Model_string_16 : decode prog_14_method_31_code 16 = .ok (.bipush 125, 2) := by decide +kernel
theorem d_Model_string_18 : decode prog_14_method_31_code 18 = .ok (.invokevirtual 188, 3) := by decide +kernel
theorem d_Model_string_21 : decode prog_14_method_31_code 21 = .ok (.aload_n 0, 1) := by decide +kernel
theorem d_Model_string_22 : decode prog_14_method_31_code 22 = .ok (.getfield 140, 3) := by decide +kernel
theorem d_Model_string_25 : decode prog_14_method_31_code 25 = .ok (.ifCond .eq 4, 3) := by decide +kernel
theorem d_Model_string_28 : decode prog_14_method_31_code 28 = .ok (.return_, 1) := by decide +kernel
theorem d_Model_string_29 : decode prog_14_method_31_code 29 = .ok (.aload_n 0, 1) := by decide +kernel
theorem d_Model_string_30 : decode prog_14_method_31_code 30 = .ok (.lload_n 1, 1) := by decide +kernel
theorem d_Model_string_31 : decode prog_14_method_31_code 31 = .ok (.invokevirtual 181, 3) := by decide +kernel
theorem d_Model_string_34 : decode prog_14_method_31_code 34 = .ok (.istore_n 3, 1) := by decide +kernel
theorem d_Model_string_35 : decode prog_14_method_31_code 35 = .ok (.iload_n 3, 1) := by decide +kernel
theorem d_Model_string_36 : decode prog_14_method_31_code 36 = .ok (.ifCond .ge 18, 3) := by decide +kernel
theorem d_Model_string_39 : decode prog_14_method_31_code 39 = .ok (.aload_n 0, 1) := by decide +kernel
theorem d_Model_string_40 : decode prog_14_method_31_code 40 = .ok (.getfield 165, 3) := by decide +kernel
theorem d_Model_string_43 : decode prog_14_method_31_code 43 = .ok (.bipush 8, 2) := by decide +kernel
theorem d_Model_string_45 : decode prog_14_method_31_code 45 = .ok (.if_icmp .ne 9, 3) := by decide +kernel
theorem d_Model_string_48 : decode prog_14_method_31_code 48 = .ok (.aload_n 0, 1) := by decide +kernel
theorem d_Model_string_49 : decode prog_14_method_31_code 49 = .ok (.iconst 5, 1) := by decide +kernel
theorem d_Model_string_50 : decode prog_14_method_31_code 50 = .ok (.invokevirtual 144, 3) := by decide +kernel
theorem d_Model_string_53 : decode prog_14_method_31_code 53 = .ok (.return_, 1) := by decide +kernel
theorem d_Model_string_54 : decode prog_14_method_31_code 54 = .ok (.iload_n 3, 1) := by decide +kernel
theorem d_Model_string_55 : decode prog_14_method_31_code 55 = .ok (.ifCond .ge 25, 3) := by decide +kernel
theorem d_Model_string_58 : decode prog_14_method_31_code 58 = .ok (.aload_n 0, 1) := by decide +kernel
theorem d_Model_string_59 : decode prog_14_method_31_code 59 = .ok (.getfield 165, 3) := by decide +kernel
theorem d_Model_string_62 : decode prog_14_method_31_code 62 = .ok (.istore_n 3, 1) := by decide +kernel
theorem d_Model_string_63 : decode prog_14_method_31_code 63 = .ok (.aload_n 0, 1) := by decide +kernel
theorem d_Model_string_64 : decode prog_14_method_31_code 64 = .ok (.getfield 35, 3) := by decide +kernel
theorem d_Model_string_67 : decode prog_14_method_31_code 67 = .ok (.iload_n 3, 1) := by decide +kernel
theorem d_Model_string_68 : decode prog_14_method_31_code 68 = .ok (.lload_n 1, 1) := by decide +kernel
theorem d_Model_string_69 : decode prog_14_method_31_code 69 = .ok (.lastore, 1) := by decide +kernel
theorem d_Model_string_70 : decode prog_14_method_31_code 70 = .ok (.aload_n 0, 1) := by decide +kernel
theorem d_Model_string_71 : decode prog_14_method_31_code 71 = .ok (.dup, 1) := by decide +kernel
theorem d_Model_string_72 : decode prog_14_method_31_code 72 = .ok (.getfield 165, 3) := by decide +kernel
theorem d_Model_string_75 : decode prog_14_method_31_code 75 = .ok (.iconst 1, 1) := by decide +kernel
theorem d_Model_string_76 : decode prog_14_method_31_code 76 = .ok (.iadd, 1) := by decide +kernel
theorem d_Model_string_77 : decode prog_14_method_31_code 77 = .ok (.putfield 165, 3) := by decide +kernel
theorem d_Model_string_80 : decode prog_14_method_31_code 80 = .ok (.aload_n 0, 1) := by decide +kernel
theorem d_Model_string_81 : decode prog_14_method_31_code 81 = .ok (.bipush 82, 2) := by decide +kernel
theorem d_Model_string_83 : decode prog_14_method_31_code 83 = .ok (.bipush 54, 2) := by decide +kernel
theorem d_Model_string_85 : decode prog_14_method_31_code 85 = .ok (.iload_n 3, 1) := by decide +kernel
theorem d_Model_string_86 : decode prog_14_method_31_code 86 = .ok (.iadd, 1) := by decide +kernel
theorem d_Model_string_87 : decode prog_14_method_31_code 87 = .ok (.invokevirtual 194, 3) := by decide +kernel
theorem d_Model_string_90 : decode prog_14_method_31_code 90 = .ok (.return_, 1) := by decide +kernel
theorem d_Model_readValue_0 : decode prog_14_method_30_code 0 = .ok (.aload_n 0, 1) := by decide +kernel
theorem d_Model_readValue_1 : decode prog_14_method_30_code 1 = .ok (.bipush 82, 2) := by decide +kernel
theorem d_Model_readValue_3 : decode prog_14_method_30_code 3 = .ok (.invokevirtual 120, 3) := by decide +kernel
theorem d_Model_readValue_6 : decode prog_14_method_30_code 6 = .ok (.aload_n 0, 1) := by decide +kernel
theorem d_Model_readValue_7 : decode prog_14_method_30_code 7 = .ok (.iconst 0, 1) := by decide +kernel
theorem d_Model_readValue_8 : decode prog_14_method_30_code 8 = .ok (.putfield 159, 3) := by decide +kernel
theorem d_Model_readValue_11 : decode prog_14_method_30_code 11 = .ok (.aload_n 0, 1) := by decide +kernel
theorem d_Model_readValue_12 : decode prog_14_method_30_code 12 = .ok (.iconst 0, 1) := by decide +kernel
theorem d_Model_readValue_13 : decode prog_14_method_30_code 13 = .ok (.putfield 162, 3) := by decide +kernel
theorem d_Model_readValue_16 : decode prog_14_method_30_code 16 = .ok (.aload_n 0, 1) := by decide +kernel
theorem d_Model_readValue_17 : decode prog_14_method_30_code 17 = .ok (.getfield 140, 3) := by decide +kernel
theorem d_Model_readValue_20 : decode prog_14_method_30_code 20 = .ok (.ifCond .ne 7, 3) := by decide +kernel
theorem d_Model_readValue_23 : decode prog_14_method_30_code 23 = .ok (.iconst 1, 1) := by decide +kernel
theorem d_Model_readValue_24 : decode prog_14_method_30_code 24 = .ok (.goto 4, 3) := by decide +kernel
theorem d_Model_readValue_27 : decode prog_14_method_30_code 27 = .ok (.iconst 0, 1) := by decide +kernel
theorem d_Model_readValue_28 : decode prog_14_method_30_code 28 = .ok (.istore_n 1, 1) := by decide +kernel
theorem d_Model_readValue_29 : decode prog_14_method_30_code 29 = .ok (.iload_n 1, 1) := by decide +kernel
theorem d_Model_readValue_30 : decode prog_14_method_30_code 30 = .ok (.ifCond .eq 61, 3) := by decide +kernel
theorem d_Model_readValue_33 : decode prog_14_method_30_code 33 = .ok (.aload_n 0, 1) := by decide +kernel
theorem d_Model_readValue_34 : decode prog_14_method_30_code 34 = .ok (.invokevirtual 185, 3) := by decide +kernel
theorem d_Model_readValue_37 : decode prog_14_method_30_code 37 = .ok (.aload_n 0, 1) := by decide +kernel
theorem d_Model_readValue_38 : decode prog_14_method_30_code 38 = .ok (.getfield 140, 3) := by decide +kernel
theorem d_Model_readValue_41 : decode prog_14_method_30_code 41 = .ok (.ifCond .ne 7, 3) := by decide +kernel
theorem d_Model_readValue_44 : decode prog_14_method_30_code 44 = .ok (.aload_n 0, 1) := by decide +kernel
theorem d_Model_readValue_45 : decode prog_14_method_30_code 45 = .ok (.invokevirtual 150, 3) := by decide +kernel
theorem d_Model_readValue_48 : decode prog_14_method_30_code 48 = .ok (.aload_n 0, 1) := by decide +kernel
theorem d_Model_readValue_49 : decode prog_14_method_30_code 49 = .ok (.getfield 140, 3) := by decide +kernel
theorem d_Model_readValue_52 : decode prog_14_method_30_code 52 = .ok (.ifCond .ne 16, 3) := by decide +kernel
theorem d_Model_readValue_55 : decode prog_14_method_30_code 55 = .ok (.aload_n 0, 1) := by decide +kernel
theorem d_Model_readValue_56 : decode prog_14_method_30_code 56 = .ok (.invokevirtual 136, 3) := by decide +kernel
theorem d_Model_readValue_59 : decode prog_14_method_30_code 59 = .ok (.bipush 35, 2) := by decide +kernel
theorem d_Model_readValue_61 : decode prog_14_method_30_code 61 = .ok (.if_icmp .ne 7, 3) := by decide +kernel
theorem d_Model_readValue_64 : decode prog_14_method_30_code 64 = .ok (.iconst 1, 1) := by decide +kernel
theorem d_Model_readValue_65 : decode prog_14_method_30_code 65 = .ok (.goto 4, 3) := by decide +kernel
theorem d_Model_readValue_68 : decode prog_14_method_30_code 68 = .ok (.iconst 0, 1) := by decide +kernel
theorem d_Model_readValue_69 : decode prog_14_method_30_code 69 = .ok (.istore_n 1, 1) := by decide +kernel
theorem d_Model_readValue_70 : decode prog_14_method_30_code 70 = .ok (.aload_n 0, 1) := by decide +kernel
theorem d_Model_readValue_71 : decode prog_14_method_30_code 71 = .ok (.dup, 1) := by decide +kernel
theorem d_Model_readValue_72 : decode prog_14_method_30_code 72 = .ok (.getfield 134, 3) := by decide +kernel
theorem d_Model_readValue_75 : decode prog_14_method_30_code 75 = .ok (.iload_n 1, 1) := by decide +kernel
theorem d_Model_readValue_76 : decode prog_14_method_30_code 76 = .ok (.ifCond .eq 7, 3) := by decide +kernel
theorem d_Model_readValue_79 : decode prog_14_method_30_code 79 = .ok (.iconst 1, 1) := by decide +kernel
theorem d_Model_readValue_80 : decode prog_14_method_30_code 80 = .ok (.goto 4, 3) := by decide +kernel
theorem d_Model_readValue_83 : decode prog_14_method_30_code 83 = .ok (.iconst 0, 1) := by decide +kernel
theorem d_Model_readValue_84 : decode prog_14_method_30_code 84 = .ok (.iadd, 1) := by decide +kernel
theorem d_Model_readValue_85 : decode prog_14_method_30_code 85 = .ok (.putfield 134, 3) := by decide +kernel
theorem d_Model_readValue_88 : decode prog_14_method_30_code 88 = .ok (.goto (-59), 3) := by decide +kernel
theorem d_Model_readValue_91 : decode prog_14_method_30_code 91 = .ok (.aload_n 0, 1) := by decide +kernel
theorem d_Model_readValue_92 : decode prog_14_method_30_code 92 = .ok (.getfield 140, 3) := by decide +kernel
theorem d_Model_readValue_95 : decode prog_14_method_30_code 95 = .ok (.ifCond .ne 17, 3) := by decide +kernel
theorem d_Model_readValue_98 : decode prog_14_method_30_code 98 = .ok (.aload_n 0, 1) := by decide +kernel
theorem d_Model_readValue_99 : decode prog_14_method_30_code 99 = .ok (.getfield 159, 3) := by decide +kernel
theorem d_Model_readValue_102 : decode prog_14_method_30_code 102 = .ok (.bipush 60, 2) := by decide +kernel
theorem d_Model_readValue_104 : decode prog_14_method_30_code 104 = .ok (.if_icmp .le 8, 3) := by decide +kernel
theorem d_Model_readValue_107 : decode prog_14_method_30_code 107 = .ok (.aload_n 0, 1) := by decide +kernel
theorem d_Model_readValue_108 : decode prog_14_method_30_code 108 = .ok (.iconst 3, 1) := by decide +kernel
theorem d_Model_readValue_109 : decode prog_14_method_30_code 109 = .ok (.invokevirtual 144, 3) := by decide +kernel
theorem d_Model_readValue_112 : decode prog_14_method_30_code 112 = .ok (.return_, 1) := by decide +kernel
theorem d_Model_clearText_0 : decode prog_14_method_7_code 0 = .ok (.aload_n 0, 1) := by decide +kernel
theorem d_Model_clearText_1 : decode prog_14_method_7_code 1 = .ok (.getfield 16, 3) := by decide +kernel
theorem d_Model_clearText_4 : decode prog_14_method_7_code 4 = .ok (.iload_n 1, 1) := by decide +kernel
theorem d_Model_clearText_5 : decode prog_14_method_7_code 5 = .ok (.iconst 0, 1) := by decide +kernel
theorem d_Model_clearText_6 : decode prog_14_method_7_code 6 = .ok (.iastore, 1) := by decide +kernel
theorem d_Model_clearText_7 : decode prog_14_method_7_code 7 = .ok (.return_, 1) := by decide +kernel
theorem d_Model_piece_0 : decode prog_14_method_29_code 0 = .ok (.aload_n 0, 1) := by decide +kernel
theorem d_Model_piece_1 : decode prog_14_method_29_code 1 = .ok (.invokevirtual 150, 3) := by decide +kernel
theorem d_Model_piece_4 : decode prog_14_method_29_code 4 = .ok (.aload_n 0, 1) := by decide +kernel
theorem d_Model_piece_5 : decode prog_14_method_29_code 5 = .ok (.invokevirtual 136, 3) := by decide +kernel
theorem d_Model_piece_8 : decode prog_14_method_29_code 8 = .ok (.istore_n 1, 1) := by decide +kernel
theorem d_Model_piece_9 : decode prog_14_method_29_code 9 = .ok (.iload_n 1, 1) := by decide +kernel
theorem d_Model_piece_10 : decode prog_14_method_29_code 10 = .ok (.invokestatic 111, 3) := by decide +kernel
theorem d_Model_piece_13 : decode prog_14_method_29_code 13 = .ok (.ifCond .eq 48, 3) := by decide +kernel
theorem d_Model_piece_16 : decode prog_14_method_29_code 16 = .ok (.iconst 0, 1) := by decide +kernel
theorem d_Model_piece_17 : decode prog_14_method_29_code 17 = .ok (.istore_n 2, 1) := by decide +kernel
theorem d_Model_piece_18 : decode prog_14_method_29_code 18 = .ok (.iload_n 2, 1) := by decide +kernel
theorem d_Model_piece_19 : decode prog_14_method_29_code 19 = .ok (.bipush 9, 2) := by decide +kernel
theorem d_Model_piece_21 : decode prog_14_method_29_code 21 = .ok (.if_icmp .ge 37, 3) := by decide +kernel
theorem d_Model_piece_24 : decode prog_14_method_29_code 24 = .ok (.aload_n 0, 1) := by decide +kernel
theorem d_Model_piece_25 : decode prog_14_method_29_code 25 = .ok (.invokevirtual 136, 3) := by decide +kernel
theorem d_Model_piece_28 : decode prog_14_method_29_code 28 = .ok (.invokestatic 111, 3) := by decide +kernel
theorem d_Model_piece_31 : decode prog_14_method_29_code 31 = .ok (.ifCond .eq 27, 3) := by decide +kernel
theorem d_Model_piece_34 : decode prog_14_method_29_code 34 = .ok (.aload_n 0, 1) := by decide +kernel
theorem d_Model_piece_35 : decode prog_14_method_29_code 35 = .ok (.aload_n 0, 1) := by decide +kernel
theorem d_Model_piece_36 : decode prog_14_method_29_code 36 = .ok (.invokevirtual 136, 3) := by decide +kernel
theorem d_Model_piece_39 : decode prog_14_method_29_code 39 = .ok (.invokevirtual 168, 3) := by decide +kernel
theorem d_Model_piece_42 : decode prog_14_method_29_code 42 = .ok (.aload_n 0, 1) := by decide +kernel
theorem d_Model_piece_43 : decode prog_14_method_29_code 43 = .ok (.dup, 1) := by decide +kernel
theorem d_Model_piece_44 : decode prog_14_method_29_code 44 = .ok (.getfield 134, 3) := by decide +kernel
theorem d_Model_piece_47 : decode prog_14_method_29_code 47 = .ok (.iconst 1, 1) := by decide +kernel
theorem d_Model_piece_48 : decode prog_14_method_29_code 48 = .ok (.iadd, 1) := by decide +kernel
theorem d_Model_piece_49 : decode prog_14_method_29_code 49 = .ok (.putfield 134, 3) := by decide +kernel
theorem d_Model_piece_52 : decode prog_14_method_29_code 52 = .ok (.iinc 2 1, 3) := by decide +kernel
theorem d_Model_piece_55 : decode prog_14_method_29_code 55 = .ok (.goto (-37), 3) := by decide +kernel
theorem d_Model_piece_58 : decode prog_14_method_29_code 58 = .ok (.goto 113, 3) := by decide +kernel
theorem d_Model_piece_61 : decode prog_14_method_29_code 61 = .ok (.iload_n 1, 1) := by decide +kernel
theorem d_Model_piece_62 : decode prog_14_method_29_code 62 = .ok (.bipush 123, 2) := by decide +kernel
theorem d_Model_piece_64 : decode prog_14_method_29_code 64 = .ok (.if_icmp .ne 10, 3) := by decide +kernel
theorem d_Model_piece_67 : decode prog_14_method_29_code 67 = .ok (.aload_n 0, 1) := by decide +kernel
theorem d_Model_piece_68 : decode prog_14_method_29_code 68 = .ok (.invokevirtual 171, 3) := by decide +kernel
theorem d_Model_piece_71 : decode prog_14_method_29_code 71 = .ok (.goto 100, 3) := by decide +kernel
theorem d_Model_piece_74 : decode prog_14_method_29_code 74 = .ok (.iload_n 1, 1) := by decide +kernel
theorem d_Model_piece_75 : decode prog_14_method_29_code 75 = .ok (.bipush 34, 2) := by decide +kernel
theorem d_Model_piece_77 : decode prog_14_method_29_code 77 = .ok (.if_icmp .ne 10, 3) := by decide +kernel
theorem d_Model_piece_80 : decode prog_14_method_29_code 80 = .ok (.aload_n 0, 1) := by decide +kernel
theorem d_Model_piece_81 : decode prog_14_method_29_code 81 = .ok (.invokevirtual 174, 3) := by decide +kernel
theorem d_Model_piece_84 : decode prog_14_method_29_code 84 = .ok (.goto 87, 3) := by decide +kernel
theorem d_Model_piece_87 : decode prog_14_method_29_code 87 = .ok (.aload_n 0, 1) := by decide +kernel
theorem d_Model_piece_88 : decode prog_14_method_29_code 88 = .ok (.invokevirtual 177, 3) := by decide +kernel
theorem d_Model_piece_91 : decode prog_14_method_29_code 91 = .ok (.lstore_n 2, 1) := by decide +kernel
theorem d_Model_piece_92 : decode prog_14_method_29_code 92 = .ok (.aload_n 0, 1) := by decide +kernel
theorem d_Model_piece_93 : decode prog_14_method_29_code 93 = .ok (.getfield 140, 3) := by decide +kernel
theorem d_Model_piece_96 : decode prog_14_method_29_code 96 = .ok (.ifCond .eq 7, 3) := by decide +kernel
theorem d_Model_piece_99 : decode prog_14_method_29_code 99 = .ok (.iconst 0, 1) := by decide +kernel
theorem d_Model_piece_100 : decode prog_14_method_29_code 100 = .ok (.goto 8, 3) := by decide +kernel
theorem d_Model_piece_103 : decode prog_14_method_29_code 103 = .ok (.aload_n 0, 1) := by decide +kernel
theorem d_Model_piece_104 : decode prog_14_method_29_code 104 = .ok (.lload_n 2, 1) := by decide +kernel
theorem d_Model_piece_105 : decode prog_14_method_29_code 105 = .ok (.invokevirtual 181, 3) := by decide +kernel
theorem d_Model_piece_108 : decode prog_14_method_29_code 108 = .ok (.istore 4, 2) := by decide +kernel
theorem d_Model_piece_110 : decode prog_14_method_29_code 110 = .ok (.iload 4, 2) := by decide +kernel
theorem d_Model_piece_112 : decode prog_14_method_29_code 112 = .ok (.ifCond .ge 8, 3) := by decide +kernel
theorem d_Model_piece_115 : decode prog_14_method_29_code 115 = .ok (.aload_n 0, 1) := by decide +kernel
theorem d_Model_piece_116 : decode prog_14_method_29_code 116 = .ok (.iconst 2, 1) := by decide +kernel
theorem d_Model_piece_117 : decode prog_14_method_29_code 117 = .ok (.invokevirtual 144, 3) := by decide +kernel
theorem d_Model_piece_120 : decode prog_14_method_29_code 120 = .ok (.iconst 0, 1) := by decide +kernel
theorem d_Model_piece_121 : decode prog_14_method_29_code 121 = .ok (.istore 5, 2) := by decide +kernel
theorem d_Model_piece_123 : decode prog_14_method_29_code 123 = .ok (.aload_n 0, 1) := by decide +kernel
theorem d_Model_piece_124 : decode prog_14_method_29_code 124 = .ok (.getfield 140, 3) := by decide +kernel
theorem d_Model_piece_127 : decode prog_14_method_29_code 127 = .ok (.ifCond .ne 44, 3) := by decide +kernel
theorem d_Model_piece_130 : decode prog_14_method_29_code 130 = .ok (.iload 4, 2) := by decide +kernel
theorem d_Model_piece_132 : decode prog_14_method_29_code 132 = .ok (.ifCond .lt 39, 3) := by decide +kernel
theorem d_Model_piece_135 : decode prog_14_method_29_code 135 = .ok (.iload 5, 2) := by decide +kernel
theorem d_Model_piece_137 : decode prog_14_method_29_code 137 = .ok (.aload_n 0, 1) := by decide +kernel
theorem d_Model_piece_138 : decode prog_14_method_29_code 138 = .ok (.getfield 16, 3) := by decide +kernel
theorem d_Model_piece_141 : decode prog_14_method_29_code 141 = .ok (.bipush 54, 2) := by decide +kernel
theorem d_Model_piece_143 : decode prog_14_method_29_code 143 = .ok (.iload 4, 2) := by decide +kernel
theorem d_Model_piece_145 : decode prog_14_method_29_code 145 = .ok (.iadd, 1) := by decide +kernel
theorem d_Model_piece_146 : decode prog_14_method_29_code 146 = .ok (.iaload, 1) := by decide +kernel
theorem d_Model_piece_147 : decode prog_14_method_29_code 147 = .ok (.if_icmp .ge 24, 3) := by decide +kernel
theorem d_Model_piece_150 : decode prog_14_method_29_code 150 = .ok (.aload_n 0, 1) := by decide +kernel
theorem d_Model_piece_151 : decode prog_14_method_29_code 151 = .ok (.aload_n 0, 1) := by decide +kernel
theorem d_Model_piece_152 : decode prog_14_method_29_code 152 = .ok (.bipush 54, 2) := by decide +kernel
theorem d_Model_piece_154 : decode prog_14_method_29_code 154 = .ok (.iload 4, 2) := by decide +kernel
theorem d_Model_piece_156 : decode prog_14_method_29_code 156 = .ok (.iadd, 1) := by decide +kernel
theorem d_Model_piece_157 : decode prog_14_method_29_code 157 = .ok (.iload 5, 2) := by decide +kernel
theorem d_Model_piece_159 : decode prog_14_method_29_code 159 = .ok (.invokevirtual 99, 3) := by decide +kernel
theorem d_Model_piece_162 : decode prog_14_method_29_code 162 = .ok (.invokevirtual 168, 3) := by decide +kernel
theorem d_Model_piece_165 : decode prog_14_method_29_code 165 = .ok (.iinc 5 1, 3) := by decide +kernel
theorem d_Model_piece_168 : decode prog_14_method_29_code 168 = .ok (.goto (-45), 3) := by decide +kernel
theorem d_Model_piece_171 : decode prog_14_method_29_code 171 = .ok (.return_, 1) := by decide +kernel
theorem d_Model_feed_0 : decode prog_14_method_25_code 0 = .ok (.iload_n 1, 1) := by decide +kernel
theorem d_Model_feed_1 : decode prog_14_method_25_code 1 = .ok (.bipush 32, 2) := by decide +kernel
theorem d_Model_feed_3 : decode prog_14_method_25_code 3 = .ok (.if_icmp .eq 9, 3) := by decide +kernel
theorem d_Model_feed_6 : decode prog_14_method_25_code 6 = .ok (.iload_n 1, 1) := by decide +kernel
theorem d_Model_feed_7 : decode prog_14_method_25_code 7 = .ok (.bipush 10, 2) := by decide +kernel
theorem d_Model_feed_9 : decode prog_14_method_25_code 9 = .ok (.if_icmp .ne 20, 3) := by decide +kernel
theorem d_Model_feed_12 : decode prog_14_method_25_code 12 = .ok (.aload_n 0, 1) := by decide +kernel
theorem d_Model_feed_13 : decode prog_14_method_25_code 13 = .ok (.aload_n 0, 1) := by decide +kernel
theorem d_Model_feed_14 : decode prog_14_method_25_code 14 = .ok (.getfield 159, 3) := by decide +kernel
theorem d_Model_feed_17 : decode prog_14_method_25_code 17 = .ok (.ifCond .le 7, 3) := by decide +kernel
theorem d_Model_feed_20 : decode prog_14_method_25_code 20 = .ok (.iconst 1, 1) := by decide +kernel
theorem d_Model_feed_21 : decode prog_14_method_25_code 21 = .ok (.goto 4, 3) := by decide +kernel
theorem d_Model_feed_24 : decode prog_14_method_25_code 24 = .ok (.iconst 0, 1) := by decide +kernel
theorem d_Model_feed_25 : decode prog_14_method_25_code 25 = .ok (.putfield 162, 3) := by decide +kernel
theorem d_Model_feed_28 : decode prog_14_method_25_code 28 = .ok (.return_, 1) := by decide +kernel
theorem d_Model_feed_29 : decode prog_14_method_25_code 29 = .ok (.aload_n 0, 1) := by decide +kernel
theorem d_Model_feed_30 : decode prog_14_method_25_code 30 = .ok (.getfield 162, 3) := by decide +kernel
theorem d_Model_feed_33 : decode prog_14_method_25_code 33 = .ok (.ifCond .eq 21, 3) := by decide +kernel
theorem d_Model_feed_36 : decode prog_14_method_25_code 36 = .ok (.aload_n 0, 1) := by decide +kernel
theorem d_Model_feed_37 : decode prog_14_method_25_code 37 = .ok (.bipush 82, 2) := by decide +kernel
theorem d_Model_feed_39 : decode prog_14_method_25_code 39 = .ok (.bipush 32, 2) := by decide +kernel
theorem d_Model_feed_41 : decode prog_14_method_25_code 41 = .ok (.invokevirtual 124, 3) := by decide +kernel
theorem d_Model_feed_44 : decode prog_14_method_25_code 44 = .ok (.aload_n 0, 1) := by decide +kernel
theorem d_Model_feed_45 : decode prog_14_method_25_code 45 = .ok (.dup, 1) := by decide +kernel
theorem d_Model_feed_46 : decode prog_14_method_25_code 46 = .ok (.getfield 159, 3) := by decide +kernel
theorem d_Model_feed_49 : decode prog_14_method_25_code 49 = .ok (.iconst 1, 1) := by decide +kernel
theorem d_Model_feed_50 : decode prog_14_method_25_code 50 = .ok (.iadd, 1) := by decide +kernel
theorem d_Model_feed_51 : decode prog_14_method_25_code 51 = .ok (.putfield 159, 3) := by decide +kernel
theorem d_Model_feed_54 : decode prog_14_method_25_code 54 = .ok (.aload_n 0, 1) := by decide +kernel
theorem d_Model_feed_55 : decode prog_14_method_25_code 55 = .ok (.iconst 0, 1) := by decide +kernel
theorem d_Model_feed_56 : decode prog_14_method_25_code 56 = .ok (.putfield 162, 3) := by decide +kernel
theorem d_Model_feed_59 : decode prog_14_method_25_code 59 = .ok (.aload_n 0, 1) := by decide +kernel
theorem d_Model_feed_60 : decode prog_14_method_25_code 60 = .ok (.bipush 82, 2) := by decide +kernel
theorem d_Model_feed_62 : decode prog_14_method_25_code 62 = .ok (.iload_n 1, 1) := by decide +kernel
theorem d_Model_feed_63 : decode prog_14_method_25_code 63 = .ok (.invokevirtual 124, 3) := by decide +kernel
theorem d_Model_feed_66 : decode prog_14_method_25_code 66 = .ok (.aload_n 0, 1) := by decide +kernel
theorem d_Model_feed_67 : decode prog_14_method_25_code 67 = .ok (.dup, 1) := by decide +kernel
theorem d_Model_feed_68 : decode prog_14_method_25_code 68 = .ok (.getfield 159, 3) := by decide +kernel
theorem d_Model_feed_71 : decode prog_14_method_25_code 71 = .ok (.iconst 1, 1) := by decide +kernel
theorem d_Model_feed_72 : decode prog_14_method_25_code 72 = .ok (.iadd, 1) := by decide +kernel
theorem d_Model_feed_73 : decode prog_14_method_25_code 73 = .ok (.putfield 159, 3) := by decide +kernel
theorem d_Model_feed_76 : decode prog_14_method_25_code 76 = .ok (.return_, 1) := by decide +kernel
theorem d_Model_add_0 : decode prog_14_method_8_code 0 = .ok (.aload_n 0, 1) := by decide +kernel
theorem d_Model_add_1 : decode prog_14_method_8_code 1 = .ok (.getfield 16, 3) := by decide +kernel
theorem d_Model_add_4 : decode prog_14_method_8_code 4 = .ok (.iload_n 1, 1) := by decide +kernel
theorem d_Model_add_5 : decode prog_14_method_8_code 5 = .ok (.iaload, 1) := by decide +kernel
theorem d_Model_add_6 : decode prog_14_method_8_code 6 = .ok (.bipush 60, 2) := by decide +kernel
theorem d_Model_add_8 : decode prog_14_method_8_code 8 = .ok (.if_icmp .ne 4, 3) := by decide +kernel
theorem d_Model_add_11 : decode prog_14_method_8_code 11 = .ok (.return_, 1) := by decide +kernel
theorem d_Model_add_12 : decode prog_14_method_8_code 12 = .ok (.aload_n 0, 1) := by decide +kernel
theorem d_Model_add_13 : decode prog_14_method_8_code 13 = .ok (.getfield 19, 3) := by decide +kernel
theorem d_Model_add_16 : decode prog_14_method_8_code 16 = .ok (.bipush 60, 2) := by decide +kernel
theorem d_Model_add_18 : decode prog_14_method_8_code 18 = .ok (.iload_n 1, 1) := by decide +kernel
theorem d_Model_add_19 : decode prog_14_method_8_code 19 = .ok (.imul, 1) := by decide +kernel
theorem d_Model_add_20 : decode prog_14_method_8_code 20 = .ok (.aload_n 0, 1) := by decide +kernel
theorem d_Model_add_21 : decode prog_14_method_8_code 21 = .ok (.getfield 16, 3) := by decide +kernel
theorem d_Model_add_24 : decode prog_14_method_8_code 24 = .ok (.iload_n 1, 1) := by decide +kernel
theorem d_Model_add_25 : decode prog_14_method_8_code 25 = .ok (.iaload, 1) := by decide +kernel
theorem d_Model_add_26 : decode prog_14_method_8_code 26 = .ok (.iadd, 1) := by decide +kernel
theorem d_Model_add_27 : decode prog_14_method_8_code 27 = .ok (.iload_n 2, 1) := by decide +kernel
theorem d_Model_add_28 : decode prog_14_method_8_code 28 = .ok (.iastore, 1) := by decide +kernel
theorem d_Model_add_29 : decode prog_14_method_8_code 29 = .ok (.aload_n 0, 1) := by decide +kernel
theorem d_Model_add_30 : decode prog_14_method_8_code 30 = .ok (.getfield 16, 3) := by decide +kernel
theorem d_Model_add_33 : decode prog_14_method_8_code 33 = .ok (.iload_n 1, 1) := by decide +kernel
theorem d_Model_add_34 : decode prog_14_method_8_code 34 = .ok (.dup2, 1) := by decide +kernel
theorem d_Model_add_35 : decode prog_14_method_8_code 35 = .ok (.iaload, 1) := by decide +kernel
theorem d_Model_add_36 : decode prog_14_method_8_code 36 = .ok (.iconst 1, 1) := by decide +kernel
theorem d_Model_add_37 : decode prog_14_method_8_code 37 = .ok (.iadd, 1) := by decide +kernel
theorem d_Model_add_38 : decode prog_14_method_8_code 38 = .ok (.iastore, 1) := by decide +kernel
theorem d_Model_add_39 : decode prog_14_method_8_code 39 = .ok (.return_, 1) := by decide +kernel
theorem d_Model_braced_0 : decode prog_14_method_27_code 0 = .ok (.iconst 1, 1) := by decide +kernel
theorem d_Model_braced_1 : decode prog_14_method_27_code 1 = .ok (.istore_n 1, 1) := by decide +kernel
theorem d_Model_braced_2 : decode prog_14_method_27_code 2 = .ok (.aload_n 0, 1) := by decide +kernel
theorem d_Model_braced_3 : decode prog_14_method_27_code 3 = .ok (.dup, 1) := by decide +kernel
theorem d_Model_braced_4 : decode prog_14_method_27_code 4 = .ok (.getfield 134, 3) := by decide +kernel
theorem d_Model_braced_7 : decode prog_14_method_27_code 7 = .ok (.iconst 1, 1) := by decide +kernel
theorem d_Model_braced_8 : decode prog_14_method_27_code 8 = .ok (.iadd, 1) := by decide +kernel
theorem d_Model_braced_9 : decode prog_14_method_27_code 9 = .ok (.putfield 134, 3) := by decide +kernel
theorem d_Model_braced_12 : decode prog_14_method_27_code 12 = .ok (.iload_n 1, 1) := by decide +kernel
theorem d_Model_braced_13 : decode prog_14_method_27_code 13 = .ok (.ifCond .le 80, 3) := by decide +kernel
theorem d_Model_braced_16 : decode prog_14_method_27_code 16 = .ok (.aload_n 0, 1) := by decide +kernel
theorem d_Model_braced_17 : decode prog_14_method_27_code 17 = .ok (.getfield 140, 3) := by decide +kernel
theorem d_Model_braced_20 : decode prog_14_method_27_code 20 = .ok (.ifCond .ne 73, 3) := by decide +kernel
theorem d_Model_braced_23 : decode prog_14_method_27_code 23 = .ok (.aload_n 0, 1) := by decide +kernel
theorem d_Model_braced_24 : decode prog_14_method_27_code 24 = .ok (.invokevirtual 136, 3) := by decide +kernel
theorem d_Model_braced_27 : decode prog_14_method_27_code 27 = .ok (.istore_n 2, 1) := by decide +kernel
theorem d_Model_braced_28 : decode prog_14_method_27_code 28 = .ok (.iload_n 1, 1) := by decide +kernel
theorem d_Model_braced_29 : decode prog_14_method_27_code 29 = .ok (.iload_n 2, 1) := by decide +kernel
theorem d_Model_braced_30 : decode prog_14_method_27_code 30 = .ok (.bipush 123, 2) := by decide +kernel
theorem d_Model_braced_32 : decode prog_14_method_27_code 32 = .ok (.if_icmp .ne 7, 3) := by decide +kernel
theorem d_Model_braced_35 : decode prog_14_method_27_code 35 = .ok (.iconst 1, 1) := by decide +kernel
theorem d_Model_braced_36 : decode prog_14_method_27_code 36 = .ok (.goto 14, 3) := by decide +kernel
theorem d_Model_braced_39 : decode prog_14_method_27_code 39 = .ok (.iload_n 2, 1) := by decide +kernel
theorem d_Model_braced_40 : decode prog_14_method_27_code 40 = .ok (.bipush 125, 2) := by decide +kernel
theorem d_Model_braced_42 : decode prog_14_method_27_code 42 = .ok (.if_icmp .ne 7, 3) := by decide +kernel
theorem d_Model_braced_45 : decode prog_14_method_27_code 45 = .ok (.iconst (-1), 1) := by decide +kernel
theorem d_Model_braced_46 : decode prog_14_method_27_code 46 = .ok (.goto 4, 3) := by decide +kernel
theorem d_Model_braced_49 : decode prog_14_method_27_code 49 = .ok (.iconst 0, 1) := by decide +kernel
theorem d_Model_braced_50 : decode prog_14_method_27_code 50 = .ok (.iadd, 1) := by decide +kernel
theorem d_Model_braced_51 : decode prog_14_method_27_code 51 = .ok (.istore_n 1, 1) := by decide +kernel
theorem d_Model_braced_52 : decode prog_14_method_27_code 52 = .ok (.iload_n 2, 1) := by decide +kernel
theorem d_Model_braced_53 : decode prog_14_method_27_code 53 = .ok (.ifCond .ge 10, 3) := by decide +kernel
theorem d_Model_braced_56 : decode prog_14_method_27_code 56 = .ok (.aload_n 0, 1) := by decide +kernel
theorem d_Model_braced_57 : decode prog_14_method_27_code 57 = .ok (.invokevirtual 153, 3) := by decide +kernel
theorem d_Model_braced_60 : decode prog_14_method_27_code 60 = .ok (.goto 12, 3) := by decide +kernel
theorem d_Model_braced_63 : decode prog_14_method_27_code 63 = .ok (.iload_n 1, 1) := by decide +kernel
theorem d_Model_braced_64 : decode prog_14_method_27_code 64 = .ok (.ifCond .le 8, 3) := by decide +kernel
theorem d_Model_braced_67 : decode prog_14_method_27_code 67 = .ok (.aload_n 0, 1) := by decide +kernel
theorem d_Model_braced_68 : decode prog_14_method_27_code 68 = .ok (.iload_n 2, 1) := by decide +kernel
theorem d_Model_braced_69 : decode prog_14_method_27_code 69 = .ok (.invokevirtual 168, 3) := by decide +kernel
theorem d_Model_braced_72 : decode prog_14_method_27_code 72 = .ok (.aload_n 0, 1) := by decide +kernel
theorem d_Model_braced_73 : decode prog_14_method_27_code 73 = .ok (.dup, 1) := by decide +kernel
theorem d_Model_braced_74 : decode prog_14_method_27_code 74 = .ok (.getfield 134, 3) := by decide +kernel
theorem d_Model_braced_77 : decode prog_14_method_27_code 77 = .ok (.iload_n 2, 1) := by decide +kernel
theorem d_Model_braced_78 : decode prog_14_method_27_code 78 = .ok (.ifCond .ge 7, 3) := by decide +kernel
theorem d_Model_braced_81 : decode prog_14_method_27_code 81 = .ok (.iconst 0, 1) := by decide +kernel
theorem d_Model_braced_82 : decode prog_14_method_27_code 82 = .ok (.goto 4, 3) := by decide +kernel
theorem d_Model_braced_85 : decode prog_14_method_27_code 85 = .ok (.iconst 1, 1) := by decide +kernel
theorem d_Model_braced_86 : decode prog_14_method_27_code 86 = .ok (.iadd, 1) := by decide +kernel
theorem d_Model_braced_87 : decode prog_14_method_27_code 87 = .ok (.putfield 134, 3) := by decide +kernel
theorem d_Model_braced_90 : decode prog_14_method_27_code 90 = .ok (.goto (-78), 3) := by decide +kernel
theorem d_Model_braced_93 : decode prog_14_method_27_code 93 = .ok (.return_, 1) := by decide +kernel
theorem d_Model_quoted_0 : decode prog_14_method_28_code 0 = .ok (.iconst 0, 1) := by decide +kernel
theorem d_Model_quoted_1 : decode prog_14_method_28_code 1 = .ok (.istore_n 1, 1) := by decide +kernel
theorem d_Model_quoted_2 : decode prog_14_method_28_code 2 = .ok (.aload_n 0, 1) := by decide +kernel
theorem d_Model_quoted_3 : decode prog_14_method_28_code 3 = .ok (.dup, 1) := by decide +kernel
theorem d_Model_quoted_4 : decode prog_14_method_28_code 4 = .ok (.getfield 134, 3) := by decide +kernel
theorem d_Model_quoted_7 : decode prog_14_method_28_code 7 = .ok (.iconst 1, 1) := by decide +kernel
theorem d_Model_quoted_8 : decode prog_14_method_28_code 8 = .ok (.iadd, 1) := by decide +kernel
theorem d_Model_quoted_9 : decode prog_14_method_28_code 9 = .ok (.putfield 134, 3) := by decide +kernel
theorem d_Model_quoted_12 : decode prog_14_method_28_code 12 = .ok (.aload_n 0, 1) := by decide +kernel
theorem d_Model_quoted_13 : decode prog_14_method_28_code 13 = .ok (.getfield 140, 3) := by decide +kernel
theorem d_Model_quoted_16 : decode prog_14_method_28_code 16 = .ok (.ifCond .ne 84, 3) := by decide +kernel
theorem d_Model_quoted_19 : decode prog_14_method_28_code 19 = .ok (.aload_n 0, 1) := by decide +kernel
theorem d_Model_quoted_20 : decode prog_14_method_28_code 20 = .ok (.invokevirtual 136, 3) := by decide +kernel
theorem d_Model_quoted_23 : decode prog_14_method_28_code 23 = .ok (.bipush 34, 2) := by decide +kernel
theorem d_Model_quoted_25 : decode prog_14_method_28_code 25 = .ok (.if_icmp .ne 7, 3) := by decide +kernel
theorem d_Model_quoted_28 : decode prog_14_method_28_code 28 = .ok (.iload_n 1, 1) := by decide +kernel
theorem d_Model_quoted_29 : decode prog_14_method_28_code 29 = .ok (.ifCond .le 71, 3) := by decide +kernel
theorem d_Model_quoted_32 : decode prog_14_method_28_code 32 = .ok (.aload_n 0, 1) := by decide +kernel
theorem d_Model_quoted_33 : decode prog_14_method_28_code 33 = .ok (.invokevirtual 136, 3) := by decide +kernel
theorem d_Model_quoted_36 : decode prog_14_method_28_code 36 = .ok (.istore_n 2, 1) := by decide +kernel
theorem d_Model_quoted_37 : decode prog_14_method_28_code 37 = .ok (.iload_n 2, 1) := by decide +kernel
theorem d_Model_quoted_38 : decode prog_14_method_28_code 38 = .ok (.ifCond .lt 13, 3) := by decide +kernel
theorem d_Model_quoted_41 : decode prog_14_method_28_code 41 = .ok (.iload_n 2, 1) := by decide +kernel
theorem d_Model_quoted_42 : decode prog_14_method_28_code 42 = .ok (.bipush 125, 2) := by decide +kernel
theorem d_Model_quoted_44 : decode prog_14_method_28_code 44 = .ok (.if_icmp .ne 14, 3) := by decide +kernel
theorem d_Model_quoted_47 : decode prog_14_method_28_code 47 = .ok (.iload_n 1, 1) := by decide +kernel
theorem d_Model_quoted_48 : decode prog_14_method_28_code 48 = .ok (.ifCond .ne 10, 3) := by decide +kernel
theorem d_Model_quoted_51 : decode prog_14_method_28_code 51 = .ok (.aload_n 0, 1) := by decide +kernel
theorem d_Model_quoted_52 : decode prog_14_method_28_code 52 = .ok (.invokevirtual 153, 3) := by decide +kernel
theorem d_Model_quoted_55 : decode prog_14_method_28_code 55 = .ok (.goto 42, 3) := by decide +kernel
theorem d_Model_quoted_58 : decode prog_14_method_28_code 58 = .ok (.iload_n 1, 1) := by decide +kernel
theorem d_Model_quoted_59 : decode prog_14_method_28_code 59 = .ok (.iload_n 2, 1) := by decide +kernel
theorem d_Model_quoted_60 : decode prog_14_method_28_code 60 = .ok (.bipush 123, 2) := by decide +kernel
theorem d_Model_quoted_62 : decode prog_14_method_28_code 62 = .ok (.if_icmp .ne 7, 3) := by decide +kernel
theorem d_Model_quoted_65 : decode prog_14_method_28_code 65 = .ok (.iconst 1, 1) := by decide +kernel
theorem d_Model_quoted_66 : decode prog_14_method_28_code 66 = .ok (.goto 14, 3) := by decide +kernel
theorem d_Model_quoted_69 : decode prog_14_method_28_code 69 = .ok (.iload_n 2, 1) := by decide +kernel
theorem d_Model_quoted_70 : decode prog_14_method_28_code 70 = .ok (.bipush 125, 2) := by decide +kernel
theorem d_Model_quoted_72 : decode prog_14_method_28_code 72 = .ok (.if_icmp .ne 7, 3) := by decide +kernel
theorem d_Model_quoted_75 : decode prog_14_method_28_code 75 = .ok (.iconst (-1), 1) := by decide +kernel
theorem d_Model_quoted_76 : decode prog_14_method_28_code 76 = .ok (.goto 4, 3) := by decide +kernel
theorem d_Model_quoted_79 : decode prog_14_method_28_code 79 = .ok (.iconst 0, 1) := by decide +kernel
theorem d_Model_quoted_80 : decode prog_14_method_28_code 80 = .ok (.iadd, 1) := by decide +kernel
theorem d_Model_quoted_81 : decode prog_14_method_28_code 81 = .ok (.istore_n 1, 1) := by decide +kernel
theorem d_Model_quoted_82 : decode prog_14_method_28_code 82 = .ok (.aload_n 0, 1) := by decide +kernel
theorem d_Model_quoted_83 : decode prog_14_method_28_code 83 = .ok (.iload_n 2, 1) := by decide +kernel
theorem d_Model_quoted_84 : decode prog_14_method_28_code 84 = .ok (.invokevirtual 168, 3) := by decide +kernel
theorem d_Model_quoted_87 : decode prog_14_method_28_code 87 = .ok (.aload_n 0, 1) := by decide +kernel
theorem d_Model_quoted_88 : decode prog_14_method_28_code 88 = .ok (.dup, 1) := by decide +kernel
theorem d_Model_quoted_89 : decode prog_14_method_28_code 89 = .ok (.getfield 134, 3) := by decide +kernel
theorem d_Model_quoted_92 : decode prog_14_method_28_code 92 = .ok (.iconst 1, 1) := by decide +kernel
theorem d_Model_quoted_93 : decode prog_14_method_28_code 93 = .ok (.iadd, 1) := by decide +kernel
theorem d_Model_quoted_94 : decode prog_14_method_28_code 94 = .ok (.putfield 134, 3) := by decide +kernel
theorem d_Model_quoted_97 : decode prog_14_method_28_code 97 = .ok (.goto (-85), 3) := by decide +kernel
theorem d_Model_quoted_100 : decode prog_14_method_28_code 100 = .ok (.aload_n 0, 1) := by decide +kernel
theorem d_Model_quoted_101 : decode prog_14_method_28_code 101 = .ok (.getfield 140, 3) := by decide +kernel
theorem d_Model_quoted_104 : decode prog_14_method_28_code 104 = .ok (.ifCond .ne 13, 3) := by decide +kernel
theorem d_Model_quoted_107 : decode prog_14_method_28_code 107 = .ok (.aload_n 0, 1) := by decide +kernel
theorem d_Model_quoted_108 : decode prog_14_method_28_code 108 = .ok (.dup, 1) := by decide +kernel
theorem d_Model_quoted_109 : decode prog_14_method_28_code 109 = .ok (.getfield 134, 3) := by decide +kernel
theorem d_Model_quoted_112 : decode prog_14_method_28_code 112 = .ok (.iconst 1, 1) := by decide +kernel
theorem d_Model_quoted_113 : decode prog_14_method_28_code 113 = .ok (.iadd, 1) := by decide +kernel
theorem d_Model_quoted_114 : decode prog_14_method_28_code 114 = .ok (.putfield 134, 3) := by decide +kernel
theorem d_Model_quoted_117 : decode prog_14_method_28_code 117 = .ok (.return_, 1) := by decide +kernel
theorem d_Model_findString_0 : decode prog_14_method_26_code 0 = .ok (.iconst (-1), 1) := by decide +kernel
theorem d_Model_findString_1 : decode prog_14_method_26_code 1 = .ok (.istore_n 3, 1) := by decide +kernel
theorem d_Model_findString_2 : decode prog_14_method_26_code 2 = .ok (.iconst 0, 1) := by decide +kernel
theorem d_Model_findString_3 : decode prog_14_method_26_code 3 = .ok (.istore 4, 2) := by decide +kernel
theorem d_Model_findString_5 : decode prog_14_method_26_code 5 = .ok (.iload 4, 2) := by decide +kernel
theorem d_Model_findString_7 : decode prog_14_method_26_code 7 = .ok (.aload_n 0, 1) := by decide +kernel
theorem d_Model_findString_8 : decode prog_14_method_26_code 8 = .ok (.getfield 165, 3) := by decide +kernel
theorem d_Model_findString_11 : decode prog_14_method_26_code 11 = .ok (.if_icmp .ge 28, 3) := by decide +kernel
theorem d_Model_findString_14 : decode prog_14_method_26_code 14 = .ok (.aload_n 0, 1) := by decide +kernel
theorem d_Model_findString_15 : decode prog_14_method_26_code 15 = .ok (.getfield 35, 3) := by decide +kernel
theorem d_Model_findString_18 : decode prog_14_method_26_code 18 = .ok (.iload 4, 2) := by decide +kernel
theorem d_Model_findString_20 : decode prog_14_method_26_code 20 = .ok (.laload, 1) := by decide +kernel
theorem d_Model_findString_21 : decode prog_14_method_26_code 21 = .ok (.lload_n 1, 1) := by decide +kernel
theorem d_Model_findString_22 : decode prog_14_method_26_code 22 = .ok (.lcmp, 1) := by decide +kernel
theorem d_Model_findString_23 : decode prog_14_method_26_code 23 = .ok (.ifCond .ne 8, 3) := by decide +kernel
theorem d_Model_findString_26 : decode prog_14_method_26_code 26 = .ok (.iload 4, 2) := by decide +kernel
theorem d_Model_findString_28 : decode prog_14_method_26_code 28 = .ok (.goto 4, 3) := by decide +kernel
theorem d_Model_findString_31 : decode prog_14_method_26_code 31 = .ok (.iload_n 3, 1) := by decide +kernel
theorem d_Model_findString_32 : decode prog_14_method_26_code 32 = .ok (.istore_n 3, 1) := by decide +kernel
theorem d_Model_findString_33 : decode prog_14_method_26_code 33 = .ok (.iinc 4 1, 3) := by decide +kernel
theorem d_Model_findString_36 : decode prog_14_method_26_code 36 = .ok (.goto (-31), 3) := by decide +kernel
theorem d_Model_findString_39 : decode prog_14_method_26_code 39 = .ok (.iload_n 3, 1) := by decide +kernel
theorem d_Model_findString_40 : decode prog_14_method_26_code 40 = .ok (.ireturn, 1) := by decide +kernel
theorem d_Model_at_0 : decode prog_14_method_6_code 0 = .ok (.aload_n 0, 1) := by decide +kernel
theorem d_Model_at_1 : decode prog_14_method_6_code 1 = .ok (.getfield 19, 3) := by decide +kernel
theorem d_Model_at_4 : decode prog_14_method_6_code 4 = .ok (.bipush 60, 2) := by decide +kernel
theorem d_Model_at_6 : decode prog_14_method_6_code 6 = .ok (.iload_n 1, 1) := by decide +kernel
theorem d_Model_at_7 : decode prog_14_method_6_code 7 = .ok (.imul, 1) := by decide +kernel
theorem d_Model_at_8 : decode prog_14_method_6_code 8 = .ok (.iload_n 2, 1) := by decide +kernel
theorem d_Model_at_9 : decode prog_14_method_6_code 9 = .ok (.iadd, 1) := by decide +kernel
theorem d_Model_at_10 : decode prog_14_method_6_code 10 = .ok (.iaload, 1) := by decide +kernel
theorem d_Model_at_11 : decode prog_14_method_6_code 11 = .ok (.ireturn, 1) := by decide +kernel
theorem d_Model_copy_0 : decode prog_14_method_9_code 0 = .ok (.aload_n 0, 1) := by decide +kernel
theorem d_Model_copy_1 : decode prog_14_method_9_code 1 = .ok (.getfield 16, 3) := by decide +kernel
theorem d_Model_copy_4 : decode prog_14_method_9_code 4 = .ok (.iload_n 2, 1) := by decide +kernel
theorem d_Model_copy_5 : decode prog_14_method_9_code 5 = .ok (.aload_n 0, 1) := by decide +kernel
theorem d_Model_copy_6 : decode prog_14_method_9_code 6 = .ok (.getfield 16, 3) := by decide +kernel
theorem d_Model_copy_9 : decode prog_14_method_9_code 9 = .ok (.iload_n 1, 1) := by decide +kernel
theorem d_Model_copy_10 : decode prog_14_method_9_code 10 = .ok (.iaload, 1) := by decide +kernel
theorem d_Model_copy_11 : decode prog_14_method_9_code 11 = .ok (.iastore, 1) := by decide +kernel
theorem d_Model_copy_12 : decode prog_14_method_9_code 12 = .ok (.iconst 0, 1) := by decide +kernel
theorem d_Model_copy_13 : decode prog_14_method_9_code 13 = .ok (.istore_n 3, 1) := by decide +kernel
theorem d_Model_copy_14 : decode prog_14_method_9_code 14 = .ok (.iload_n 3, 1) := by decide +kernel
theorem d_Model_copy_15 : decode prog_14_method_9_code 15 = .ok (.aload_n 0, 1) := by decide +kernel
theorem d_Model_copy_16 : decode prog_14_method_9_code 16 = .ok (.getfield 16, 3) := by decide +kernel
theorem d_Model_copy_19 : decode prog_14_method_9_code 19 = .ok (.iload_n 1, 1) := by decide +kernel
theorem d_Model_copy_20 : decode prog_14_method_9_code 20 = .ok (.iaload, 1) := by decide +kernel
theorem d_Model_copy_21 : decode prog_14_method_9_code 21 = .ok (.if_icmp .ge 26, 3) := by decide +kernel
theorem d_Model_copy_24 : decode prog_14_method_9_code 24 = .ok (.aload_n 0, 1) := by decide +kernel
theorem d_Model_copy_25 : decode prog_14_method_9_code 25 = .ok (.getfield 19, 3) := by decide +kernel
theorem d_Model_copy_28 : decode prog_14_method_9_code 28 = .ok (.bipush 60, 2) := by decide +kernel
theorem d_Model_copy_30 : decode prog_14_method_9_code 30 = .ok (.iload_n 2, 1) := by decide +kernel
theorem d_Model_copy_31 : decode prog_14_method_9_code 31 = .ok (.imul, 1) := by decide +kernel
theorem d_Model_copy_32 : decode prog_14_method_9_code 32 = .ok (.iload_n 3, 1) := by decide +kernel
theorem d_Model_copy_33 : decode prog_14_method_9_code 33 = .ok (.iadd, 1) := by decide +kernel
theorem d_Model_copy_34 : decode prog_14_method_9_code 34 = .ok (.aload_n 0, 1) := by decide +kernel
theorem d_Model_copy_35 : decode prog_14_method_9_code 35 = .ok (.iload_n 1, 1) := by decide +kernel
theorem d_Model_copy_36 : decode prog_14_method_9_code 36 = .ok (.iload_n 3, 1) := by decide +kernel
theorem d_Model_copy_37 : decode prog_14_method_9_code 37 = .ok (.invokevirtual 99, 3) := by decide +kernel
theorem d_Model_copy_40 : decode prog_14_method_9_code 40 = .ok (.iastore, 1) := by decide +kernel
theorem d_Model_copy_41 : decode prog_14_method_9_code 41 = .ok (.iinc 3 1, 3) := by decide +kernel
theorem d_Model_copy_44 : decode prog_14_method_9_code 44 = .ok (.goto (-30), 3) := by decide +kernel
theorem d_Model_copy_47 : decode prog_14_method_9_code 47 = .ok (.return_, 1) := by decide +kernel
theorem d_Model_entry_0 : decode prog_14_method_35_code 0 = .ok (.aload_n 0, 1) := by decide +kernel
theorem d_Model_entry_1 : decode prog_14_method_35_code 1 = .ok (.invokevirtual 177, 3) := by decide +kernel
theorem d_Model_entry_4 : decode prog_14_method_35_code 4 = .ok (.lstore_n 3, 1) := by decide +kernel
theorem d_Model_entry_5 : decode prog_14_method_35_code 5 = .ok (.aload_n 0, 1) := by decide +kernel
theorem d_Model_entry_6 : decode prog_14_method_35_code 6 = .ok (.getfield 29, 3) := by decide +kernel
theorem d_Model_entry_9 : decode prog_14_method_35_code 9 = .ok (.bipush 8, 2) := by decide +kernel
theorem d_Model_entry_11 : decode prog_14_method_35_code 11 = .ok (.iconst 0, 1) := by decide +kernel
theorem d_Model_entry_12 : decode prog_14_method_35_code 12 = .ok (.iastore, 1) := by decide +kernel
theorem d_Model_entry_13 : decode prog_14_method_35_code 13 = .ok (.aload_n 0, 1) := by decide +kernel
theorem d_Model_entry_14 : decode prog_14_method_35_code 14 = .ok (.getfield 140, 3) := by decide +kernel
theorem d_Model_entry_17 : decode prog_14_method_35_code 17 = .ok (.ifCond .ne 7, 3) := by decide +kernel
theorem d_Model_entry_20 : decode prog_14_method_35_code 20 = .ok (.iconst 1, 1) := by decide +kernel
theorem d_Model_entry_21 : decode prog_14_method_35_code 21 = .ok (.goto 4, 3) := by decide +kernel
theorem d_Model_entry_24 : decode prog_14_method_35_code 24 = .ok (.iconst 0, 1) := by decide +kernel
theorem d_Model_entry_25 : decode prog_14_method_35_code 25 = .ok (.istore 5, 2) := by decide +kernel
theorem d_Model_entry_27 : decode prog_14_method_35_code 27 = .ok (.iload 5, 2) := by decide +kernel
theorem d_Model_entry_29 : decode prog_14_method_35_code 29 = .ok (.ifCond .eq 81, 3) := by decide +kernel
theorem d_Model_entry_32 : decode prog_14_method_35_code 32 = .ok (.aload_n 0, 1) := by decide +kernel
theorem d_Model_entry_33 : decode prog_14_method_35_code 33 = .ok (.invokevirtual 150, 3) := by decide +kernel
theorem d_Model_entry_36 : decode prog_14_method_35_code 36 = .ok (.aload_n 0, 1) := by decide +kernel
theorem d_Model_entry_37 : decode prog_14_method_35_code 37 = .ok (.invokevirtual 136, 3) := by decide +kernel
theorem d_Model_entry_40 : decode prog_14_method_35_code 40 = .ok (.bipush 44, 2) := by decide +kernel
theorem d_Model_entry_42 : decode prog_14_method_35_code 42 = .ok (.if_icmp .ne 7, 3) := by decide +kernel
theorem d_Model_entry_45 : decode prog_14_method_35_code 45 = .ok (.iconst 1, 1) := by decide +kernel
theorem d_Model_entry_46 : decode prog_14_method_35_code 46 = .ok (.goto 4, 3) := by decide +kernel
theorem d_Model_entry_49 : decode prog_14_method_35_code 49 = .ok (.iconst 0, 1) := by decide +kernel
theorem d_Model_entry_50 : decode prog_14_method_35_code 50 = .ok (.istore 5, 2) := by decide +kernel
theorem d_Model_entry_52 : decode prog_14_method_35_code 52 = .ok (.iload 5, 2) := by decide +kernel
theorem d_Model_entry_54 : decode prog_14_method_35_code 54 = .ok (.ifCond .eq (-27), 3) := by decide +kernel
theorem d_Model_entry_57 : decode prog_14_method_35_code 57 = .ok (.aload_n 0, 1) := by decide +kernel
theorem d_Model_entry_58 : decode prog_14_method_35_code 58 = .ok (.dup, 1) := by decide +kernel
theorem d_Model_entry_59 : decode prog_14_method_35_code 59 = .ok (.getfield 134, 3) := by decide +kernel
theorem d_Model_entry_62 : decode prog_14_method_35_code 62 = .ok (.iconst 1, 1) := by decide +kernel
theorem d_Model_entry_63 : decode prog_14_method_35_code 63 = .ok (.iadd, 1) := by decide +kernel
theorem d_Model_entry_64 : decode prog_14_method_35_code 64 = .ok (.putfield 134, 3) := by decide +kernel
theorem d_Model_entry_67 : decode prog_14_method_35_code 67 = .ok (.aload_n 0, 1) := by decide +kernel
theorem d_Model_entry_68 : decode prog_14_method_35_code 68 = .ok (.invokevirtual 150, 3) := by decide +kernel
theorem d_Model_entry_71 : decode prog_14_method_35_code 71 = .ok (.aload_n 0, 1) := by decide +kernel
theorem d_Model_entry_72 : decode prog_14_method_35_code 72 = .ok (.invokevirtual 136, 3) := by decide +kernel
theorem d_Model_entry_75 : decode prog_14_method_35_code 75 = .ok (.bipush 125, 2) := by decide +kernel
theorem d_Model_entry_77 : decode prog_14_method_35_code 77 = .ok (.if_icmp .eq 7, 3) := by decide +kernel
theorem d_Model_entry_80 : decode prog_14_method_35_code 80 = .ok (.aload_n 0, 1) := by decide +kernel
theorem d_Model_entry_81 : decode prog_14_method_35_code 81 = .ok (.invokevirtual 204, 3) := by decide +kernel
theorem d_Model_entry_84 : decode prog_14_method_35_code 84 = .ok (.aload_n 0, 1) := by decide +kernel
theorem d_Model_entry_85 : decode prog_14_method_35_code 85 = .ok (.getfield 140, 3) := by decide +kernel
theorem d_Model_entry_88 : decode prog_14_method_35_code 88 = .ok (.ifCond .ne 16, 3) := by decide +kernel
theorem d_Model_entry_91 : decode prog_14_method_35_code 91 = .ok (.aload_n 0, 1) := by decide +kernel
theorem d_Model_entry_92 : decode prog_14_method_35_code 92 = .ok (.invokevirtual 136, 3) := by decide +kernel
theorem d_Model_entry_95 : decode prog_14_method_35_code 95 = .ok (.bipush 125, 2) := by decide +kernel
theorem d_Model_entry_97 : decode prog_14_method_35_code 97 = .ok (.if_icmp .eq 7, 3) := by decide +kernel
theorem d_Model_entry_100 : decode prog_14_method_35_code 100 = .ok (.iconst 1, 1) := by decide +kernel
theorem d_Model_entry_101 : decode prog_14_method_35_code 101 = .ok (.goto 4, 3) := by decide +kernel
theorem d_Model_entry_104 : decode prog_14_method_35_code 104 = .ok (.iconst 0, 1) := by decide +kernel
theorem d_Model_entry_105 : decode prog_14_method_35_code 105 = .ok (.istore 5, 2) := by decide +kernel
theorem d_Model_entry_107 : decode prog_14_method_35_code 107 = .ok (.goto (-80), 3) := by decide +kernel
theorem d_Model_entry_110 : decode prog_14_method_35_code 110 = .ok (.aload_n 0, 1) := by decide +kernel
theorem d_Model_entry_111 : decode prog_14_method_35_code 111 = .ok (.bipush 125, 2) := by decide +kernel
theorem d_Model_entry_113 : decode prog_14_method_35_code 113 = .ok (.invokevirtual 188, 3) := by decide +kernel
theorem d_Model_entry_116 : decode prog_14_method_35_code 116 = .ok (.aload_n 0, 1) := by decide +kernel
theorem d_Model_entry_117 : decode prog_14_method_35_code 117 = .ok (.getfield 140, 3) := by decide +kernel
theorem d_Model_entry_120 : decode prog_14_method_35_code 120 = .ok (.ifCond .eq 4, 3) := by decide +kernel
theorem d_Model_entry_123 : decode prog_14_method_35_code 123 = .ok (.return_, 1) := by decide +kernel
theorem d_Model_entry_124 : decode prog_14_method_35_code 124 = .ok (.aload_n 0, 1) := by decide +kernel
theorem d_Model_entry_125 : decode prog_14_method_35_code 125 = .ok (.lload_n 3, 1) := by decide +kernel
theorem d_Model_entry_126 : decode prog_14_method_35_code 126 = .ok (.invokevirtual 207, 3) := by decide +kernel
theorem d_Model_entry_129 : decode prog_14_method_35_code 129 = .ok (.ifCond .ge 12, 3) := by decide +kernel
theorem d_Model_entry_132 : decode prog_14_method_35_code 132 = .ok (.aload_n 0, 1) := by decide +kernel
theorem d_Model_entry_133 : decode prog_14_method_35_code 133 = .ok (.getfield 201, 3) := by decide +kernel
theorem d_Model_entry_136 : decode prog_14_method_35_code 136 = .ok (.bipush 8, 2) := by decide +kernel
theorem d_Model_entry_138 : decode prog_14_method_35_code 138 = .ok (.if_icmp .ne 21, 3) := by decide +kernel
theorem d_Model_entry_141 : decode prog_14_method_35_code 141 = .ok (.aload_n 0, 1) := by decide +kernel
theorem d_Model_entry_142 : decode prog_14_method_35_code 142 = .ok (.aload_n 0, 1) := by decide +kernel
theorem d_Model_entry_143 : decode prog_14_method_35_code 143 = .ok (.lload_n 3, 1) := by decide +kernel
theorem d_Model_entry_144 : decode prog_14_method_35_code 144 = .ok (.invokevirtual 207, 3) := by decide +kernel
theorem d_Model_entry_147 : decode prog_14_method_35_code 147 = .ok (.ifCond .lt 7, 3) := by decide +kernel
theorem d_Model_entry_150 : decode prog_14_method_35_code 150 = .ok (.iconst 4, 1) := by decide +kernel
theorem d_Model_entry_151 : decode prog_14_method_35_code 151 = .ok (.goto 4, 3) := by decide +kernel
theorem d_Model_entry_154 : decode prog_14_method_35_code 154 = .ok (.iconst 5, 1) := by decide +kernel
theorem d_Model_entry_155 : decode prog_14_method_35_code 155 = .ok (.invokevirtual 144, 3) := by decide +kernel
theorem d_Model_entry_158 : decode prog_14_method_35_code 158 = .ok (.return_, 1) := by decide +kernel
theorem d_Model_entry_159 : decode prog_14_method_35_code 159 = .ok (.aload_n 0, 1) := by decide +kernel
theorem d_Model_entry_160 : decode prog_14_method_35_code 160 = .ok (.getfield 22, 3) := by decide +kernel
theorem d_Model_entry_163 : decode prog_14_method_35_code 163 = .ok (.aload_n 0, 1) := by decide +kernel
theorem d_Model_entry_164 : decode prog_14_method_35_code 164 = .ok (.getfield 201, 3) := by decide +kernel
theorem d_Model_entry_167 : decode prog_14_method_35_code 167 = .ok (.lload_n 3, 1) := by decide +kernel
theorem d_Model_entry_168 : decode prog_14_method_35_code 168 = .ok (.lastore, 1) := by decide +kernel
theorem d_Model_entry_169 : decode prog_14_method_35_code 169 = .ok (.aload_n 0, 1) := by decide +kernel
theorem d_Model_entry_170 : decode prog_14_method_35_code 170 = .ok (.getfield 26, 3) := by decide +kernel
theorem d_Model_entry_173 : decode prog_14_method_35_code 173 = .ok (.aload_n 0, 1) := by decide +kernel
theorem d_Model_entry_174 : decode prog_14_method_35_code 174 = .ok (.getfield 201, 3) := by decide +kernel
theorem d_Model_entry_177 : decode prog_14_method_35_code 177 = .ok (.lload_n 1, 1) := by decide +kernel
theorem d_Model_entry_178 : decode prog_14_method_35_code 178 = .ok (.lastore, 1) := by decide +kernel
theorem d_Model_entry_179 : decode prog_14_method_35_code 179 = .ok (.aload_n 0, 1) := by decide +kernel
theorem d_Model_entry_180 : decode prog_14_method_35_code 180 = .ok (.getfield 29, 3) := by decide +kernel
theorem d_Model_entry_183 : decode prog_14_method_35_code 183 = .ok (.aload_n 0, 1) := by decide +kernel
theorem d_Model_entry_184 : decode prog_14_method_35_code 184 = .ok (.getfield 201, 3) := by decide +kernel
theorem d_Model_entry_187 : decode prog_14_method_35_code 187 = .ok (.aload_n 0, 1) := by decide +kernel
theorem d_Model_entry_188 : decode prog_14_method_35_code 188 = .ok (.getfield 29, 3) := by decide +kernel
theorem d_Model_entry_191 : decode prog_14_method_35_code 191 = .ok (.bipush 8, 2) := by decide +kernel
theorem d_Model_entry_193 : decode prog_14_method_35_code 193 = .ok (.iaload, 1) := by decide +kernel
theorem d_Model_entry_194 : decode prog_14_method_35_code 194 = .ok (.iastore, 1) := by decide +kernel
theorem d_Model_entry_195 : decode prog_14_method_35_code 195 = .ok (.iconst 0, 1) := by decide +kernel
theorem d_Model_entry_196 : decode prog_14_method_35_code 196 = .ok (.istore 6, 2) := by decide +kernel
theorem d_Model_entry_198 : decode prog_14_method_35_code 198 = .ok (.iload 6, 2) := by decide +kernel
theorem d_Model_entry_200 : decode prog_14_method_35_code 200 = .ok (.aload_n 0, 1) := by decide +kernel
theorem d_Model_entry_201 : decode prog_14_method_35_code 201 = .ok (.getfield 29, 3) := by decide +kernel
theorem d_Model_entry_204 : decode prog_14_method_35_code 204 = .ok (.bipush 8, 2) := by decide +kernel
theorem d_Model_entry_206 : decode prog_14_method_35_code 206 = .ok (.iaload, 1) := by decide +kernel
theorem d_Model_entry_207 : decode prog_14_method_35_code 207 = .ok (.if_icmp .ge 53, 3) := by decide +kernel
theorem d_Model_entry_210 : decode prog_14_method_35_code 210 = .ok (.aload_n 0, 1) := by decide +kernel
theorem d_Model_entry_211 : decode prog_14_method_35_code 211 = .ok (.getfield 32, 3) := by decide +kernel
theorem d_Model_entry_214 : decode prog_14_method_35_code 214 = .ok (.bipush 6, 2) := by decide +kernel
theorem d_Model_entry_216 : decode prog_14_method_35_code 216 = .ok (.aload_n 0, 1) := by decide +kernel
theorem d_Model_entry_217 : decode prog_14_method_35_code 217 = .ok (.getfield 201, 3) := by decide +kernel
theorem d_Model_entry_220 : decode prog_14_method_35_code 220 = .ok (.imul, 1) := by decide +kernel
theorem d_Model_entry_221 : decode prog_14_method_35_code 221 = .ok (.iload 6, 2) := by decide +kernel
theorem d_Model_entry_223 : decode prog_14_method_35_code 223 = .ok (.iadd, 1) := by decide +kernel
theorem d_Model_entry_224 : decode prog_14_method_35_code 224 = .ok (.aload_n 0, 1) := by decide +kernel
theorem d_Model_entry_225 : decode prog_14_method_35_code 225 = .ok (.getfield 32, 3) := by decide +kernel
theorem d_Model_entry_228 : decode prog_14_method_35_code 228 = .ok (.bipush 48, 2) := by decide +kernel
theorem d_Model_entry_230 : decode prog_14_method_35_code 230 = .ok (.iload 6, 2) := by decide +kernel
theorem d_Model_entry_232 : decode prog_14_method_35_code 232 = .ok (.iadd, 1) := by decide +kernel
theorem d_Model_entry_233 : decode prog_14_method_35_code 233 = .ok (.laload, 1) := by decide +kernel
theorem d_Model_entry_234 : decode prog_14_method_35_code 234 = .ok (.lastore, 1) := by decide +kernel
theorem d_Model_entry_235 : decode prog_14_method_35_code 235 = .ok (.aload_n 0, 1) := by decide +kernel
theorem d_Model_entry_236 : decode prog_14_method_35_code 236 = .ok (.bipush 48, 2) := by decide +kernel
theorem d_Model_entry_238 : decode prog_14_method_35_code 238 = .ok (.iload 6, 2) := by decide +kernel
theorem d_Model_entry_240 : decode prog_14_method_35_code 240 = .ok (.iadd, 1) := by decide +kernel
theorem d_Model_entry_241 : decode prog_14_method_35_code 241 = .ok (.bipush 6, 2) := by decide +kernel
theorem d_Model_entry_243 : decode prog_14_method_35_code 243 = .ok (.aload_n 0, 1) := by decide +kernel
theorem d_Model_entry_244 : decode prog_14_method_35_code 244 = .ok (.getfield 201, 3) := by decide +kernel
theorem d_Model_entry_247 : decode prog_14_method_35_code 247 = .ok (.imul, 1) := by decide +kernel
theorem d_Model_entry_248 : decode prog_14_method_35_code 248 = .ok (.iload 6, 2) := by decide +kernel
theorem d_Model_entry_250 : decode prog_14_method_35_code 250 = .ok (.iadd, 1) := by decide +kernel
theorem d_Model_entry_251 : decode prog_14_method_35_code 251 = .ok (.invokevirtual 194, 3) := by decide +kernel
theorem d_Model_entry_254 : decode prog_14_method_35_code 254 = .ok (.iinc 6 1, 3) := by decide +kernel
theorem d_Model_entry_257 : decode prog_14_method_35_code 257 = .ok (.goto (-59), 3) := by decide +kernel
theorem d_Model_entry_260 : decode prog_14_method_35_code 260 = .ok (.aload_n 0, 1) := by decide +kernel
theorem d_Model_entry_261 : decode prog_14_method_35_code 261 = .ok (.dup, 1) := by decide +kernel
theorem d_Model_entry_262 : decode prog_14_method_35_code 262 = .ok (.getfield 201, 3) := by decide +kernel
theorem d_Model_entry_265 : decode prog_14_method_35_code 265 = .ok (.iconst 1, 1) := by decide +kernel
theorem d_Model_entry_266 : decode prog_14_method_35_code 266 = .ok (.iadd, 1) := by decide +kernel
theorem d_Model_entry_267 : decode prog_14_method_35_code 267 = .ok (.putfield 201, 3) := by decide +kernel
theorem d_Model_entry_270 : decode prog_14_method_35_code 270 = .ok (.return_, 1) := by decide +kernel
theorem d_Model_readField_0 : decode prog_14_method_33_code 0 = .ok (.aload_n 0, 1) := by decide +kernel
theorem d_Model_readField_1 : decode prog_14_method_33_code 1 = .ok (.invokevirtual 177, 3) := by decide +kernel
theorem d_Model_readField_4 : decode prog_14_method_33_code 4 = .ok (.lstore_n 1, 1) := by decide +kernel
theorem d_Model_readField_5 : decode prog_14_method_33_code 5 = .ok (.aload_n 0, 1) := by decide +kernel
theorem d_Model_readField_6 : decode prog_14_method_33_code 6 = .ok (.bipush 61, 2) := by decide +kernel
theorem d_Model_readField_8 : decode prog_14_method_33_code 8 = .ok (.invokevirtual 188, 3) := by decide +kernel
theorem d_Model_readField_11 : decode prog_14_method_33_code 11 = .ok (.aload_n 0, 1) := by decide +kernel
theorem d_Model_readField_12 : decode prog_14_method_33_code 12 = .ok (.invokevirtual 191, 3) := by decide +kernel
theorem d_Model_readField_15 : decode prog_14_method_33_code 15 = .ok (.aload_n 0, 1) := by decide +kernel
theorem d_Model_readField_16 : decode prog_14_method_33_code 16 = .ok (.getfield 140, 3) := by decide +kernel
theorem d_Model_readField_19 : decode prog_14_method_33_code 19 = .ok (.ifCond .ne 25, 3) := by decide +kernel
theorem d_Model_readField_22 : decode prog_14_method_33_code 22 = .ok (.aload_n 0, 1) := by decide +kernel
theorem d_Model_readField_23 : decode prog_14_method_33_code 23 = .ok (.bipush 8, 2) := by decide +kernel
theorem d_Model_readField_25 : decode prog_14_method_33_code 25 = .ok (.lload_n 1, 1) := by decide +kernel
theorem d_Model_readField_26 : decode prog_14_method_33_code 26 = .ok (.invokevirtual 197, 3) := by decide +kernel
theorem d_Model_readField_29 : decode prog_14_method_33_code 29 = .ok (.ifCond .ge 15, 3) := by decide +kernel
theorem d_Model_readField_32 : decode prog_14_method_33_code 32 = .ok (.aload_n 0, 1) := by decide +kernel
theorem d_Model_readField_33 : decode prog_14_method_33_code 33 = .ok (.getfield 29, 3) := by decide +kernel
theorem d_Model_readField_36 : decode prog_14_method_33_code 36 = .ok (.bipush 8, 2) := by decide +kernel
theorem d_Model_readField_38 : decode prog_14_method_33_code 38 = .ok (.iaload, 1) := by decide +kernel
theorem d_Model_readField_39 : decode prog_14_method_33_code 39 = .ok (.bipush 6, 2) := by decide +kernel
theorem d_Model_readField_41 : decode prog_14_method_33_code 41 = .ok (.if_icmp .ne 4, 3) := by decide +kernel
theorem d_Model_readField_44 : decode prog_14_method_33_code 44 = .ok (.return_, 1) := by decide +kernel
theorem d_Model_readField_45 : decode prog_14_method_33_code 45 = .ok (.aload_n 0, 1) := by decide +kernel
theorem d_Model_readField_46 : decode prog_14_method_33_code 46 = .ok (.getfield 32, 3) := by decide +kernel
theorem d_Model_readField_49 : decode prog_14_method_33_code 49 = .ok (.bipush 48, 2) := by decide +kernel
theorem d_Model_readField_51 : decode prog_14_method_33_code 51 = .ok (.aload_n 0, 1) := by decide +kernel
theorem d_Model_readField_52 : decode prog_14_method_33_code 52 = .ok (.getfield 29, 3) := by decide +kernel
theorem d_Model_readField_55 : decode prog_14_method_33_code 55 = .ok (.bipush 8, 2) := by decide +kernel
theorem d_Model_readField_57 : decode prog_14_method_33_code 57 = .ok (.iaload, 1) := by decide +kernel
theorem d_Model_readField_58 : decode prog_14_method_33_code 58 = .ok (.iadd, 1) := by decide +kernel
theorem d_Model_readField_59 : decode prog_14_method_33_code 59 = .ok (.lload_n 1, 1) := by decide +kernel
theorem d_Model_readField_60 : decode prog_14_method_33_code 60 = .ok (.lastore, 1) := by decide +kernel
theorem d_Model_readField_61 : decode prog_14_method_33_code 61 = .ok (.aload_n 0, 1) := by decide +kernel
theorem d_Model_readField_62 : decode prog_14_method_33_code 62 = .ok (.bipush 82, 2) := by decide +kernel
theorem d_Model_readField_64 : decode prog_14_method_33_code 64 = .ok (.bipush 48, 2) := by decide +kernel
theorem d_Model_readField_66 : decode prog_14_method_33_code 66 = .ok (.aload_n 0, 1) := by decide +kernel
theorem d_Model_readField_67 : decode prog_14_method_33_code 67 = .ok (.getfield 29, 3) := by decide +kernel
theorem d_Model_readField_70 : decode prog_14_method_33_code 70 = .ok (.bipush 8, 2) := by decide +kernel
theorem d_Model_readField_72 : decode prog_14_method_33_code 72 = .ok (.iaload, 1) := by decide +kernel
theorem d_Model_readField_73 : decode prog_14_method_33_code 73 = .ok (.iadd, 1) := by decide +kernel
theorem d_Model_readField_74 : decode prog_14_method_33_code 74 = .ok (.invokevirtual 194, 3) := by decide +kernel
theorem d_Model_readField_77 : decode prog_14_method_33_code 77 = .ok (.aload_n 0, 1) := by decide +kernel
theorem d_Model_readField_78 : decode prog_14_method_33_code 78 = .ok (.getfield 29, 3) := by decide +kernel
theorem d_Model_readField_81 : decode prog_14_method_33_code 81 = .ok (.bipush 8, 2) := by decide +kernel
theorem d_Model_readField_83 : decode prog_14_method_33_code 83 = .ok (.dup2, 1) := by decide +kernel
theorem d_Model_readField_84 : decode prog_14_method_33_code 84 = .ok (.iaload, 1) := by decide +kernel
theorem d_Model_readField_85 : decode prog_14_method_33_code 85 = .ok (.iconst 1, 1) := by decide +kernel
theorem d_Model_readField_86 : decode prog_14_method_33_code 86 = .ok (.iadd, 1) := by decide +kernel
theorem d_Model_readField_87 : decode prog_14_method_33_code 87 = .ok (.iastore, 1) := by decide +kernel
theorem d_Model_readField_88 : decode prog_14_method_33_code 88 = .ok (.return_, 1) := by decide +kernel
theorem d_Model_own_0 : decode prog_14_method_32_code 0 = .ok (.iconst (-1), 1) := by decide +kernel
theorem d_Model_own_1 : decode prog_14_method_32_code 1 = .ok (.istore 4, 2) := by decide +kernel
theorem d_Model_own_3 : decode prog_14_method_32_code 3 = .ok (.iconst 0, 1) := by decide +kernel
theorem d_Model_own_4 : decode prog_14_method_32_code 4 = .ok (.istore 5, 2) := by decide +kernel
theorem d_Model_own_6 : decode prog_14_method_32_code 6 = .ok (.iload 5, 2) := by decide +kernel
theorem d_Model_own_8 : decode prog_14_method_32_code 8 = .ok (.aload_n 0, 1) := by decide +kernel
theorem d_Model_own_9 : decode prog_14_method_32_code 9 = .ok (.getfield 29, 3) := by decide +kernel
theorem d_Model_own_12 : decode prog_14_method_32_code 12 = .ok (.iload_n 1, 1) := by decide +kernel
theorem d_Model_own_13 : decode prog_14_method_32_code 13 = .ok (.iaload, 1) := by decide +kernel
theorem d_Model_own_14 : decode prog_14_method_32_code 14 = .ok (.if_icmp .ge 40, 3) := by decide +kernel
theorem d_Model_own_17 : decode prog_14_method_32_code 17 = .ok (.aload_n 0, 1) := by decide +kernel
theorem d_Model_own_18 : decode prog_14_method_32_code 18 = .ok (.getfield 32, 3) := by decide +kernel
theorem d_Model_own_21 : decode prog_14_method_32_code 21 = .ok (.bipush 6, 2) := by decide +kernel
theorem d_Model_own_23 : decode prog_14_method_32_code 23 = .ok (.iload_n 1, 1) := by decide +kernel
theorem d_Model_own_24 : decode prog_14_method_32_code 24 = .ok (.imul, 1) := by decide +kernel
theorem d_Model_own_25 : decode prog_14_method_32_code 25 = .ok (.iload 5, 2) := by decide +kernel
theorem d_Model_own_27 : decode prog_14_method_32_code 27 = .ok (.iadd, 1) := by decide +kernel
theorem d_Model_own_28 : decode prog_14_method_32_code 28 = .ok (.laload, 1) := by decide +kernel
theorem d_Model_own_29 : decode prog_14_method_32_code 29 = .ok (.lload_n 2, 1) := by decide +kernel
theorem d_Model_own_30 : decode prog_14_method_32_code 30 = .ok (.lcmp, 1) := by decide +kernel
theorem d_Model_own_31 : decode prog_14_method_32_code 31 = .ok (.ifCond .ne 13, 3) := by decide +kernel
theorem d_Model_own_34 : decode prog_14_method_32_code 34 = .ok (.bipush 6, 2) := by decide +kernel
theorem d_Model_own_36 : decode prog_14_method_32_code 36 = .ok (.iload_n 1, 1) := by decide +kernel
theorem d_Model_own_37 : decode prog_14_method_32_code 37 = .ok (.imul, 1) := by decide +kernel
theorem d_Model_own_38 : decode prog_14_method_32_code 38 = .ok (.iload 5, 2) := by decide +kernel
theorem d_Model_own_40 : decode prog_14_method_32_code 40 = .ok (.iadd, 1) := by decide +kernel
theorem d_Model_own_41 : decode prog_14_method_32_code 41 = .ok (.goto 5, 3) := by decide +kernel
theorem d_Model_own_44 : decode prog_14_method_32_code 44 = .ok (.iload 4, 2) := by decide +kernel
theorem d_Model_own_46 : decode prog_14_method_32_code 46 = .ok (.istore 4, 2) := by decide +kernel
theorem d_Model_own_48 : decode prog_14_method_32_code 48 = .ok (.iinc 5 1, 3) := by decide +kernel
theorem d_Model_own_51 : decode prog_14_method_32_code 51 = .ok (.goto (-45), 3) := by decide +kernel
theorem d_Model_own_54 : decode prog_14_method_32_code 54 = .ok (.iload 4, 2) := by decide +kernel
theorem d_Model_own_56 : decode prog_14_method_32_code 56 = .ok (.ireturn, 1) := by decide +kernel
theorem d_Model_findKey_0 : decode prog_14_method_34_code 0 = .ok (.iconst (-1), 1) := by decide +kernel
theorem d_Model_findKey_1 : decode prog_14_method_34_code 1 = .ok (.istore_n 3, 1) := by decide +kernel
