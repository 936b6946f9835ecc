/-! decode rows, printed by a program -/
theorem d_Model_capitals_126 : decode prog_14_method_67_code 126 = .ok (.iload 5, 2) := by decide +kernel
theorem d_Model_capitals_128 : decode prog_14_method_67_code 128 = .ok (.invokestatic 342, 3) := by decide +kernel
theorem d_Model_capitals_131 : decode prog_14_method_67_code 131 = .ok (.goto 8, 3) := by decide +kernel
theorem d_Model_capitals_134 : decode prog_14_method_67_code 134 = .ok (.iload 5, 2) := by decide +kernel
theorem d_Model_capitals_136 : decode prog_14_method_67_code 136 = .ok (.invokestatic 116, 3) := by decide +kernel
theorem d_Model_capitals_139 : decode prog_14_method_67_code 139 = .ok (.invokevirtual 124, 3) := by decide +kernel
theorem d_Model_capitals_142 : decode prog_14_method_67_code 142 = .ok (.iload 6, 2) := by decide +kernel
theorem d_Model_capitals_144 : decode prog_14_method_67_code 144 = .ok (.ifCond .eq 10, 3) := by decide +kernel
theorem d_Model_capitals_147 : decode prog_14_method_67_code 147 = .ok (.iload 5, 2) := by decide +kernel
theorem d_Model_capitals_149 : decode prog_14_method_67_code 149 = .ok (.bipush 58, 2) := by decide +kernel
theorem d_Model_capitals_151 : decode prog_14_method_67_code 151 = .ok (.if_icmp .eq 19, 3) := by decide +kernel
theorem d_Model_capitals_154 : decode prog_14_method_67_code 154 = .ok (.iload_n 3, 1) := by decide +kernel
theorem d_Model_capitals_155 : decode prog_14_method_67_code 155 = .ok (.ifCond .eq 19, 3) := by decide +kernel
theorem d_Model_capitals_158 : decode prog_14_method_67_code 158 = .ok (.iload 4, 2) := by decide +kernel
theorem d_Model_capitals_160 : decode prog_14_method_67_code 160 = .ok (.ifCond .le 14, 3) := by decide +kernel
theorem d_Model_capitals_163 : decode prog_14_method_67_code 163 = .ok (.iload 5, 2) := by decide +kernel
theorem d_Model_capitals_165 : decode prog_14_method_67_code 165 = .ok (.bipush 32, 2) := by decide +kernel
theorem d_Model_capitals_167 : decode prog_14_method_67_code 167 = .ok (.if_icmp .ne 7, 3) := by decide +kernel
theorem d_Model_capitals_170 : decode prog_14_method_67_code 170 = .ok (.iconst 1, 1) := by decide +kernel
theorem d_Model_capitals_171 : decode prog_14_method_67_code 171 = .ok (.goto 4, 3) := by decide +kernel
theorem d_Model_capitals_174 : decode prog_14_method_67_code 174 = .ok (.iconst 0, 1) := by decide +kernel
theorem d_Model_capitals_175 : decode prog_14_method_67_code 175 = .ok (.istore_n 3, 1) := by decide +kernel
theorem d_Model_capitals_176 : decode prog_14_method_67_code 176 = .ok (.iinc 4 1, 3) := by decide +kernel
theorem d_Model_capitals_179 : decode prog_14_method_67_code 179 = .ok (.goto (-166), 3) := by decide +kernel
theorem d_Model_capitals_182 : decode prog_14_method_67_code 182 = .ok (.return_, 1) := by decide +kernel
theorem d_Model_large_0 : decode prog_14_method_13_code 0 = .ok (.iload_n 0, 1) := by decide +kernel
theorem d_Model_large_1 : decode prog_14_method_13_code 1 = .ok (.bipush 97, 2) := by decide +kernel
theorem d_Model_large_3 : decode prog_14_method_13_code 3 = .ok (.bipush 122, 2) := by decide +kernel
theorem d_Model_large_5 : decode prog_14_method_13_code 5 = .ok (.invokestatic 103, 3) := by decide +kernel
theorem d_Model_large_8 : decode prog_14_method_13_code 8 = .ok (.ifCond .eq 10, 3) := by decide +kernel
theorem d_Model_large_11 : decode prog_14_method_13_code 11 = .ok (.iload_n 0, 1) := by decide +kernel
theorem d_Model_large_12 : decode prog_14_method_13_code 12 = .ok (.bipush 32, 2) := by decide +kernel
theorem d_Model_large_14 : decode prog_14_method_13_code 14 = .ok (.isub, 1) := by decide +kernel
theorem d_Model_large_15 : decode prog_14_method_13_code 15 = .ok (.goto 4, 3) := by decide +kernel
theorem d_Model_large_18 : decode prog_14_method_13_code 18 = .ok (.iload_n 0, 1) := by decide +kernel
theorem d_Model_large_19 : decode prog_14_method_13_code 19 = .ok (.ireturn, 1) := by decide +kernel
theorem d_Model_purified_0 : decode prog_14_method_68_code 0 = .ok (.aload_n 0, 1) := by decide +kernel
theorem d_Model_purified_1 : decode prog_14_method_68_code 1 = .ok (.bipush 84, 2) := by decide +kernel
theorem d_Model_purified_3 : decode prog_14_method_68_code 3 = .ok (.invokevirtual 120, 3) := by decide +kernel
theorem d_Model_purified_6 : decode prog_14_method_68_code 6 = .ok (.iconst 0, 1) := by decide +kernel
theorem d_Model_purified_7 : decode prog_14_method_68_code 7 = .ok (.istore_n 1, 1) := by decide +kernel
theorem d_Model_purified_8 : decode prog_14_method_68_code 8 = .ok (.iload_n 1, 1) := by decide +kernel
theorem d_Model_purified_9 : decode prog_14_method_68_code 9 = .ok (.aload_n 0, 1) := by decide +kernel
theorem d_Model_purified_10 : decode prog_14_method_68_code 10 = .ok (.getfield 16, 3) := by decide +kernel
theorem d_Model_purified_13 : decode prog_14_method_68_code 13 = .ok (.bipush 82, 2) := by decide +kernel
theorem d_Model_purified_15 : decode prog_14_method_68_code 15 = .ok (.iaload, 1) := by decide +kernel
theorem d_Model_purified_16 : decode prog_14_method_68_code 16 = .ok (.if_icmp .ge 64, 3) := by decide +kernel
theorem d_Model_purified_19 : decode prog_14_method_68_code 19 = .ok (.aload_n 0, 1) := by decide +kernel
theorem d_Model_purified_20 : decode prog_14_method_68_code 20 = .ok (.bipush 82, 2) := by decide +kernel
theorem d_Model_purified_22 : decode prog_14_method_68_code 22 = .ok (.iload_n 1, 1) := by decide +kernel
theorem d_Model_purified_23 : decode prog_14_method_68_code 23 = .ok (.invokevirtual 99, 3) := by decide +kernel
theorem d_Model_purified_26 : decode prog_14_method_68_code 26 = .ok (.istore_n 2, 1) := by decide +kernel
theorem d_Model_purified_27 : decode prog_14_method_68_code 27 = .ok (.iload_n 2, 1) := by decide +kernel
theorem d_Model_purified_28 : decode prog_14_method_68_code 28 = .ok (.invokestatic 107, 3) := by decide +kernel
theorem d_Model_purified_31 : decode prog_14_method_68_code 31 = .ok (.ifCond .ne 16, 3) := by decide +kernel
theorem d_Model_purified_34 : decode prog_14_method_68_code 34 = .ok (.iload_n 2, 1) := by decide +kernel
theorem d_Model_purified_35 : decode prog_14_method_68_code 35 = .ok (.invokestatic 111, 3) := by decide +kernel
theorem d_Model_purified_38 : decode prog_14_method_68_code 38 = .ok (.ifCond .ne 9, 3) := by decide +kernel
theorem d_Model_purified_41 : decode prog_14_method_68_code 41 = .ok (.iload_n 2, 1) := by decide +kernel
theorem d_Model_purified_42 : decode prog_14_method_68_code 42 = .ok (.bipush 32, 2) := by decide +kernel
theorem d_Model_purified_44 : decode prog_14_method_68_code 44 = .ok (.if_icmp .ne 10, 3) := by decide +kernel
theorem d_Model_purified_47 : decode prog_14_method_68_code 47 = .ok (.aload_n 0, 1) := by decide +kernel
theorem d_Model_purified_48 : decode prog_14_method_68_code 48 = .ok (.bipush 84, 2) := by decide +kernel
theorem d_Model_purified_50 : decode prog_14_method_68_code 50 = .ok (.iload_n 2, 1) := by decide +kernel
theorem d_Model_purified_51 : decode prog_14_method_68_code 51 = .ok (.invokevirtual 124, 3) := by decide +kernel
theorem d_Model_purified_54 : decode prog_14_method_68_code 54 = .ok (.iload_n 2, 1) := by decide +kernel
theorem d_Model_purified_55 : decode prog_14_method_68_code 55 = .ok (.bipush 45, 2) := by decide +kernel
theorem d_Model_purified_57 : decode prog_14_method_68_code 57 = .ok (.if_icmp .eq 9, 3) := by decide +kernel
theorem d_Model_purified_60 : decode prog_14_method_68_code 60 = .ok (.iload_n 2, 1) := by decide +kernel
theorem d_Model_purified_61 : decode prog_14_method_68_code 61 = .ok (.bipush 126, 2) := by decide +kernel
theorem d_Model_purified_63 : decode prog_14_method_68_code 63 = .ok (.if_icmp .ne 11, 3) := by decide +kernel
theorem d_Model_purified_66 : decode prog_14_method_68_code 66 = .ok (.aload_n 0, 1) := by decide +kernel
theorem d_Model_purified_67 : decode prog_14_method_68_code 67 = .ok (.bipush 84, 2) := by decide +kernel
theorem d_Model_purified_69 : decode prog_14_method_68_code 69 = .ok (.bipush 32, 2) := by decide +kernel
theorem d_Model_purified_71 : decode prog_14_method_68_code 71 = .ok (.invokevirtual 124, 3) := by decide +kernel
theorem d_Model_purified_74 : decode prog_14_method_68_code 74 = .ok (.iinc 1 1, 3) := by decide +kernel
theorem d_Model_purified_77 : decode prog_14_method_68_code 77 = .ok (.goto (-69), 3) := by decide +kernel
theorem d_Model_purified_80 : decode prog_14_method_68_code 80 = .ok (.return_, 1) := by decide +kernel
theorem d_Model_prefix_0 : decode prog_14_method_69_code 0 = .ok (.aload_n 0, 1) := by decide +kernel
theorem d_Model_prefix_1 : decode prog_14_method_69_code 1 = .ok (.bipush 84, 2) := by decide +kernel
theorem d_Model_prefix_3 : decode prog_14_method_69_code 3 = .ok (.invokevirtual 120, 3) := by decide +kernel
theorem d_Model_prefix_6 : decode prog_14_method_69_code 6 = .ok (.iconst 0, 1) := by decide +kernel
theorem d_Model_prefix_7 : decode prog_14_method_69_code 7 = .ok (.istore_n 2, 1) := by decide +kernel
theorem d_Model_prefix_8 : decode prog_14_method_69_code 8 = .ok (.iconst 0, 1) := by decide +kernel
theorem d_Model_prefix_9 : decode prog_14_method_69_code 9 = .ok (.istore_n 3, 1) := by decide +kernel
theorem d_Model_prefix_10 : decode prog_14_method_69_code 10 = .ok (.iconst 0, 1) := by decide +kernel
theorem d_Model_prefix_11 : decode prog_14_method_69_code 11 = .ok (.istore 4, 2) := by decide +kernel
theorem d_Model_prefix_13 : decode prog_14_method_69_code 13 = .ok (.iload 4, 2) := by decide +kernel
theorem d_Model_prefix_15 : decode prog_14_method_69_code 15 = .ok (.aload_n 0, 1) := by decide +kernel
theorem d_Model_prefix_16 : decode prog_14_method_69_code 16 = .ok (.getfield 16, 3) := by decide +kernel
theorem d_Model_prefix_19 : decode prog_14_method_69_code 19 = .ok (.bipush 82, 2) := by decide +kernel
theorem d_Model_prefix_21 : decode prog_14_method_69_code 21 = .ok (.iaload, 1) := by decide +kernel
theorem d_Model_prefix_22 : decode prog_14_method_69_code 22 = .ok (.if_icmp .ge 84, 3) := by decide +kernel
theorem d_Model_prefix_25 : decode prog_14_method_69_code 25 = .ok (.iload_n 3, 1) := by decide +kernel
theorem d_Model_prefix_26 : decode prog_14_method_69_code 26 = .ok (.iload_n 1, 1) := by decide +kernel
theorem d_Model_prefix_27 : decode prog_14_method_69_code 27 = .ok (.if_icmp .ge 79, 3) := by decide +kernel
theorem d_Model_prefix_30 : decode prog_14_method_69_code 30 = .ok (.aload_n 0, 1) := by decide +kernel
theorem d_Model_prefix_31 : decode prog_14_method_69_code 31 = .ok (.bipush 82, 2) := by decide +kernel
theorem d_Model_prefix_33 : decode prog_14_method_69_code 33 = .ok (.iload 4, 2) := by decide +kernel
theorem d_Model_prefix_35 : decode prog_14_method_69_code 35 = .ok (.invokevirtual 99, 3) := by decide +kernel
theorem d_Model_prefix_38 : decode prog_14_method_69_code 38 = .ok (.istore 5, 2) := by decide +kernel
theorem d_Model_prefix_40 : decode prog_14_method_69_code 40 = .ok (.iload_n 2, 1) := by decide +kernel
theorem d_Model_prefix_41 : decode prog_14_method_69_code 41 = .ok (.iload 5, 2) := by decide +kernel
theorem d_Model_prefix_43 : decode prog_14_method_69_code 43 = .ok (.bipush 123, 2) := by decide +kernel
theorem d_Model_prefix_45 : decode prog_14_method_69_code 45 = .ok (.if_icmp .ne 7, 3) := by decide +kernel
theorem d_Model_prefix_48 : decode prog_14_method_69_code 48 = .ok (.iconst 1, 1) := by decide +kernel
theorem d_Model_prefix_49 : decode prog_14_method_69_code 49 = .ok (.goto 19, 3) := by decide +kernel
theorem d_Model_prefix_52 : decode prog_14_method_69_code 52 = .ok (.iload 5, 2) := by decide +kernel
theorem d_Model_prefix_54 : decode prog_14_method_69_code 54 = .ok (.bipush 125, 2) := by decide +kernel
theorem d_Model_prefix_56 : decode prog_14_method_69_code 56 = .ok (.if_icmp .ne 11, 3) := by decide +kernel
theorem d_Model_prefix_59 : decode prog_14_method_69_code 59 = .ok (.iload_n 2, 1) := by decide +kernel
theorem d_Model_prefix_60 : decode prog_14_method_69_code 60 = .ok (.ifCond .le 7, 3) := by decide +kernel
theorem d_Model_prefix_63 : decode prog_14_method_69_code 63 = .ok (.iconst (-1), 1) := by decide +kernel
theorem d_Model_prefix_64 : decode prog_14_method_69_code 64 = .ok (.goto 4, 3) := by decide +kernel
theorem d_Model_prefix_67 : decode prog_14_method_69_code 67 = .ok (.iconst 0, 1) := by decide +kernel
theorem d_Model_prefix_68 : decode prog_14_method_69_code 68 = .ok (.iadd, 1) := by decide +kernel
theorem d_Model_prefix_69 : decode prog_14_method_69_code 69 = .ok (.istore_n 2, 1) := by decide +kernel
theorem d_Model_prefix_70 : decode prog_14_method_69_code 70 = .ok (.iload_n 3, 1) := by decide +kernel
theorem d_Model_prefix_71 : decode prog_14_method_69_code 71 = .ok (.iload 5, 2) := by decide +kernel
theorem d_Model_prefix_73 : decode prog_14_method_69_code 73 = .ok (.bipush 123, 2) := by decide +kernel
theorem d_Model_prefix_75 : decode prog_14_method_69_code 75 = .ok (.if_icmp .eq 10, 3) := by decide +kernel
theorem d_Model_prefix_78 : decode prog_14_method_69_code 78 = .ok (.iload 5, 2) := by decide +kernel
theorem d_Model_prefix_80 : decode prog_14_method_69_code 80 = .ok (.bipush 125, 2) := by decide +kernel
theorem d_Model_prefix_82 : decode prog_14_method_69_code 82 = .ok (.if_icmp .ne 7, 3) := by decide +kernel
theorem d_Model_prefix_85 : decode prog_14_method_69_code 85 = .ok (.iconst 0, 1) := by decide +kernel
theorem d_Model_prefix_86 : decode prog_14_method_69_code 86 = .ok (.goto 4, 3) := by decide +kernel
theorem d_Model_prefix_89 : decode prog_14_method_69_code 89 = .ok (.iconst 1, 1) := by decide +kernel
theorem d_Model_prefix_90 : decode prog_14_method_69_code 90 = .ok (.iadd, 1) := by decide +kernel
theorem d_Model_prefix_91 : decode prog_14_method_69_code 91 = .ok (.istore_n 3, 1) := by decide +kernel
theorem d_Model_prefix_92 : decode prog_14_method_69_code 92 = .ok (.aload_n 0, 1) := by decide +kernel
theorem d_Model_prefix_93 : decode prog_14_method_69_code 93 = .ok (.bipush 84, 2) := by decide +kernel
theorem d_Model_prefix_95 : decode prog_14_method_69_code 95 = .ok (.iload 5, 2) := by decide +kernel
theorem d_Model_prefix_97 : decode prog_14_method_69_code 97 = .ok (.invokevirtual 124, 3) := by decide +kernel
theorem d_Model_prefix_100 : decode prog_14_method_69_code 100 = .ok (.iinc 4 1, 3) := by decide +kernel
theorem d_Model_prefix_103 : decode prog_14_method_69_code 103 = .ok (.goto (-90), 3) := by decide +kernel
theorem d_Model_prefix_106 : decode prog_14_method_69_code 106 = .ok (.iconst 0, 1) := by decide +kernel
theorem d_Model_prefix_107 : decode prog_14_method_69_code 107 = .ok (.istore 4, 2) := by decide +kernel
theorem d_Model_prefix_109 : decode prog_14_method_69_code 109 = .ok (.iload 4, 2) := by decide +kernel
theorem d_Model_prefix_111 : decode prog_14_method_69_code 111 = .ok (.iload_n 2, 1) := by decide +kernel
theorem d_Model_prefix_112 : decode prog_14_method_69_code 112 = .ok (.if_icmp .ge 17, 3) := by decide +kernel
theorem d_Model_prefix_115 : decode prog_14_method_69_code 115 = .ok (.aload_n 0, 1) := by decide +kernel
theorem d_Model_prefix_116 : decode prog_14_method_69_code 116 = .ok (.bipush 84, 2) := by decide +kernel
theorem d_Model_prefix_118 : decode prog_14_method_69_code 118 = .ok (.bipush 125, 2) := by decide +kernel
theorem d_Model_prefix_120 : decode prog_14_method_69_code 120 = .ok (.invokevirtual 124, 3) := by decide +kernel
theorem d_Model_prefix_123 : decode prog_14_method_69_code 123 = .ok (.iinc 4 1, 3) := by decide +kernel
theorem d_Model_prefix_126 : decode prog_14_method_69_code 126 = .ok (.goto (-17), 3) := by decide +kernel
theorem d_Model_prefix_129 : decode prog_14_method_69_code 129 = .ok (.return_, 1) := by decide +kernel
theorem d_Model_substring_0 : decode prog_14_method_70_code 0 = .ok (.aload_n 0, 1) := by decide +kernel
theorem d_Model_substring_1 : decode prog_14_method_70_code 1 = .ok (.bipush 84, 2) := by decide +kernel
theorem d_Model_substring_3 : decode prog_14_method_70_code 3 = .ok (.invokevirtual 120, 3) := by decide +kernel
theorem d_Model_substring_6 : decode prog_14_method_70_code 6 = .ok (.iload_n 1, 1) := by decide +kernel
theorem d_Model_substring_7 : decode prog_14_method_70_code 7 = .ok (.ifCond .eq 8, 3) := by decide +kernel
theorem d_Model_substring_10 : decode prog_14_method_70_code 10 = .ok (.iload_n 2, 1) := by decide +kernel
theorem d_Model_substring_11 : decode prog_14_method_70_code 11 = .ok (.iconst 1, 1) := by decide +kernel
theorem d_Model_substring_12 : decode prog_14_method_70_code 12 = .ok (.if_icmp .ge 4, 3) := by decide +kernel
theorem d_Model_substring_15 : decode prog_14_method_70_code 15 = .ok (.return_, 1) := by decide +kernel
theorem d_Model_substring_16 : decode prog_14_method_70_code 16 = .ok (.iload_n 1, 1) := by decide +kernel
theorem d_Model_substring_17 : decode prog_14_method_70_code 17 = .ok (.ifCond .le 10, 3) := by decide +kernel
theorem d_Model_substring_20 : decode prog_14_method_70_code 20 = .ok (.iload_n 1, 1) := by decide +kernel
theorem d_Model_substring_21 : decode prog_14_method_70_code 21 = .ok (.i2l, 1) := by decide +kernel
theorem d_Model_substring_22 : decode prog_14_method_70_code 22 = .ok (.lconst 1, 1) := by decide +kernel
theorem d_Model_substring_23 : decode prog_14_method_70_code 23 = .ok (.lsub, 1) := by decide +kernel
theorem d_Model_substring_24 : decode prog_14_method_70_code 24 = .ok (.goto 19, 3) := by decide +kernel
theorem d_Model_substring_27 : decode prog_14_method_70_code 27 = .ok (.aload_n 0, 1) := by decide +kernel
theorem d_Model_substring_28 : decode prog_14_method_70_code 28 = .ok (.getfield 16, 3) := by decide +kernel
theorem d_Model_substring_31 : decode prog_14_method_70_code 31 = .ok (.bipush 82, 2) := by decide +kernel
theorem d_Model_substring_33 : decode prog_14_method_70_code 33 = .ok (.iaload, 1) := by decide +kernel
theorem d_Model_substring_34 : decode prog_14_method_70_code 34 = .ok (.i2l, 1) := by decide +kernel
theorem d_Model_substring_35 : decode prog_14_method_70_code 35 = .ok (.iload_n 1, 1) := by decide +kernel
theorem d_Model_substring_36 : decode prog_14_method_70_code 36 = .ok (.i2l, 1) := by decide +kernel
theorem d_Model_substring_37 : decode prog_14_method_70_code 37 = .ok (.ladd, 1) := by decide +kernel
theorem d_Model_substring_38 : decode prog_14_method_70_code 38 = .ok (.iload_n 2, 1) := by decide +kernel
theorem d_Model_substring_39 : decode prog_14_method_70_code 39 = .ok (.i2l, 1) := by decide +kernel
theorem d_Model_substring_40 : decode prog_14_method_70_code 40 = .ok (.lsub, 1) := by decide +kernel
theorem d_Model_substring_41 : decode prog_14_method_70_code 41 = .ok (.lconst 1, 1) := by decide +kernel
theorem d_Model_substring_42 : decode prog_14_method_70_code 42 = .ok (.ladd, 1) := by decide +kernel
theorem d_Model_substring_43 : decode prog_14_method_70_code 43 = .ok (.lstore_n 3, 1) := by decide +kernel
theorem d_Model_substring_44 : decode prog_14_method_70_code 44 = .ok (.lload_n 3, 1) := by decide +kernel
theorem d_Model_substring_45 : decode prog_14_method_70_code 45 = .ok (.lstore 5, 2) := by decide +kernel
theorem d_Model_substring_47 : decode prog_14_method_70_code 47 = .ok (.lload 5, 2) := by decide +kernel
theorem d_Model_substring_49 : decode prog_14_method_70_code 49 = .ok (.lload_n 3, 1) := by decide +kernel
theorem d_Model_substring_50 : decode prog_14_method_70_code 50 = .ok (.iload_n 2, 1) := by decide +kernel
theorem d_Model_substring_51 : decode prog_14_method_70_code 51 = .ok (.i2l, 1) := by decide +kernel
theorem d_Model_substring_52 : decode prog_14_method_70_code 52 = .ok (.ladd, 1) := by decide +kernel
theorem d_Model_substring_53 : decode prog_14_method_70_code 53 = .ok (.lcmp, 1) := by decide +kernel
theorem d_Model_substring_54 : decode prog_14_method_70_code 54 = .ok (.ifCond .ge 75, 3) := by decide +kernel
theorem d_Model_substring_57 : decode prog_14_method_70_code 57 = .ok (.lload 5, 2) := by decide +kernel
theorem d_Model_substring_59 : decode prog_14_method_70_code 59 = .ok (.aload_n 0, 1) := by decide +kernel
theorem d_Model_substring_60 : decode prog_14_method_70_code 60 = .ok (.getfield 16, 3) := by decide +kernel
theorem d_Model_substring_63 : decode prog_14_method_70_code 63 = .ok (.bipush 82, 2) := by decide +kernel
theorem d_Model_substring_65 : decode prog_14_method_70_code 65 = .ok (.iaload, 1) := by decide +kernel
theorem d_Model_substring_66 : decode prog_14_method_70_code 66 = .ok (.i2l, 1) := by decide +kernel
theorem d_Model_substring_67 : decode prog_14_method_70_code 67 = .ok (.lcmp, 1) := by decide +kernel
theorem d_Model_substring_68 : decode prog_14_method_70_code 68 = .ok (.ifCond .ge 61, 3) := by decide +kernel
theorem d_Model_substring_71 : decode prog_14_method_70_code 71 = .ok (.lload 5, 2) := by decide +kernel
theorem d_Model_substring_73 : decode prog_14_method_70_code 73 = .ok (.lconst 0, 1) := by decide +kernel
theorem d_Model_substring_74 : decode prog_14_method_70_code 74 = .ok (.lcmp, 1) := by decide +kernel
theorem d_Model_substring_75 : decode prog_14_method_70_code 75 = .ok (.ifCond .ge 6, 3) := by decide +kernel
theorem d_Model_substring_78 : decode prog_14_method_70_code 78 = .ok (.lconst 0, 1) := by decide +kernel
theorem d_Model_substring_79 : decode prog_14_method_70_code 79 = .ok (.lstore 5, 2) := by decide +kernel
theorem d_Model_substring_81 : decode prog_14_method_70_code 81 = .ok (.lload 5, 2) := by decide +kernel
theorem d_Model_substring_83 : decode prog_14_method_70_code 83 = .ok (.lload_n 3, 1) := by decide +kernel
theorem d_Model_substring_84 : decode prog_14_method_70_code 84 = .ok (.iload_n 2, 1) := by decide +kernel
theorem d_Model_substring_85 : decode prog_14_method_70_code 85 = .ok (.i2l, 1) := by decide +kernel
theorem d_Model_substring_86 : decode prog_14_method_70_code 86 = .ok (.ladd, 1) := by decide +kernel
theorem d_Model_substring_87 : decode prog_14_method_70_code 87 = .ok (.lcmp, 1) := by decide +kernel
theorem d_Model_substring_88 : decode prog_14_method_70_code 88 = .ok (.ifCond .ge 32, 3) := by decide +kernel
theorem d_Model_substring_91 : decode prog_14_method_70_code 91 = .ok (.lload 5, 2) := by decide +kernel
theorem d_Model_substring_93 : decode prog_14_method_70_code 93 = .ok (.aload_n 0, 1) := by decide +kernel
theorem d_Model_substring_94 : decode prog_14_method_70_code 94 = .ok (.getfield 16, 3) := by decide +kernel
theorem d_Model_substring_97 : decode prog_14_method_70_code 97 = .ok (.bipush 82, 2) := by decide +kernel
theorem d_Model_substring_99 : decode prog_14_method_70_code 99 = .ok (.iaload, 1) := by decide +kernel
theorem d_Model_substring_100 : decode prog_14_method_70_code 100 = .ok (.i2l, 1) := by decide +kernel
theorem d_Model_substring_101 : decode prog_14_method_70_code 101 = .ok (.lcmp, 1) := by decide +kernel
theorem d_Model_substring_102 : decode prog_14_method_70_code 102 = .ok (.ifCond .ge 18, 3) := by decide +kernel
theorem d_Model_substring_105 : decode prog_14_method_70_code 105 = .ok (.aload_n 0, 1) := by decide +kernel
theorem d_Model_substring_106 : decode prog_14_method_70_code 106 = .ok (.bipush 84, 2) := by decide +kernel
theorem d_Model_substring_108 : decode prog_14_method_70_code 108 = .ok (.aload_n 0, 1) := by decide +kernel
theorem d_Model_substring_109 : decode prog_14_method_70_code 109 = .ok (.bipush 82, 2) := by decide +kernel
theorem d_Model_substring_111 : decode prog_14_method_70_code 111 = .ok (.lload 5, 2) := by decide +kernel
theorem d_Model_substring_113 : decode prog_14_method_70_code 113 = .ok (.l2i, 1) := by decide +kernel
theorem d_Model_substring_114 : decode prog_14_method_70_code 114 = .ok (.invokevirtual 99, 3) := by decide +kernel
theorem d_Model_substring_117 : decode prog_14_method_70_code 117 = .ok (.invokevirtual 124, 3) := by decide +kernel
theorem d_Model_substring_120 : decode prog_14_method_70_code 120 = .ok (.lload 5, 2) := by decide +kernel
theorem d_Model_substring_122 : decode prog_14_method_70_code 122 = .ok (.lconst 1, 1) := by decide +kernel
theorem d_Model_substring_123 : decode prog_14_method_70_code 123 = .ok (.ladd, 1) := by decide +kernel
theorem d_Model_substring_124 : decode prog_14_method_70_code 124 = .ok (.lstore 5, 2) := by decide +kernel
theorem d_Model_substring_126 : decode prog_14_method_70_code 126 = .ok (.goto (-79), 3) := by decide +kernel
theorem d_Model_substring_129 : decode prog_14_method_70_code 129 = .ok (.return_, 1) := by decide +kernel
theorem d_Model_ended_0 : decode prog_14_method_85_code 0 = .ok (.aload_n 0, 1) := by decide +kernel
theorem d_Model_ended_1 : decode prog_14_method_85_code 1 = .ok (.dup, 1) := by decide +kernel
theorem d_Model_ended_2 : decode prog_14_method_85_code 2 = .ok (.getfield 383, 3) := by decide +kernel
theorem d_Model_ended_5 : decode prog_14_method_85_code 5 = .ok (.iconst 1, 1) := by decide +kernel
theorem d_Model_ended_6 : decode prog_14_method_85_code 6 = .ok (.isub, 1) := by decide +kernel
theorem d_Model_ended_7 : decode prog_14_method_85_code 7 = .ok (.putfield 383, 3) := by decide +kernel
theorem d_Model_ended_10 : decode prog_14_method_85_code 10 = .ok (.aload_n 0, 1) := by decide +kernel
theorem d_Model_ended_11 : decode prog_14_method_85_code 11 = .ok (.getfield 71, 3) := by decide +kernel
theorem d_Model_ended_14 : decode prog_14_method_85_code 14 = .ok (.aload_n 0, 1) := by decide +kernel
theorem d_Model_ended_15 : decode prog_14_method_85_code 15 = .ok (.getfield 383, 3) := by decide +kernel
theorem d_Model_ended_18 : decode prog_14_method_85_code 18 = .ok (.laload, 1) := by decide +kernel
theorem d_Model_ended_19 : decode prog_14_method_85_code 19 = .ok (.lstore_n 1, 1) := by decide +kernel
theorem d_Model_ended_20 : decode prog_14_method_85_code 20 = .ok (.aload_n 0, 1) := by decide +kernel
theorem d_Model_ended_21 : decode prog_14_method_85_code 21 = .ok (.getfield 68, 3) := by decide +kernel
theorem d_Model_ended_24 : decode prog_14_method_85_code 24 = .ok (.aload_n 0, 1) := by decide +kernel
theorem d_Model_ended_25 : decode prog_14_method_85_code 25 = .ok (.getfield 383, 3) := by decide +kernel
theorem d_Model_ended_28 : decode prog_14_method_85_code 28 = .ok (.iaload, 1) := by decide +kernel
theorem d_Model_ended_29 : decode prog_14_method_85_code 29 = .ok (.iconst 1, 1) := by decide +kernel
theorem d_Model_ended_30 : decode prog_14_method_85_code 30 = .ok (.if_icmp .ne 25, 3) := by decide +kernel
theorem d_Model_ended_33 : decode prog_14_method_85_code 33 = .ok (.aload_n 0, 1) := by decide +kernel
theorem d_Model_ended_34 : decode prog_14_method_85_code 34 = .ok (.invokevirtual 292, 3) := by decide +kernel
theorem d_Model_ended_37 : decode prog_14_method_85_code 37 = .ok (.ifCond .le 18, 3) := by decide +kernel
theorem d_Model_ended_40 : decode prog_14_method_85_code 40 = .ok (.aload_n 0, 1) := by decide +kernel
theorem d_Model_ended_41 : decode prog_14_method_85_code 41 = .ok (.lload_n 1, 1) := by decide +kernel
theorem d_Model_ended_42 : decode prog_14_method_85_code 42 = .ok (.ldc2_w 392, 3) := by decide +kernel
theorem d_Model_ended_45 : decode prog_14_method_85_code 45 = .ok (.lrem, 1) := by decide +kernel
theorem d_Model_ended_46 : decode prog_14_method_85_code 46 = .ok (.l2i, 1) := by decide +kernel
theorem d_Model_ended_47 : decode prog_14_method_85_code 47 = .ok (.iconst 2, 1) := by decide +kernel
theorem d_Model_ended_48 : decode prog_14_method_85_code 48 = .ok (.lload_n 1, 1) := by decide +kernel
theorem d_Model_ended_49 : decode prog_14_method_85_code 49 = .ok (.invokevirtual 394, 3) := by decide +kernel
theorem d_Model_ended_52 : decode prog_14_method_85_code 52 = .ok (.goto 32, 3) := by decide +kernel
theorem d_Model_ended_55 : decode prog_14_method_85_code 55 = .ok (.aload_n 0, 1) := by decide +kernel
theorem d_Model_ended_56 : decode prog_14_method_85_code 56 = .ok (.getfield 68, 3) := by decide +kernel
theorem d_Model_ended_59 : decode prog_14_method_85_code 59 = .ok (.aload_n 0, 1) := by decide +kernel
theorem d_Model_ended_60 : decode prog_14_method_85_code 60 = .ok (.getfield 383, 3) := by decide +kernel
theorem d_Model_ended_63 : decode prog_14_method_85_code 63 = .ok (.iaload, 1) := by decide +kernel
theorem d_Model_ended_64 : decode prog_14_method_85_code 64 = .ok (.iconst 2, 1) := by decide +kernel
theorem d_Model_ended_65 : decode prog_14_method_85_code 65 = .ok (.if_icmp .ne 19, 3) := by decide +kernel
theorem d_Model_ended_68 : decode prog_14_method_85_code 68 = .ok (.aload_n 0, 1) := by decide +kernel
theorem d_Model_ended_69 : decode prog_14_method_85_code 69 = .ok (.lload_n 1, 1) := by decide +kernel
theorem d_Model_ended_70 : decode prog_14_method_85_code 70 = .ok (.ldc2_w 392, 3) := by decide +kernel
theorem d_Model_ended_73 : decode prog_14_method_85_code 73 = .ok (.ldiv, 1) := by decide +kernel
theorem d_Model_ended_74 : decode prog_14_method_85_code 74 = .ok (.ldc2_w 392, 3) := by decide +kernel
theorem d_Model_ended_77 : decode prog_14_method_85_code 77 = .ok (.lrem, 1) := by decide +kernel
theorem d_Model_ended_78 : decode prog_14_method_85_code 78 = .ok (.l2i, 1) := by decide +kernel
theorem d_Model_ended_79 : decode prog_14_method_85_code 79 = .ok (.iconst 1, 1) := by decide +kernel
theorem d_Model_ended_80 : decode prog_14_method_85_code 80 = .ok (.lload_n 1, 1) := by decide +kernel
theorem d_Model_ended_81 : decode prog_14_method_85_code 81 = .ok (.invokevirtual 394, 3) := by decide +kernel
theorem d_Model_ended_84 : decode prog_14_method_85_code 84 = .ok (.return_, 1) := by decide +kernel
theorem d_Model_depth_0 : decode prog_14_method_88_code 0 = .ok (.aload_n 0, 1) := by decide +kernel
theorem d_Model_depth_1 : decode prog_14_method_88_code 1 = .ok (.iconst 0, 1) := by decide +kernel
theorem d_Model_depth_2 : decode prog_14_method_88_code 2 = .ok (.putfield 95, 3) := by decide +kernel
theorem d_Model_depth_5 : decode prog_14_method_88_code 5 = .ok (.aload_n 0, 1) := by decide +kernel
theorem d_Model_depth_6 : decode prog_14_method_88_code 6 = .ok (.getfield 250, 3) := by decide +kernel
theorem d_Model_depth_9 : decode prog_14_method_88_code 9 = .ok (.ireturn, 1) := by decide +kernel
theorem d_Model_kind_0 : decode prog_14_method_90_code 0 = .ok (.aload_n 0, 1) := by decide +kernel
theorem d_Model_kind_1 : decode prog_14_method_90_code 1 = .ok (.iconst 0, 1) := by decide +kernel
theorem d_Model_kind_2 : decode prog_14_method_90_code 2 = .ok (.putfield 95, 3) := by decide +kernel
theorem d_Model_kind_5 : decode prog_14_method_90_code 5 = .ok (.aload_n 0, 1) := by decide +kernel
theorem d_Model_kind_6 : decode prog_14_method_90_code 6 = .ok (.iload_n 1, 1) := by decide +kernel
theorem d_Model_kind_7 : decode prog_14_method_90_code 7 = .ok (.invokevirtual 417, 3) := by decide +kernel
theorem d_Model_kind_10 : decode prog_14_method_90_code 10 = .ok (.ifCond .eq 11, 3) := by decide +kernel
theorem d_Model_kind_13 : decode prog_14_method_90_code 13 = .ok (.aload_n 0, 1) := by decide +kernel
theorem d_Model_kind_14 : decode prog_14_method_90_code 14 = .ok (.iconst 1, 1) := by decide +kernel
theorem d_Model_kind_15 : decode prog_14_method_90_code 15 = .ok (.invokevirtual 128, 3) := by decide +kernel
theorem d_Model_kind_18 : decode prog_14_method_90_code 18 = .ok (.goto 16, 3) := by decide +kernel
theorem d_Model_kind_21 : decode prog_14_method_90_code 21 = .ok (.aload_n 0, 1) := by decide +kernel
theorem d_Model_kind_22 : decode prog_14_method_90_code 22 = .ok (.getfield 56, 3) := by decide +kernel
theorem d_Model_kind_25 : decode prog_14_method_90_code 25 = .ok (.aload_n 0, 1) := by decide +kernel
theorem d_Model_kind_26 : decode prog_14_method_90_code 26 = .ok (.getfield 250, 3) := by decide +kernel
theorem d_Model_kind_29 : decode prog_14_method_90_code 29 = .ok (.iconst 1, 1) := by decide +kernel
theorem d_Model_kind_30 : decode prog_14_method_90_code 30 = .ok (.isub, 1) := by decide +kernel
theorem d_Model_kind_31 : decode prog_14_method_90_code 31 = .ok (.iload_n 1, 1) := by decide +kernel
theorem d_Model_kind_32 : decode prog_14_method_90_code 32 = .ok (.isub, 1) := by decide +kernel
theorem d_Model_kind_33 : decode prog_14_method_90_code 33 = .ok (.iaload, 1) := by decide +kernel
theorem d_Model_kind_34 : decode prog_14_method_90_code 34 = .ok (.ireturn, 1) := by decide +kernel
theorem d_Model_none_0 : decode prog_14_method_89_code 0 = .ok (.iload_n 1, 1) := by decide +kernel
theorem d_Model_none_1 : decode prog_14_method_89_code 1 = .ok (.iconst 0, 1) := by decide +kernel
theorem d_Model_none_2 : decode prog_14_method_89_code 2 = .ok (.aload_n 0, 1) := by decide +kernel
theorem d_Model_none_3 : decode prog_14_method_89_code 3 = .ok (.getfield 250, 3) := by decide +kernel
theorem d_Model_none_6 : decode prog_14_method_89_code 6 = .ok (.iconst 1, 1) := by decide +kernel
theorem d_Model_none_7 : decode prog_14_method_89_code 7 = .ok (.isub, 1) := by decide +kernel
theorem d_Model_none_8 : decode prog_14_method_89_code 8 = .ok (.invokestatic 103, 3) := by decide +kernel
theorem d_Model_none_11 : decode prog_14_method_89_code 11 = .ok (.ifCond .ne 7, 3) := by decide +kernel
theorem d_Model_none_14 : decode prog_14_method_89_code 14 = .ok (.iconst 1, 1) := by decide +kernel
theorem d_Model_none_15 : decode prog_14_method_89_code 15 = .ok (.goto 4, 3) := by decide +kernel
theorem d_Model_none_18 : decode prog_14_method_89_code 18 = .ok (.iconst 0, 1) := by decide +kernel
theorem d_Model_none_19 : decode prog_14_method_89_code 19 = .ok (.ireturn, 1) := by decide +kernel
theorem d_Model_value_0 : decode prog_14_method_91_code 0 = .ok (.aload_n 0, 1) := by decide +kernel
theorem d_Model_value_1 : decode prog_14_method_91_code 1 = .ok (.iconst 0, 1) := by decide +kernel
theorem d_Model_value_2 : decode prog_14_method_91_code 2 = .ok (.putfield 95, 3) := by decide +kernel
theorem d_Model_value_5 : decode prog_14_method_91_code 5 = .ok (.aload_n 0, 1) := by decide +kernel
theorem d_Model_value_6 : decode prog_14_method_91_code 6 = .ok (.iload_n 1, 1) := by decide +kernel
theorem d_Model_value_7 : decode prog_14_method_91_code 7 = .ok (.invokevirtual 417, 3) := by decide +kernel
theorem d_Model_value_10 : decode prog_14_method_91_code 10 = .ok (.ifCond .eq 9, 3) := by decide +kernel
theorem d_Model_value_13 : decode prog_14_method_91_code 13 = .ok (.aload_n 0, 1) := by decide +kernel
theorem d_Model_value_14 : decode prog_14_method_91_code 14 = .ok (.iconst 1, 1) := by decide +kernel
theorem d_Model_value_15 : decode prog_14_method_91_code 15 = .ok (.invokevirtual 128, 3) := by decide +kernel
theorem d_Model_value_18 : decode prog_14_method_91_code 18 = .ok (.ireturn, 1) := by decide +kernel
theorem d_Model_value_19 : decode prog_14_method_91_code 19 = .ok (.aload_n 0, 1) := by decide +kernel
theorem d_Model_value_20 : decode prog_14_method_91_code 20 = .ok (.getfield 250, 3) := by decide +kernel
theorem d_Model_value_23 : decode prog_14_method_91_code 23 = .ok (.iconst 1, 1) := by decide +kernel
theorem d_Model_value_24 : decode prog_14_method_91_code 24 = .ok (.isub, 1) := by decide +kernel
theorem d_Model_value_25 : decode prog_14_method_91_code 25 = .ok (.iload_n 1, 1) := by decide +kernel
theorem d_Model_value_26 : decode prog_14_method_91_code 26 = .ok (.isub, 1) := by decide +kernel
theorem d_Model_value_27 : decode prog_14_method_91_code 27 = .ok (.istore_n 2, 1) := by decide +kernel
theorem d_Model_value_28 : decode prog_14_method_91_code 28 = .ok (.aload_n 0, 1) := by decide +kernel
theorem d_Model_value_29 : decode prog_14_method_91_code 29 = .ok (.getfield 56, 3) := by decide +kernel
theorem d_Model_value_32 : decode prog_14_method_91_code 32 = .ok (.iload_n 2, 1) := by decide +kernel
theorem d_Model_value_33 : decode prog_14_method_91_code 33 = .ok (.iaload, 1) := by decide +kernel
theorem d_Model_value_34 : decode prog_14_method_91_code 34 = .ok (.ifCond .ne 12, 3) := by decide +kernel
theorem d_Model_value_37 : decode prog_14_method_91_code 37 = .ok (.aload_n 0, 1) := by decide +kernel
theorem d_Model_value_38 : decode prog_14_method_91_code 38 = .ok (.getfield 59, 3) := by decide +kernel
theorem d_Model_value_41 : decode prog_14_method_91_code 41 = .ok (.iload_n 2, 1) := by decide +kernel
theorem d_Model_value_42 : decode prog_14_method_91_code 42 = .ok (.iaload, 1) := by decide +kernel
theorem d_Model_value_43 : decode prog_14_method_91_code 43 = .ok (.goto 26, 3) := by decide +kernel
theorem d_Model_value_46 : decode prog_14_method_91_code 46 = .ok (.aload_n 0, 1) := by decide +kernel
theorem d_Model_value_47 : decode prog_14_method_91_code 47 = .ok (.getfield 56, 3) := by decide +kernel
theorem d_Model_value_50 : decode prog_14_method_91_code 50 = .ok (.iload_n 2, 1) := by decide +kernel
theorem d_Model_value_51 : decode prog_14_method_91_code 51 = .ok (.iaload, 1) := by decide +kernel
theorem d_Model_value_52 : decode prog_14_method_91_code 52 = .ok (.iconst 1, 1) := by decide +kernel
theorem d_Model_value_53 : decode prog_14_method_91_code 53 = .ok (.if_icmp .ne 15, 3) := by decide +kernel
theorem d_Model_value_56 : decode prog_14_method_91_code 56 = .ok (.aload_n 0, 1) := by decide +kernel
theorem d_Model_value_57 : decode prog_14_method_91_code 57 = .ok (.getfield 16, 3) := by decide +kernel
theorem d_Model_value_60 : decode prog_14_method_91_code 60 = .ok (.bipush 70, 2) := by decide +kernel
theorem d_Model_value_62 : decode prog_14_method_91_code 62 = .ok (.iload_n 2, 1) := by decide +kernel
theorem d_Model_value_63 : decode prog_14_method_91_code 63 = .ok (.iadd, 1) := by decide +kernel
theorem d_Model_value_64 : decode prog_14_method_91_code 64 = .ok (.iaload, 1) := by decide +kernel
theorem d_Model_value_65 : decode prog_14_method_91_code 65 = .ok (.goto 4, 3) := by decide +kernel
theorem d_Model_value_68 : decode prog_14_method_91_code 68 = .ok (.iconst 0, 1) := by decide +kernel
theorem d_Model_value_69 : decode prog_14_method_91_code 69 = .ok (.ireturn, 1) := by decide +kernel
theorem d_Model_letter_0 : decode prog_14_method_92_code 0 = .ok (.aload_n 0, 1) := by decide +kernel
theorem d_Model_letter_1 : decode prog_14_method_92_code 1 = .ok (.iconst 0, 1) := by decide +kernel
theorem d_Model_letter_2 : decode prog_14_method_92_code 2 = .ok (.putfield 95, 3) := by decide +kernel
theorem d_Model_letter_5 : decode prog_14_method_92_code 5 = .ok (.aload_n 0, 1) := by decide +kernel
theorem d_Model_letter_6 : decode prog_14_method_92_code 6 = .ok (.iload_n 1, 1) := by decide +kernel
theorem d_Model_letter_7 : decode prog_14_method_92_code 7 = .ok (.invokevirtual 417, 3) := by decide +kernel
theorem d_Model_letter_10 : decode prog_14_method_92_code 10 = .ok (.ifCond .ne 20, 3) := by decide +kernel
theorem d_Model_letter_13 : decode prog_14_method_92_code 13 = .ok (.aload_n 0, 1) := by decide +kernel
theorem d_Model_letter_14 : decode prog_14_method_92_code 14 = .ok (.getfield 56, 3) := by decide +kernel
theorem d_Model_letter_17 : decode prog_14_method_92_code 17 = .ok (.aload_n 0, 1) := by decide +kernel
theorem d_Model_letter_18 : decode prog_14_method_92_code 18 = .ok (.getfield 250, 3) := by decide +kernel
theorem d_Model_letter_21 : decode prog_14_method_92_code 21 = .ok (.iconst 1, 1) := by decide +kernel
theorem d_Model_letter_22 : decode prog_14_method_92_code 22 = .ok (.isub, 1) := by decide +kernel
theorem d_Model_letter_23 : decode prog_14_method_92_code 23 = .ok (.iload_n 1, 1) := by decide +kernel
theorem d_Model_letter_24 : decode prog_14_method_92_code 24 = .ok (.isub, 1) := by decide +kernel
theorem d_Model_letter_25 : decode prog_14_method_92_code 25 = .ok (.iaload, 1) := by decide +kernel
theorem d_Model_letter_26 : decode prog_14_method_92_code 26 = .ok (.iconst 1, 1) := by decide +kernel
theorem d_Model_letter_27 : decode prog_14_method_92_code 27 = .ok (.if_icmp .eq 9, 3) := by decide +kernel
theorem d_Model_letter_30 : decode prog_14_method_92_code 30 = .ok (.aload_n 0, 1) := by decide +kernel
theorem d_Model_letter_31 : decode prog_14_method_92_code 31 = .ok (.iconst 1, 1) := by decide +kernel
theorem d_Model_letter_32 : decode prog_14_method_92_code 32 = .ok (.invokevirtual 128, 3) := by decide +kernel
theorem d_Model_letter_35 : decode prog_14_method_92_code 35 = .ok (.ireturn, 1) := by decide +kernel
theorem d_Model_letter_36 : decode prog_14_method_92_code 36 = .ok (.bipush 70, 2) := by decide +kernel
theorem d_Model_letter_38 : decode prog_14_method_92_code 38 = .ok (.aload_n 0, 1) := by decide +kernel
theorem d_Model_letter_39 : decode prog_14_method_92_code 39 = .ok (.getfield 250, 3) := by decide +kernel
theorem d_Model_letter_42 : decode prog_14_method_92_code 42 = .ok (.iadd, 1) := by decide +kernel
theorem d_Model_letter_43 : decode prog_14_method_92_code 43 = .ok (.iconst 1, 1) := by decide +kernel
theorem d_Model_letter_44 : decode prog_14_method_92_code 44 = .ok (.isub, 1) := by decide +kernel
theorem d_Model_letter_45 : decode prog_14_method_92_code 45 = .ok (.iload_n 1, 1) := by decide +kernel
theorem d_Model_letter_46 : decode prog_14_method_92_code 46 = .ok (.isub, 1) := by decide +kernel
theorem d_Model_letter_47 : decode prog_14_method_92_code 47 = .ok (.istore_n 3, 1) := by decide +kernel
theorem d_Model_letter_48 : decode prog_14_method_92_code 48 = .ok (.iload_n 2, 1) := by decide +kernel
theorem d_Model_letter_49 : decode prog_14_method_92_code 49 = .ok (.iconst 0, 1) := by decide +kernel
theorem d_Model_letter_50 : decode prog_14_method_92_code 50 = .ok (.aload_n 0, 1) := by decide +kernel
theorem d_Model_letter_51 : decode prog_14_method_92_code 51 = .ok (.getfield 16, 3) := by decide +kernel
theorem d_Model_letter_54 : decode prog_14_method_92_code 54 = .ok (.iload_n 3, 1) := by decide +kernel
theorem d_Model_letter_55 : decode prog_14_method_92_code 55 = .ok (.iaload, 1) := by decide +kernel
theorem d_Model_letter_56 : decode prog_14_method_92_code 56 = .ok (.iconst 1, 1) := by decide +kernel
theorem d_Model_letter_57 : decode prog_14_method_92_code 57 = .ok (.isub, 1) := by decide +kernel
theorem d_Model_letter_58 : decode prog_14_method_92_code 58 = .ok (.invokestatic 103, 3) := by decide +kernel
theorem d_Model_letter_61 : decode prog_14_method_92_code 61 = .ok (.ifCond .eq 12, 3) := by decide +kernel
theorem d_Model_letter_64 : decode prog_14_method_92_code 64 = .ok (.aload_n 0, 1) := by decide +kernel
theorem d_Model_letter_65 : decode prog_14_method_92_code 65 = .ok (.iload_n 3, 1) := by decide +kernel
theorem d_Model_letter_66 : decode prog_14_method_92_code 66 = .ok (.iload_n 2, 1) := by decide +kernel
theorem d_Model_letter_67 : decode prog_14_method_92_code 67 = .ok (.invokevirtual 99, 3) := by decide +kernel
theorem d_Model_letter_70 : decode prog_14_method_92_code 70 = .ok (.goto 8, 3) := by decide +kernel
theorem d_Model_letter_73 : decode prog_14_method_92_code 73 = .ok (.aload_n 0, 1) := by decide +kernel
theorem d_Model_letter_74 : decode prog_14_method_92_code 74 = .ok (.iconst 1, 1) := by decide +kernel
theorem d_Model_letter_75 : decode prog_14_method_92_code 75 = .ok (.invokevirtual 128, 3) := by decide +kernel
theorem d_Model_letter_78 : decode prog_14_method_92_code 78 = .ok (.ireturn, 1) := by decide +kernel
theorem d_Model_empty_0 : decode prog_14_method_93_code 0 = .ok (.aload_n 0, 1) := by decide +kernel
theorem d_Model_empty_1 : decode prog_14_method_93_code 1 = .ok (.iconst 0, 1) := by decide +kernel
theorem d_Model_empty_2 : decode prog_14_method_93_code 2 = .ok (.putfield 95, 3) := by decide +kernel
theorem d_Model_empty_5 : decode prog_14_method_93_code 5 = .ok (.aload_n 0, 1) := by decide +kernel
theorem d_Model_empty_6 : decode prog_14_method_93_code 6 = .ok (.getfield 250, 3) := by decide +kernel
theorem d_Model_empty_9 : decode prog_14_method_93_code 9 = .ok (.istore_n 1, 1) := by decide +kernel
theorem d_Model_empty_10 : decode prog_14_method_93_code 10 = .ok (.aload_n 0, 1) := by decide +kernel
theorem d_Model_empty_11 : decode prog_14_method_93_code 11 = .ok (.iconst 0, 1) := by decide +kernel
theorem d_Model_empty_12 : decode prog_14_method_93_code 12 = .ok (.putfield 250, 3) := by decide +kernel
theorem d_Model_empty_15 : decode prog_14_method_93_code 15 = .ok (.iload_n 1, 1) := by decide +kernel
theorem d_Model_empty_16 : decode prog_14_method_93_code 16 = .ok (.ireturn, 1) := by decide +kernel
theorem d_Model_line_0 : decode prog_14_method_94_code 0 = .ok (.aload_n 0, 1) := by decide +kernel
theorem d_Model_line_1 : decode prog_14_method_94_code 1 = .ok (.iconst 0, 1) := by decide +kernel
theorem d_Model_line_2 : decode prog_14_method_94_code 2 = .ok (.putfield 95, 3) := by decide +kernel
theorem d_Model_line_5 : decode prog_14_method_94_code 5 = .ok (.iload_n 1, 1) := by decide +kernel
theorem d_Model_line_6 : decode prog_14_method_94_code 6 = .ok (.iconst 0, 1) := by decide +kernel
theorem d_Model_line_7 : decode prog_14_method_94_code 7 = .ok (.bipush 23, 2) := by decide +kernel
theorem d_Model_line_9 : decode prog_14_method_94_code 9 = .ok (.invokestatic 103, 3) := by decide +kernel
theorem d_Model_line_12 : decode prog_14_method_94_code 12 = .ok (.ifCond .eq 11, 3) := by decide +kernel
theorem d_Model_line_15 : decode prog_14_method_94_code 15 = .ok (.iload_n 1, 1) := by decide +kernel
theorem d_Model_line_16 : decode prog_14_method_94_code 16 = .ok (.aload_n 0, 1) := by decide +kernel
theorem d_Model_line_17 : decode prog_14_method_94_code 17 = .ok (.getfield 377, 3) := by decide +kernel
theorem d_Model_line_20 : decode prog_14_method_94_code 20 = .ok (.if_icmp .lt 9, 3) := by decide +kernel
theorem d_Model_line_23 : decode prog_14_method_94_code 23 = .ok (.aload_n 0, 1) := by decide +kernel
theorem d_Model_line_24 : decode prog_14_method_94_code 24 = .ok (.iconst 1, 1) := by decide +kernel
theorem d_Model_line_25 : decode prog_14_method_94_code 25 = .ok (.invokevirtual 128, 3) := by decide +kernel
theorem d_Model_line_28 : decode prog_14_method_94_code 28 = .ok (.ireturn, 1) := by decide +kernel
theorem d_Model_line_29 : decode prog_14_method_94_code 29 = .ok (.iload_n 2, 1) := by decide +kernel
theorem d_Model_line_30 : decode prog_14_method_94_code 30 = .ok (.iconst 0, 1) := by decide +kernel
theorem d_Model_line_31 : decode prog_14_method_94_code 31 = .ok (.aload_n 0, 1) := by decide +kernel
theorem d_Model_line_32 : decode prog_14_method_94_code 32 = .ok (.getfield 89, 3) := by decide +kernel
theorem d_Model_line_35 : decode prog_14_method_94_code 35 = .ok (.iload_n 1, 1) := by decide +kernel
theorem d_Model_line_36 : decode prog_14_method_94_code 36 = .ok (.iaload, 1) := by decide +kernel
theorem d_Model_line_37 : decode prog_14_method_94_code 37 = .ok (.iconst 1, 1) := by decide +kernel
theorem d_Model_line_38 : decode prog_14_method_94_code 38 = .ok (.isub, 1) := by decide +kernel
theorem d_Model_line_39 : decode prog_14_method_94_code 39 = .ok (.invokestatic 103, 3) := by decide +kernel
theorem d_Model_line_42 : decode prog_14_method_94_code 42 = .ok (.ifCond .eq 18, 3) := by decide +kernel
theorem d_Model_line_45 : decode prog_14_method_94_code 45 = .ok (.aload_n 0, 1) := by decide +kernel
theorem d_Model_line_46 : decode prog_14_method_94_code 46 = .ok (.getfield 92, 3) := by decide +kernel
theorem d_Model_line_49 : decode prog_14_method_94_code 49 = .ok (.sipush 180, 3) := by decide +kernel
theorem d_Model_line_52 : decode prog_14_method_94_code 52 = .ok (.iload_n 1, 1) := by decide +kernel
theorem d_Model_line_53 : decode prog_14_method_94_code 53 = .ok (.imul, 1) := by decide +kernel
theorem d_Model_line_54 : decode prog_14_method_94_code 54 = .ok (.iload_n 2, 1) := by decide +kernel
theorem d_Model_line_55 : decode prog_14_method_94_code 55 = .ok (.iadd, 1) := by decide +kernel
theorem d_Model_line_56 : decode prog_14_method_94_code 56 = .ok (.iaload, 1) := by decide +kernel
theorem d_Model_line_57 : decode prog_14_method_94_code 57 = .ok (.goto 8, 3) := by decide +kernel
theorem d_Model_line_60 : decode prog_14_method_94_code 60 = .ok (.aload_n 0, 1) := by decide +kernel
theorem d_Model_line_61 : decode prog_14_method_94_code 61 = .ok (.iconst 2, 1) := by decide +kernel
theorem d_Model_line_62 : decode prog_14_method_94_code 62 = .ok (.invokevirtual 128, 3) := by decide +kernel
theorem d_Model_line_65 : decode prog_14_method_94_code 65 = .ok (.ireturn, 1) := by decide +kernel
theorem d_Model_count_0 : decode prog_14_method_95_code 0 = .ok (.aload_n 0, 1) := by decide +kernel
theorem d_Model_count_1 : decode prog_14_method_95_code 1 = .ok (.iconst 0, 1) := by decide +kernel
theorem d_Model_count_2 : decode prog_14_method_95_code 2 = .ok (.putfield 95, 3) := by decide +kernel
theorem d_Model_count_5 : decode prog_14_method_95_code 5 = .ok (.iload_n 1, 1) := by decide +kernel
theorem d_Model_count_6 : decode prog_14_method_95_code 6 = .ok (.iconst 0, 1) := by decide +kernel
theorem d_Model_count_7 : decode prog_14_method_95_code 7 = .ok (.iconst 4, 1) := by decide +kernel
theorem d_Model_count_8 : decode prog_14_method_95_code 8 = .ok (.invokestatic 103, 3) := by decide +kernel
theorem d_Model_count_11 : decode prog_14_method_95_code 11 = .ok (.ifCond .ne 9, 3) := by decide +kernel
theorem d_Model_count_14 : decode prog_14_method_95_code 14 = .ok (.aload_n 0, 1) := by decide +kernel
theorem d_Model_count_15 : decode prog_14_method_95_code 15 = .ok (.iconst 1, 1) := by decide +kernel
theorem d_Model_count_16 : decode prog_14_method_95_code 16 = .ok (.invokevirtual 128, 3) := by decide +kernel
theorem d_Model_count_19 : decode prog_14_method_95_code 19 = .ok (.ireturn, 1) := by decide +kernel
theorem d_Model_count_20 : decode prog_14_method_95_code 20 = .ok (.iload_n 1, 1) := by decide +kernel
theorem d_Model_count_21 : decode prog_14_method_95_code 21 = .ok (.ifCond .ne 10, 3) := by decide +kernel
theorem d_Model_count_24 : decode prog_14_method_95_code 24 = .ok (.aload_n 0, 1) := by decide +kernel
theorem d_Model_count_25 : decode prog_14_method_95_code 25 = .ok (.getfield 201, 3) := by decide +kernel
theorem d_Model_count_28 : decode prog_14_method_95_code 28 = .ok (.goto 43, 3) := by decide +kernel
theorem d_Model_count_31 : decode prog_14_method_95_code 31 = .ok (.iload_n 1, 1) := by decide +kernel
theorem d_Model_count_32 : decode prog_14_method_95_code 32 = .ok (.iconst 1, 1) := by decide +kernel
theorem d_Model_count_33 : decode prog_14_method_95_code 33 = .ok (.if_icmp .ne 10, 3) := by decide +kernel
theorem d_Model_count_36 : decode prog_14_method_95_code 36 = .ok (.aload_n 0, 1) := by decide +kernel
theorem d_Model_count_37 : decode prog_14_method_95_code 37 = .ok (.getfield 210, 3) := by decide +kernel
theorem d_Model_count_40 : decode prog_14_method_95_code 40 = .ok (.goto 31, 3) := by decide +kernel
theorem d_Model_count_43 : decode prog_14_method_95_code 43 = .ok (.iload_n 1, 1) := by decide +kernel
theorem d_Model_count_44 : decode prog_14_method_95_code 44 = .ok (.iconst 2, 1) := by decide +kernel
theorem d_Model_count_45 : decode prog_14_method_95_code 45 = .ok (.if_icmp .ne 10, 3) := by decide +kernel
theorem d_Model_count_48 : decode prog_14_method_95_code 48 = .ok (.aload_n 0, 1) := by decide +kernel
theorem d_Model_count_49 : decode prog_14_method_95_code 49 = .ok (.getfield 377, 3) := by decide +kernel
theorem d_Model_count_52 : decode prog_14_method_95_code 52 = .ok (.goto 19, 3) := by decide +kernel
theorem d_Model_count_55 : decode prog_14_method_95_code 55 = .ok (.iload_n 1, 1) := by decide +kernel
theorem d_Model_count_56 : decode prog_14_method_95_code 56 = .ok (.iconst 3, 1) := by decide +kernel
theorem d_Model_count_57 : decode prog_14_method_95_code 57 = .ok (.if_icmp .ne 10, 3) := by decide +kernel
theorem d_Model_count_60 : decode prog_14_method_95_code 60 = .ok (.aload_n 0, 1) := by decide +kernel
theorem d_Model_count_61 : decode prog_14_method_95_code 61 = .ok (.getfield 316, 3) := by decide +kernel
theorem d_Model_count_64 : decode prog_14_method_95_code 64 = .ok (.goto 7, 3) := by decide +kernel
theorem d_Model_count_67 : decode prog_14_method_95_code 67 = .ok (.aload_n 0, 1) := by decide +kernel
theorem d_Model_count_68 : decode prog_14_method_95_code 68 = .ok (.getfield 228, 3) := by decide +kernel
theorem d_Model_count_71 : decode prog_14_method_95_code 71 = .ok (.ireturn, 1) := by decide +kernel
theorem d_Model_warnings_0 : decode prog_14_method_96_code 0 = .ok (.aload_n 0, 1) := by decide +kernel
theorem d_Model_warnings_1 : decode prog_14_method_96_code 1 = .ok (.iconst 0, 1) := by decide +kernel
theorem d_Model_warnings_2 : decode prog_14_method_96_code 2 = .ok (.putfield 95, 3) := by decide +kernel
theorem d_Model_warnings_5 : decode prog_14_method_96_code 5 = .ok (.iload_n 1, 1) := by decide +kernel
theorem d_Model_warnings_6 : decode prog_14_method_96_code 6 = .ok (.iconst 1, 1) := by decide +kernel
theorem d_Model_warnings_7 : decode prog_14_method_96_code 7 = .ok (.bipush 9, 2) := by decide +kernel
theorem d_Model_warnings_9 : decode prog_14_method_96_code 9 = .ok (.invokestatic 103, 3) := by decide +kernel
theorem d_Model_warnings_12 : decode prog_14_method_96_code 12 = .ok (.ifCond .eq 12, 3) := by decide +kernel
theorem d_Model_warnings_15 : decode prog_14_method_96_code 15 = .ok (.aload_n 0, 1) := by decide +kernel
theorem d_Model_warnings_16 : decode prog_14_method_96_code 16 = .ok (.getfield 7, 3) := by decide +kernel
theorem d_Model_warnings_19 : decode prog_14_method_96_code 19 = .ok (.iload_n 1, 1) := by decide +kernel
theorem d_Model_warnings_20 : decode prog_14_method_96_code 20 = .ok (.iaload, 1) := by decide +kernel
theorem d_Model_warnings_21 : decode prog_14_method_96_code 21 = .ok (.goto 8, 3) := by decide +kernel
theorem d_Model_warnings_24 : decode prog_14_method_96_code 24 = .ok (.aload_n 0, 1) := by decide +kernel
theorem d_Model_warnings_25 : decode prog_14_method_96_code 25 = .ok (.iconst 1, 1) := by decide +kernel
theorem d_Model_warnings_26 : decode prog_14_method_96_code 26 = .ok (.invokevirtual 128, 3) := by decide +kernel
theorem d_Model_warnings_29 : decode prog_14_method_96_code 29 = .ok (.ireturn, 1) := by decide +kernel
theorem d_Law_write_0 : decode method_3_code 0 = .ok (.aload 4, 2) := by decide +kernel
theorem d_Law_write_2 : decode method_3_code 2 = .ok (.iconst 0, 1) := by decide +kernel
theorem d_Law_write_3 : decode method_3_code 3 = .ok (.aload_n 0, 1) := by decide +kernel
theorem d_Law_write_4 : decode method_3_code 4 = .ok (.lload_n 1, 1) := by decide +kernel
theorem d_Law_write_5 : decode method_3_code 5 = .ok (.iload_n 3, 1) := by decide +kernel
theorem d_Law_write_6 : decode method_3_code 6 = .ok (.invokevirtual 7, 3) := by decide +kernel
theorem d_Law_write_9 : decode method_3_code 9 = .ok (.i2l, 1) := by decide +kernel
theorem d_Law_write_10 : decode method_3_code 10 = .ok (.lastore, 1) := by decide +kernel
theorem d_Law_write_11 : decode method_3_code 11 = .ok (.goto 11, 3) := by decide +kernel
theorem d_Law_write_14 : decode method_3_code 14 = .ok (.astore 5, 2) := by decide +kernel
theorem d_Law_write_16 : decode method_3_code 16 = .ok (.iconst 1, 1) := by decide +kernel
theorem d_Law_write_17 : decode method_3_code 17 = .ok (.ireturn, 1) := by decide +kernel
theorem d_Law_write_18 : decode method_3_code 18 = .ok (.astore 5, 2) := by decide +kernel
theorem d_Law_write_20 : decode method_3_code 20 = .ok (.iconst 2, 1) := by decide +kernel
theorem d_Law_write_21 : decode method_3_code 21 = .ok (.ireturn, 1) := by decide +kernel
theorem d_Law_write_22 : decode method_3_code 22 = .ok (.iconst 0, 1) := by decide +kernel
theorem d_Law_write_23 : decode method_3_code 23 = .ok (.ireturn, 1) := by decide +kernel
theorem d_Law_cite_0 : decode method_4_code 0 = .ok (.aload_n 3, 1) := by decide +kernel
theorem d_Law_cite_1 : decode method_4_code 1 = .ok (.iconst 0, 1) := by decide +kernel
theorem d_Law_cite_2 : decode method_4_code 2 = .ok (.aload_n 0, 1) := by decide +kernel
theorem d_Law_cite_3 : decode method_4_code 3 = .ok (.lload_n 1, 1) := by decide +kernel
theorem d_Law_cite_4 : decode method_4_code 4 = .ok (.invokevirtual 17, 3) := by decide +kernel
theorem d_Law_cite_7 : decode method_4_code 7 = .ok (.ifCond .eq 7, 3) := by decide +kernel
theorem d_Law_cite_10 : decode method_4_code 10 = .ok (.lconst 1, 1) := by decide +kernel
theorem d_Law_cite_11 : decode method_4_code 11 = .ok (.goto 4, 3) := by decide +kernel
theorem d_Law_cite_14 : decode method_4_code 14 = .ok (.lconst 0, 1) := by decide +kernel
theorem d_Law_cite_15 : decode method_4_code 15 = .ok (.lastore, 1) := by decide +kernel
theorem d_Law_cite_16 : decode method_4_code 16 = .ok (.goto 11, 3) := by decide +kernel
theorem d_Law_cite_19 : decode method_4_code 19 = .ok (.astore 4, 2) := by decide +kernel
theorem d_Law_cite_21 : decode method_4_code 21 = .ok (.iconst 1, 1) := by decide +kernel
theorem d_Law_cite_22 : decode method_4_code 22 = .ok (.ireturn, 1) := by decide +kernel
theorem d_Law_cite_23 : decode method_4_code 23 = .ok (.astore 4, 2) := by decide +kernel
theorem d_Law_cite_25 : decode method_4_code 25 = .ok (.iconst 2, 1) := by decide +kernel
theorem d_Law_cite_26 : decode method_4_code 26 = .ok (.ireturn, 1) := by decide +kernel
theorem d_Law_cite_27 : decode method_4_code 27 = .ok (.iconst 0, 1) := by decide +kernel
theorem d_Law_cite_28 : decode method_4_code 28 = .ok (.ireturn, 1) := by decide +kernel
theorem d_Law_list_0 : decode method_5_code 0 = .ok (.aload_n 2, 1) := by decide +kernel
theorem d_Law_list_1 : decode method_5_code 1 = .ok (.iconst 0, 1) := by decide +kernel
theorem d_Law_list_2 : decode method_5_code 2 = .ok (.aload_n 0, 1) := by decide +kernel
theorem d_Law_list_3 : decode method_5_code 3 = .ok (.iload_n 1, 1) := by decide +kernel
theorem d_Law_list_4 : decode method_5_code 4 = .ok (.invokevirtual 21, 3) := by decide +kernel
theorem d_Law_list_7 : decode method_5_code 7 = .ok (.i2l, 1) := by decide +kernel
theorem d_Law_list_8 : decode method_5_code 8 = .ok (.lastore, 1) := by decide +kernel
theorem d_Law_list_9 : decode method_5_code 9 = .ok (.goto 6, 3) := by decide +kernel
theorem d_Law_list_12 : decode method_5_code 12 = .ok (.astore_n 3, 1) := by decide +kernel
theorem d_Law_list_13 : decode method_5_code 13 = .ok (.iconst 1, 1) := by decide +kernel
theorem d_Law_list_14 : decode method_5_code 14 = .ok (.ireturn, 1) := by decide +kernel
theorem d_Law_list_15 : decode method_5_code 15 = .ok (.iconst 0, 1) := by decide +kernel
theorem d_Law_list_16 : decode method_5_code 16 = .ok (.ireturn, 1) := by decide +kernel
theorem d_Law_key_0 : decode method_6_code 0 = .ok (.aload_n 2, 1) := by decide +kernel
theorem d_Law_key_1 : decode method_6_code 1 = .ok (.iconst 0, 1) := by decide +kernel
theorem d_Law_key_2 : decode method_6_code 2 = .ok (.aload_n 0, 1) := by decide +kernel
theorem d_Law_key_3 : decode method_6_code 3 = .ok (.iload_n 1, 1) := by decide +kernel
theorem d_Law_key_4 : decode method_6_code 4 = .ok (.invokevirtual 25, 3) := by decide +kernel
theorem d_Law_key_7 : decode method_6_code 7 = .ok (.lastore, 1) := by decide +kernel
theorem d_Law_key_8 : decode method_6_code 8 = .ok (.goto 6, 3) := by decide +kernel
theorem d_Law_key_11 : decode method_6_code 11 = .ok (.astore_n 3, 1) := by decide +kernel
theorem d_Law_key_12 : decode method_6_code 12 = .ok (.iconst 1, 1) := by decide +kernel
theorem d_Law_key_13 : decode method_6_code 13 = .ok (.ireturn, 1) := by decide +kernel
theorem d_Law_key_14 : decode method_6_code 14 = .ok (.iconst 0, 1) := by decide +kernel
theorem d_Law_key_15 : decode method_6_code 15 = .ok (.ireturn, 1) := by decide +kernel
theorem d_Law_field_0 : decode method_7_code 0 = .ok (.aload 5, 2) := by decide +kernel
theorem d_Law_field_2 : decode method_7_code 2 = .ok (.iconst 0, 1) := by decide +kernel
theorem d_Law_field_3 : decode method_7_code 3 = .ok (.aload_n 0, 1) := by decide +kernel
theorem d_Law_field_4 : decode method_7_code 4 = .ok (.iload_n 1, 1) := by decide +kernel
theorem d_Law_field_5 : decode method_7_code 5 = .ok (.lload_n 2, 1) := by decide +kernel
theorem d_Law_field_6 : decode method_7_code 6 = .ok (.iload 4, 2) := by decide +kernel
theorem d_Law_field_8 : decode method_7_code 8 = .ok (.invokevirtual 31, 3) := by decide +kernel
theorem d_Law_field_11 : decode method_7_code 11 = .ok (.i2l, 1) := by decide +kernel
theorem d_Law_field_12 : decode method_7_code 12 = .ok (.lastore, 1) := by decide +kernel
theorem d_Law_field_13 : decode method_7_code 13 = .ok (.goto 11, 3) := by decide +kernel
theorem d_Law_field_16 : decode method_7_code 16 = .ok (.astore 6, 2) := by decide +kernel
theorem d_Law_field_18 : decode method_7_code 18 = .ok (.iconst 1, 1) := by decide +kernel
theorem d_Law_field_19 : decode method_7_code 19 = .ok (.ireturn, 1) := by decide +kernel
theorem d_Law_field_20 : decode method_7_code 20 = .ok (.astore 6, 2) := by decide +kernel
theorem d_Law_field_22 : decode method_7_code 22 = .ok (.iconst 2, 1) := by decide +kernel
theorem d_Law_field_23 : decode method_7_code 23 = .ok (.ireturn, 1) := by decide +kernel
theorem d_Law_field_24 : decode method_7_code 24 = .ok (.iconst 0, 1) := by decide +kernel
theorem d_Law_field_25 : decode method_7_code 25 = .ok (.ireturn, 1) := by decide +kernel
theorem d_Law_define_0 : decode method_8_code 0 = .ok (.aload 5, 2) := by decide +kernel
theorem d_Law_define_2 : decode method_8_code 2 = .ok (.iconst 0, 1) := by decide +kernel
theorem d_Law_define_3 : decode method_8_code 3 = .ok (.aload_n 0, 1) := by decide +kernel
theorem d_Law_define_4 : decode method_8_code 4 = .ok (.iload_n 1, 1) := by decide +kernel
theorem d_Law_define_5 : decode method_8_code 5 = .ok (.iload_n 2, 1) := by decide +kernel
theorem d_Law_define_6 : decode method_8_code 6 = .ok (.lload_n 3, 1) := by decide +kernel
theorem d_Law_define_7 : decode method_8_code 7 = .ok (.invokevirtual 37, 3) := by decide +kernel
theorem d_Law_define_10 : decode method_8_code 10 = .ok (.i2l, 1) := by decide +kernel
theorem d_Law_define_11 : decode method_8_code 11 = .ok (.lastore, 1) := by decide +kernel
theorem d_Law_define_12 : decode method_8_code 12 = .ok (.goto 11, 3) := by decide +kernel
theorem d_Law_define_15 : decode method_8_code 15 = .ok (.astore 6, 2) := by decide +kernel
theorem d_Law_define_17 : decode method_8_code 17 = .ok (.iconst 1, 1) := by decide +kernel
theorem d_Law_define_18 : decode method_8_code 18 = .ok (.ireturn, 1) := by decide +kernel
theorem d_Law_define_19 : decode method_8_code 19 = .ok (.astore 6, 2) := by decide +kernel
theorem d_Law_define_21 : decode method_8_code 21 = .ok (.iconst 2, 1) := by decide +kernel
theorem d_Law_define_22 : decode method_8_code 22 = .ok (.ireturn, 1) := by decide +kernel
theorem d_Law_define_23 : decode method_8_code 23 = .ok (.iconst 0, 1) := by decide +kernel
theorem d_Law_define_24 : decode method_8_code 24 = .ok (.ireturn, 1) := by decide +kernel
theorem d_Law_clear_0 : decode method_9_code 0 = .ok (.aload_n 2, 1) := by decide +kernel
theorem d_Law_clear_1 : decode method_9_code 1 = .ok (.iconst 0, 1) := by decide +kernel
theorem d_Law_clear_2 : decode method_9_code 2 = .ok (.aload_n 0, 1) := by decide +kernel
theorem d_Law_clear_3 : decode method_9_code 3 = .ok (.iload_n 1, 1) := by decide +kernel
theorem d_Law_clear_4 : decode method_9_code 4 = .ok (.invokevirtual 41, 3) := by decide +kernel
theorem d_Law_clear_7 : decode method_9_code 7 = .ok (.i2l, 1) := by decide +kernel
theorem d_Law_clear_8 : decode method_9_code 8 = .ok (.lastore, 1) := by decide +kernel
theorem d_Law_clear_9 : decode method_9_code 9 = .ok (.goto 6, 3) := by decide +kernel
theorem d_Law_clear_12 : decode method_9_code 12 = .ok (.astore_n 3, 1) := by decide +kernel
theorem d_Law_clear_13 : decode method_9_code 13 = .ok (.iconst 1, 1) := by decide +kernel
theorem d_Law_clear_14 : decode method_9_code 14 = .ok (.ireturn, 1) := by decide +kernel
theorem d_Law_clear_15 : decode method_9_code 15 = .ok (.iconst 0, 1) := by decide +kernel
theorem d_Law_clear_16 : decode method_9_code 16 = .ok (.ireturn, 1) := by decide +kernel
theorem d_Law_run_0 : decode method_10_code 0 = .ok (.aload_n 3, 1) := by decide +kernel
theorem d_Law_run_1 : decode method_10_code 1 = .ok (.iconst 0, 1) := by decide +kernel
theorem d_Law_run_2 : decode method_10_code 2 = .ok (.aload_n 0, 1) := by decide +kernel
theorem d_Law_run_3 : decode method_10_code 3 = .ok (.iload_n 1, 1) := by decide +kernel
theorem d_Law_run_4 : decode method_10_code 4 = .ok (.iload_n 2, 1) := by decide +kernel
theorem d_Law_run_5 : decode method_10_code 5 = .ok (.invokevirtual 44, 3) := by decide +kernel
theorem d_Law_run_8 : decode method_10_code 8 = .ok (.i2l, 1) := by decide +kernel
theorem d_Law_run_9 : decode method_10_code 9 = .ok (.lastore, 1) := by decide +kernel
theorem d_Law_run_10 : decode method_10_code 10 = .ok (.goto 11, 3) := by decide +kernel
theorem d_Law_run_13 : decode method_10_code 13 = .ok (.astore 4, 2) := by decide +kernel
theorem d_Law_run_15 : decode method_10_code 15 = .ok (.iconst 1, 1) := by decide +kernel
theorem d_Law_run_16 : decode method_10_code 16 = .ok (.ireturn, 1) := by decide +kernel
theorem d_Law_run_17 : decode method_10_code 17 = .ok (.astore 4, 2) := by decide +kernel
theorem d_Law_run_19 : decode method_10_code 19 = .ok (.iconst 2, 1) := by decide +kernel
theorem d_Law_run_20 : decode method_10_code 20 = .ok (.ireturn, 1) := by decide +kernel
theorem d_Law_run_21 : decode method_10_code 21 = .ok (.iconst 0, 1) := by decide +kernel
theorem d_Law_run_22 : decode method_10_code 22 = .ok (.ireturn, 1) := by decide +kernel
theorem d_Law_kind_0 : decode method_11_code 0 = .ok (.aload_n 2, 1) := by decide +kernel
theorem d_Law_kind_1 : decode method_11_code 1 = .ok (.iconst 0, 1) := by decide +kernel
theorem d_Law_kind_2 : decode method_11_code 2 = .ok (.aload_n 0, 1) := by decide +kernel
theorem d_Law_kind_3 : decode method_11_code 3 = .ok (.iload_n 1, 1) := by decide +kernel
theorem d_Law_kind_4 : decode method_11_code 4 = .ok (.invokevirtual 50, 3) := by decide +kernel
theorem d_Law_kind_7 : decode method_11_code 7 = .ok (.i2l, 1) := by decide +kernel
theorem d_Law_kind_8 : decode method_11_code 8 = .ok (.lastore, 1) := by decide +kernel
theorem d_Law_kind_9 : decode method_11_code 9 = .ok (.goto 6, 3) := by decide +kernel
theorem d_Law_kind_12 : decode method_11_code 12 = .ok (.astore_n 3, 1) := by decide +kernel
theorem d_Law_kind_13 : decode method_11_code 13 = .ok (.iconst 1, 1) := by decide +kernel
theorem d_Law_kind_14 : decode method_11_code 14 = .ok (.ireturn, 1) := by decide +kernel
theorem d_Law_kind_15 : decode method_11_code 15 = .ok (.iconst 0, 1) := by decide +kernel
theorem d_Law_kind_16 : decode method_11_code 16 = .ok (.ireturn, 1) := by decide +kernel
theorem d_Law_value_0 : decode method_12_code 0 = .ok (.aload_n 2, 1) := by decide +kernel
theorem d_Law_value_1 : decode method_12_code 1 = .ok (.iconst 0, 1) := by decide +kernel
theorem d_Law_value_2 : decode method_12_code 2 = .ok (.aload_n 0, 1) := by decide +kernel
theorem d_Law_value_3 : decode method_12_code 3 = .ok (.iload_n 1, 1) := by decide +kernel
theorem d_Law_value_4 : decode method_12_code 4 = .ok (.invokevirtual 53, 3) := by decide +kernel
theorem d_Law_value_7 : decode method_12_code 7 = .ok (.i2l, 1) := by decide +kernel
theorem d_Law_value_8 : decode method_12_code 8 = .ok (.lastore, 1) := by decide +kernel
theorem d_Law_value_9 : decode method_12_code 9 = .ok (.goto 6, 3) := by decide +kernel
theorem d_Law_value_12 : decode method_12_code 12 = .ok (.astore_n 3, 1) := by decide +kernel
theorem d_Law_value_13 : decode method_12_code 13 = .ok (.iconst 1, 1) := by decide +kernel
theorem d_Law_value_14 : decode method_12_code 14 = .ok (.ireturn, 1) := by decide +kernel
theorem d_Law_value_15 : decode method_12_code 15 = .ok (.iconst 0, 1) := by decide +kernel
theorem d_Law_value_16 : decode method_12_code 16 = .ok (.ireturn, 1) := by decide +kernel
theorem d_Law_letter_0 : decode method_13_code 0 = .ok (.aload_n 3, 1) := by decide +kernel
theorem d_Law_letter_1 : decode method_13_code 1 = .ok (.iconst 0, 1) := by decide +kernel
theorem d_Law_letter_2 : decode method_13_code 2 = .ok (.aload_n 0, 1) := by decide +kernel
theorem d_Law_letter_3 : decode method_13_code 3 = .ok (.iload_n 1, 1) := by decide +kernel
theorem d_Law_letter_4 : decode method_13_code 4 = .ok (.iload_n 2, 1) := by decide +kernel
theorem d_Law_letter_5 : decode method_13_code 5 = .ok (.invokevirtual 56, 3) := by decide +kernel
theorem d_Law_letter_8 : decode method_13_code 8 = .ok (.i2l, 1) := by decide +kernel
theorem d_Law_letter_9 : decode method_13_code 9 = .ok (.lastore, 1) := by decide +kernel
theorem d_Law_letter_10 : decode method_13_code 10 = .ok (.goto 7, 3) := by decide +kernel
theorem d_Law_letter_13 : decode method_13_code 13 = .ok (.astore 4, 2) := by decide +kernel
theorem d_Law_letter_15 : decode method_13_code 15 = .ok (.iconst 1, 1) := by decide +kernel
theorem d_Law_letter_16 : decode method_13_code 16 = .ok (.ireturn, 1) := by decide +kernel
theorem d_Law_letter_17 : decode method_13_code 17 = .ok (.iconst 0, 1) := by decide +kernel
theorem d_Law_letter_18 : decode method_13_code 18 = .ok (.ireturn, 1) := by decide +kernel
theorem d_Law_line_0 : decode method_14_code 0 = .ok (.aload_n 3, 1) := by decide +kernel
theorem d_Law_line_1 : decode method_14_code 1 = .ok (.iconst 0, 1) := by decide +kernel
theorem d_Law_line_2 : decode method_14_code 2 = .ok (.aload_n 0, 1) := by decide +kernel
theorem d_Law_line_3 : decode method_14_code 3 = .ok (.iload_n 1, 1) := by decide +kernel
theorem d_Law_line_4 : decode method_14_code 4 = .ok (.iload_n 2, 1) := by decide +kernel
theorem d_Law_line_5 : decode method_14_code 5 = .ok (.invokevirtual 59, 3) := by decide +kernel
theorem d_Law_line_8 : decode method_14_code 8 = .ok (.i2l, 1) := by decide +kernel
theorem d_Law_line_9 : decode method_14_code 9 = .ok (.lastore, 1) := by decide +kernel
theorem d_Law_line_10 : decode method_14_code 10 = .ok (.goto 11, 3) := by decide +kernel
theorem d_Law_line_13 : decode method_14_code 13 = .ok (.astore 4, 2) := by decide +kernel
theorem d_Law_line_15 : decode method_14_code 15 = .ok (.iconst 1, 1) := by decide +kernel
theorem d_Law_line_16 : decode method_14_code 16 = .ok (.ireturn, 1) := by decide +kernel
theorem d_Law_line_17 : decode method_14_code 17 = .ok (.astore 4, 2) := by decide +kernel
theorem d_Law_line_19 : decode method_14_code 19 = .ok (.iconst 2, 1) := by decide +kernel
theorem d_Law_line_20 : decode method_14_code 20 = .ok (.ireturn, 1) := by decide +kernel
theorem d_Law_line_21 : decode method_14_code 21 = .ok (.iconst 0, 1) := by decide +kernel
theorem d_Law_line_22 : decode method_14_code 22 = .ok (.ireturn, 1) := by decide +kernel
theorem d_Law_count_0 : decode method_15_code 0 = .ok (.aload_n 2, 1) := by decide +kernel
theorem d_Law_count_1 : decode method_15_code 1 = .ok (.iconst 0, 1) := by decide +kernel
theorem d_Law_count_2 : decode method_15_code 2 = .ok (.aload_n 0, 1) := by decide +kernel
theorem d_Law_count_3 : decode method_15_code 3 = .ok (.iload_n 1, 1) := by decide +kernel
theorem d_Law_count_4 : decode method_15_code 4 = .ok (.invokevirtual 62, 3) := by decide +kernel
theorem d_Law_count_7 : decode method_15_code 7 = .ok (.i2l, 1) := by decide +kernel
theorem d_Law_count_8 : decode method_15_code 8 = .ok (.lastore, 1) := by decide +kernel
theorem d_Law_count_9 : decode method_15_code 9 = .ok (.goto 6, 3) := by decide +kernel
theorem d_Law_count_12 : decode method_15_code 12 = .ok (.astore_n 3, 1) := by decide +kernel
theorem d_Law_count_13 : decode method_15_code 13 = .ok (.iconst 1, 1) := by decide +kernel
theorem d_Law_count_14 : decode method_15_code 14 = .ok (.ireturn, 1) := by decide +kernel
theorem d_Law_count_15 : decode method_15_code 15 = .ok (.iconst 0, 1) := by decide +kernel
theorem d_Law_count_16 : decode method_15_code 16 = .ok (.ireturn, 1) := by decide +kernel
theorem d_Law_warnings_0 : decode method_16_code 0 = .ok (.aload_n 2, 1) := by decide +kernel
theorem d_Law_warnings_1 : decode method_16_code 1 = .ok (.iconst 0, 1) := by decide +kernel
theorem d_Law_warnings_2 : decode method_16_code 2 = .ok (.aload_n 0, 1) := by decide +kernel
theorem d_Law_warnings_3 : decode method_16_code 3 = .ok (.iload_n 1, 1) := by decide +kernel
theorem d_Law_warnings_4 : decode method_16_code 4 = .ok (.invokevirtual 65, 3) := by decide +kernel
theorem d_Law_warnings_7 : decode method_16_code 7 = .ok (.i2l, 1) := by decide +kernel
theorem d_Law_warnings_8 : decode method_16_code 8 = .ok (.lastore, 1) := by decide +kernel
theorem d_Law_warnings_9 : decode method_16_code 9 = .ok (.goto 6, 3) := by decide +kernel
theorem d_Law_warnings_12 : decode method_16_code 12 = .ok (.astore_n 3, 1) := by decide +kernel
theorem d_Law_warnings_13 : decode method_16_code 13 = .ok (.iconst 1, 1) := by decide +kernel
theorem d_Law_warnings_14 : decode method_16_code 14 = .ok (.ireturn, 1) := by decide +kernel
theorem d_Law_warnings_15 : decode method_16_code 15 = .ok (.iconst 0, 1) := by decide +kernel
theorem d_Law_warnings_16 : decode method_16_code 16 = .ok (.ireturn, 1) := by decide +kernel
