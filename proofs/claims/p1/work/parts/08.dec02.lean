/-! decode rows, printed by a program -/
theorem d_Reader_keepString_5 : decode prog_8_method_25_code 5 = .ok (.istore_n 3, 1) := by decide +kernel
theorem d_Reader_keepString_6 : decode prog_8_method_25_code 6 = .ok (.iload_n 3, 1) := by decide +kernel
theorem d_Reader_keepString_7 : decode prog_8_method_25_code 7 = .ok (.ifCond .lt 19, 3) := by decide +kernel
theorem d_Reader_keepString_10 : decode prog_8_method_25_code 10 = .ok (.aload_n 0, 1) := by decide +kernel
theorem d_Reader_keepString_11 : decode prog_8_method_25_code 11 = .ok (.getfield 35, 3) := by decide +kernel
theorem d_Reader_keepString_14 : decode prog_8_method_25_code 14 = .ok (.iload_n 3, 1) := by decide +kernel
theorem d_Reader_keepString_15 : decode prog_8_method_25_code 15 = .ok (.aaload, 1) := by decide +kernel
theorem d_Reader_keepString_16 : decode prog_8_method_25_code 16 = .ok (.aload_n 0, 1) := by decide +kernel
theorem d_Reader_keepString_17 : decode prog_8_method_25_code 17 = .ok (.getfield 39, 3) := by decide +kernel
theorem d_Reader_keepString_20 : decode prog_8_method_25_code 20 = .ok (.invokevirtual 189, 3) := by decide +kernel
theorem d_Reader_keepString_23 : decode prog_8_method_25_code 23 = .ok (.goto 61, 3) := by decide +kernel
theorem d_Reader_keepString_26 : decode prog_8_method_25_code 26 = .ok (.aload_n 0, 1) := by decide +kernel
theorem d_Reader_keepString_27 : decode prog_8_method_25_code 27 = .ok (.getfield 66, 3) := by decide +kernel
theorem d_Reader_keepString_30 : decode prog_8_method_25_code 30 = .ok (.bipush 8, 2) := by decide +kernel
theorem d_Reader_keepString_32 : decode prog_8_method_25_code 32 = .ok (.if_icmp .lt 16, 3) := by decide +kernel
theorem d_Reader_keepString_35 : decode prog_8_method_25_code 35 = .ok (.aload_n 0, 1) := by decide +kernel
theorem d_Reader_keepString_36 : decode prog_8_method_25_code 36 = .ok (.getfield 15, 3) := by decide +kernel
theorem d_Reader_keepString_39 : decode prog_8_method_25_code 39 = .ok (.iconst 5, 1) := by decide +kernel
theorem d_Reader_keepString_40 : decode prog_8_method_25_code 40 = .ok (.dup2, 1) := by decide +kernel
theorem d_Reader_keepString_41 : decode prog_8_method_25_code 41 = .ok (.iaload, 1) := by decide +kernel
theorem d_Reader_keepString_42 : decode prog_8_method_25_code 42 = .ok (.iconst 1, 1) := by decide +kernel
theorem d_Reader_keepString_43 : decode prog_8_method_25_code 43 = .ok (.iadd, 1) := by decide +kernel
theorem d_Reader_keepString_44 : decode prog_8_method_25_code 44 = .ok (.iastore, 1) := by decide +kernel
theorem d_Reader_keepString_45 : decode prog_8_method_25_code 45 = .ok (.goto 39, 3) := by decide +kernel
theorem d_Reader_keepString_48 : decode prog_8_method_25_code 48 = .ok (.aload_n 0, 1) := by decide +kernel
theorem d_Reader_keepString_49 : decode prog_8_method_25_code 49 = .ok (.getfield 31, 3) := by decide +kernel
theorem d_Reader_keepString_52 : decode prog_8_method_25_code 52 = .ok (.aload_n 0, 1) := by decide +kernel
theorem d_Reader_keepString_53 : decode prog_8_method_25_code 53 = .ok (.getfield 66, 3) := by decide +kernel
theorem d_Reader_keepString_56 : decode prog_8_method_25_code 56 = .ok (.lload_n 1, 1) := by decide +kernel
theorem d_Reader_keepString_57 : decode prog_8_method_25_code 57 = .ok (.lastore, 1) := by decide +kernel
theorem d_Reader_keepString_58 : decode prog_8_method_25_code 58 = .ok (.aload_n 0, 1) := by decide +kernel
theorem d_Reader_keepString_59 : decode prog_8_method_25_code 59 = .ok (.getfield 35, 3) := by decide +kernel
theorem d_Reader_keepString_62 : decode prog_8_method_25_code 62 = .ok (.aload_n 0, 1) := by decide +kernel
theorem d_Reader_keepString_63 : decode prog_8_method_25_code 63 = .ok (.getfield 66, 3) := by decide +kernel
theorem d_Reader_keepString_66 : decode prog_8_method_25_code 66 = .ok (.aaload, 1) := by decide +kernel
theorem d_Reader_keepString_67 : decode prog_8_method_25_code 67 = .ok (.aload_n 0, 1) := by decide +kernel
theorem d_Reader_keepString_68 : decode prog_8_method_25_code 68 = .ok (.getfield 39, 3) := by decide +kernel
theorem d_Reader_keepString_71 : decode prog_8_method_25_code 71 = .ok (.invokevirtual 189, 3) := by decide +kernel
theorem d_Reader_keepString_74 : decode prog_8_method_25_code 74 = .ok (.aload_n 0, 1) := by decide +kernel
theorem d_Reader_keepString_75 : decode prog_8_method_25_code 75 = .ok (.dup, 1) := by decide +kernel
theorem d_Reader_keepString_76 : decode prog_8_method_25_code 76 = .ok (.getfield 66, 3) := by decide +kernel
theorem d_Reader_keepString_79 : decode prog_8_method_25_code 79 = .ok (.iconst 1, 1) := by decide +kernel
theorem d_Reader_keepString_80 : decode prog_8_method_25_code 80 = .ok (.iadd, 1) := by decide +kernel
theorem d_Reader_keepString_81 : decode prog_8_method_25_code 81 = .ok (.putfield 66, 3) := by decide +kernel
theorem d_Reader_keepString_84 : decode prog_8_method_25_code 84 = .ok (.return_, 1) := by decide +kernel
theorem d_Reader_takeEntry_0 : decode prog_8_method_11_code 0 = .ok (.aload_n 0, 1) := by decide +kernel
theorem d_Reader_takeEntry_1 : decode prog_8_method_11_code 1 = .ok (.invokevirtual 80, 3) := by decide +kernel
theorem d_Reader_takeEntry_4 : decode prog_8_method_11_code 4 = .ok (.lstore_n 3, 1) := by decide +kernel
theorem d_Reader_takeEntry_5 : decode prog_8_method_11_code 5 = .ok (.lload_n 3, 1) := by decide +kernel
theorem d_Reader_takeEntry_6 : decode prog_8_method_11_code 6 = .ok (.lconst 0, 1) := by decide +kernel
theorem d_Reader_takeEntry_7 : decode prog_8_method_11_code 7 = .ok (.lcmp, 1) := by decide +kernel
theorem d_Reader_takeEntry_8 : decode prog_8_method_11_code 8 = .ok (.ifCond .ne 5, 3) := by decide +kernel
theorem d_Reader_takeEntry_11 : decode prog_8_method_11_code 11 = .ok (.iconst 0, 1) := by decide +kernel
theorem d_Reader_takeEntry_12 : decode prog_8_method_11_code 12 = .ok (.ireturn, 1) := by decide +kernel
theorem d_Reader_takeEntry_13 : decode prog_8_method_11_code 13 = .ok (.aload_n 0, 1) := by decide +kernel
theorem d_Reader_takeEntry_14 : decode prog_8_method_11_code 14 = .ok (.getfield 9, 3) := by decide +kernel
theorem d_Reader_takeEntry_17 : decode prog_8_method_11_code 17 = .ok (.invokevirtual 107, 3) := by decide +kernel
theorem d_Reader_takeEntry_20 : decode prog_8_method_11_code 20 = .ok (.astore 5, 2) := by decide +kernel
theorem d_Reader_takeEntry_22 : decode prog_8_method_11_code 22 = .ok (.aload 5, 2) := by decide +kernel
theorem d_Reader_takeEntry_24 : decode prog_8_method_11_code 24 = .ok (.lload_n 3, 1) := by decide +kernel
theorem d_Reader_takeEntry_25 : decode prog_8_method_11_code 25 = .ok (.lload_n 1, 1) := by decide +kernel
theorem d_Reader_takeEntry_26 : decode prog_8_method_11_code 26 = .ok (.invokevirtual 111, 3) := by decide +kernel
theorem d_Reader_takeEntry_29 : decode prog_8_method_11_code 29 = .ok (.iconst 0, 1) := by decide +kernel
theorem d_Reader_takeEntry_30 : decode prog_8_method_11_code 30 = .ok (.istore 6, 2) := by decide +kernel
theorem d_Reader_takeEntry_32 : decode prog_8_method_11_code 32 = .ok (.iconst 0, 1) := by decide +kernel
theorem d_Reader_takeEntry_33 : decode prog_8_method_11_code 33 = .ok (.istore 7, 2) := by decide +kernel
theorem d_Reader_takeEntry_35 : decode prog_8_method_11_code 35 = .ok (.iload 7, 2) := by decide +kernel
theorem d_Reader_takeEntry_37 : decode prog_8_method_11_code 37 = .ok (.sipush 320, 3) := by decide +kernel
theorem d_Reader_takeEntry_40 : decode prog_8_method_11_code 40 = .ok (.if_icmp .ge 78, 3) := by decide +kernel
theorem d_Reader_takeEntry_43 : decode prog_8_method_11_code 43 = .ok (.iload 6, 2) := by decide +kernel
theorem d_Reader_takeEntry_45 : decode prog_8_method_11_code 45 = .ok (.ifCond .ne 73, 3) := by decide +kernel
theorem d_Reader_takeEntry_48 : decode prog_8_method_11_code 48 = .ok (.aload_n 0, 1) := by decide +kernel
theorem d_Reader_takeEntry_49 : decode prog_8_method_11_code 49 = .ok (.bipush 44, 2) := by decide +kernel
theorem d_Reader_takeEntry_51 : decode prog_8_method_11_code 51 = .ok (.invokevirtual 84, 3) := by decide +kernel
theorem d_Reader_takeEntry_54 : decode prog_8_method_11_code 54 = .ok (.ifCond .eq 64, 3) := by decide +kernel
theorem d_Reader_takeEntry_57 : decode prog_8_method_11_code 57 = .ok (.aload_n 0, 1) := by decide +kernel
theorem d_Reader_takeEntry_58 : decode prog_8_method_11_code 58 = .ok (.bipush 125, 2) := by decide +kernel
theorem d_Reader_takeEntry_60 : decode prog_8_method_11_code 60 = .ok (.invokevirtual 84, 3) := by decide +kernel
theorem d_Reader_takeEntry_63 : decode prog_8_method_11_code 63 = .ok (.istore 6, 2) := by decide +kernel
theorem d_Reader_takeEntry_65 : decode prog_8_method_11_code 65 = .ok (.iload 6, 2) := by decide +kernel
theorem d_Reader_takeEntry_67 : decode prog_8_method_11_code 67 = .ok (.ifCond .ne 45, 3) := by decide +kernel
theorem d_Reader_takeEntry_70 : decode prog_8_method_11_code 70 = .ok (.aload_n 0, 1) := by decide +kernel
theorem d_Reader_takeEntry_71 : decode prog_8_method_11_code 71 = .ok (.invokevirtual 80, 3) := by decide +kernel
theorem d_Reader_takeEntry_74 : decode prog_8_method_11_code 74 = .ok (.lstore 8, 2) := by decide +kernel
theorem d_Reader_takeEntry_76 : decode prog_8_method_11_code 76 = .ok (.lload 8, 2) := by decide +kernel
theorem d_Reader_takeEntry_78 : decode prog_8_method_11_code 78 = .ok (.lconst 0, 1) := by decide +kernel
theorem d_Reader_takeEntry_79 : decode prog_8_method_11_code 79 = .ok (.lcmp, 1) := by decide +kernel
theorem d_Reader_takeEntry_80 : decode prog_8_method_11_code 80 = .ok (.ifCond .eq 19, 3) := by decide +kernel
theorem d_Reader_takeEntry_83 : decode prog_8_method_11_code 83 = .ok (.aload_n 0, 1) := by decide +kernel
theorem d_Reader_takeEntry_84 : decode prog_8_method_11_code 84 = .ok (.bipush 61, 2) := by decide +kernel
theorem d_Reader_takeEntry_86 : decode prog_8_method_11_code 86 = .ok (.invokevirtual 84, 3) := by decide +kernel
theorem d_Reader_takeEntry_89 : decode prog_8_method_11_code 89 = .ok (.ifCond .eq 10, 3) := by decide +kernel
theorem d_Reader_takeEntry_92 : decode prog_8_method_11_code 92 = .ok (.aload_n 0, 1) := by decide +kernel
theorem d_Reader_takeEntry_93 : decode prog_8_method_11_code 93 = .ok (.invokevirtual 100, 3) := by decide +kernel
theorem d_Reader_takeEntry_96 : decode prog_8_method_11_code 96 = .ok (.ifCond .ne 5, 3) := by decide +kernel
theorem d_Reader_takeEntry_99 : decode prog_8_method_11_code 99 = .ok (.iconst 0, 1) := by decide +kernel
theorem d_Reader_takeEntry_100 : decode prog_8_method_11_code 100 = .ok (.ireturn, 1) := by decide +kernel
theorem d_Reader_takeEntry_101 : decode prog_8_method_11_code 101 = .ok (.aload 5, 2) := by decide +kernel
theorem d_Reader_takeEntry_103 : decode prog_8_method_11_code 103 = .ok (.lload 8, 2) := by decide +kernel
theorem d_Reader_takeEntry_105 : decode prog_8_method_11_code 105 = .ok (.aload_n 0, 1) := by decide +kernel
theorem d_Reader_takeEntry_106 : decode prog_8_method_11_code 106 = .ok (.getfield 39, 3) := by decide +kernel
theorem d_Reader_takeEntry_109 : decode prog_8_method_11_code 109 = .ok (.invokevirtual 117, 3) := by decide +kernel
theorem d_Reader_takeEntry_112 : decode prog_8_method_11_code 112 = .ok (.iinc 7 1, 3) := by decide +kernel
theorem d_Reader_takeEntry_115 : decode prog_8_method_11_code 115 = .ok (.goto (-80), 3) := by decide +kernel
theorem d_Reader_takeEntry_118 : decode prog_8_method_11_code 118 = .ok (.iload 6, 2) := by decide +kernel
theorem d_Reader_takeEntry_120 : decode prog_8_method_11_code 120 = .ok (.ifCond .ne 14, 3) := by decide +kernel
theorem d_Reader_takeEntry_123 : decode prog_8_method_11_code 123 = .ok (.aload_n 0, 1) := by decide +kernel
theorem d_Reader_takeEntry_124 : decode prog_8_method_11_code 124 = .ok (.bipush 125, 2) := by decide +kernel
theorem d_Reader_takeEntry_126 : decode prog_8_method_11_code 126 = .ok (.invokevirtual 84, 3) := by decide +kernel
theorem d_Reader_takeEntry_129 : decode prog_8_method_11_code 129 = .ok (.ifCond .ne 5, 3) := by decide +kernel
theorem d_Reader_takeEntry_132 : decode prog_8_method_11_code 132 = .ok (.iconst 0, 1) := by decide +kernel
theorem d_Reader_takeEntry_133 : decode prog_8_method_11_code 133 = .ok (.ireturn, 1) := by decide +kernel
theorem d_Reader_takeEntry_134 : decode prog_8_method_11_code 134 = .ok (.aload_n 0, 1) := by decide +kernel
theorem d_Reader_takeEntry_135 : decode prog_8_method_11_code 135 = .ok (.getfield 9, 3) := by decide +kernel
theorem d_Reader_takeEntry_138 : decode prog_8_method_11_code 138 = .ok (.invokevirtual 121, 3) := by decide +kernel
theorem d_Reader_takeEntry_141 : decode prog_8_method_11_code 141 = .ok (.iconst 1, 1) := by decide +kernel
theorem d_Reader_takeEntry_142 : decode prog_8_method_11_code 142 = .ok (.ireturn, 1) := by decide +kernel
theorem d_Reader_noteWrong_0 : decode prog_8_method_8_code 0 = .ok (.aload_n 0, 1) := by decide +kernel
theorem d_Reader_noteWrong_1 : decode prog_8_method_8_code 1 = .ok (.getfield 15, 3) := by decide +kernel
theorem d_Reader_noteWrong_4 : decode prog_8_method_8_code 4 = .ok (.iconst 1, 1) := by decide +kernel
theorem d_Reader_noteWrong_5 : decode prog_8_method_8_code 5 = .ok (.dup2, 1) := by decide +kernel
theorem d_Reader_noteWrong_6 : decode prog_8_method_8_code 6 = .ok (.iaload, 1) := by decide +kernel
theorem d_Reader_noteWrong_7 : decode prog_8_method_8_code 7 = .ok (.iconst 1, 1) := by decide +kernel
theorem d_Reader_noteWrong_8 : decode prog_8_method_8_code 8 = .ok (.iadd, 1) := by decide +kernel
theorem d_Reader_noteWrong_9 : decode prog_8_method_8_code 9 = .ok (.iastore, 1) := by decide +kernel
theorem d_Reader_noteWrong_10 : decode prog_8_method_8_code 10 = .ok (.aload_n 0, 1) := by decide +kernel
theorem d_Reader_noteWrong_11 : decode prog_8_method_8_code 11 = .ok (.dup, 1) := by decide +kernel
theorem d_Reader_noteWrong_12 : decode prog_8_method_8_code 12 = .ok (.getfield 73, 3) := by decide +kernel
theorem d_Reader_noteWrong_15 : decode prog_8_method_8_code 15 = .ok (.iconst 1, 1) := by decide +kernel
theorem d_Reader_noteWrong_16 : decode prog_8_method_8_code 16 = .ok (.iadd, 1) := by decide +kernel
theorem d_Reader_noteWrong_17 : decode prog_8_method_8_code 17 = .ok (.putfield 73, 3) := by decide +kernel
theorem d_Reader_noteWrong_20 : decode prog_8_method_8_code 20 = .ok (.return_, 1) := by decide +kernel
theorem d_Reader_allCharacters_0 : decode prog_8_method_2_code 0 = .ok (.iconst 0, 1) := by decide +kernel
theorem d_Reader_allCharacters_1 : decode prog_8_method_2_code 1 = .ok (.istore_n 3, 1) := by decide +kernel
theorem d_Reader_allCharacters_2 : decode prog_8_method_2_code 2 = .ok (.iload_n 3, 1) := by decide +kernel
theorem d_Reader_allCharacters_3 : decode prog_8_method_2_code 3 = .ok (.iload_n 2, 1) := by decide +kernel
theorem d_Reader_allCharacters_4 : decode prog_8_method_2_code 4 = .ok (.if_icmp .ge 33, 3) := by decide +kernel
theorem d_Reader_allCharacters_7 : decode prog_8_method_2_code 7 = .ok (.lload_n 0, 1) := by decide +kernel
theorem d_Reader_allCharacters_8 : decode prog_8_method_2_code 8 = .ok (.iload_n 3, 1) := by decide +kernel
theorem d_Reader_allCharacters_9 : decode prog_8_method_2_code 9 = .ok (.invokestatic 42, 3) := by decide +kernel
theorem d_Reader_allCharacters_12 : decode prog_8_method_2_code 12 = .ok (.istore 4, 2) := by decide +kernel
theorem d_Reader_allCharacters_14 : decode prog_8_method_2_code 14 = .ok (.iload 4, 2) := by decide +kernel
theorem d_Reader_allCharacters_16 : decode prog_8_method_2_code 16 = .ok (.invokestatic 46, 3) := by decide +kernel
theorem d_Reader_allCharacters_19 : decode prog_8_method_2_code 19 = .ok (.ifCond .ne 12, 3) := by decide +kernel
theorem d_Reader_allCharacters_22 : decode prog_8_method_2_code 22 = .ok (.iload 4, 2) := by decide +kernel
theorem d_Reader_allCharacters_24 : decode prog_8_method_2_code 24 = .ok (.bipush 10, 2) := by decide +kernel
theorem d_Reader_allCharacters_26 : decode prog_8_method_2_code 26 = .ok (.if_icmp .eq 5, 3) := by decide +kernel
theorem d_Reader_allCharacters_29 : decode prog_8_method_2_code 29 = .ok (.iconst 0, 1) := by decide +kernel
theorem d_Reader_allCharacters_30 : decode prog_8_method_2_code 30 = .ok (.ireturn, 1) := by decide +kernel
theorem d_Reader_allCharacters_31 : decode prog_8_method_2_code 31 = .ok (.iinc 3 1, 3) := by decide +kernel
theorem d_Reader_allCharacters_34 : decode prog_8_method_2_code 34 = .ok (.goto (-32), 3) := by decide +kernel
theorem d_Reader_allCharacters_37 : decode prog_8_method_2_code 37 = .ok (.iconst 1, 1) := by decide +kernel
theorem d_Reader_allCharacters_38 : decode prog_8_method_2_code 38 = .ok (.ireturn, 1) := by decide +kernel
theorem d_Reader_hasRoom_0 : decode prog_8_method_3_code 0 = .ok (.aload_n 0, 1) := by decide +kernel
theorem d_Reader_hasRoom_1 : decode prog_8_method_3_code 1 = .ok (.getfield 24, 3) := by decide +kernel
theorem d_Reader_hasRoom_4 : decode prog_8_method_3_code 4 = .ok (.invokevirtual 50, 3) := by decide +kernel
theorem d_Reader_hasRoom_7 : decode prog_8_method_3_code 7 = .ok (.iload_n 1, 1) := by decide +kernel
theorem d_Reader_hasRoom_8 : decode prog_8_method_3_code 8 = .ok (.iadd, 1) := by decide +kernel
theorem d_Reader_hasRoom_9 : decode prog_8_method_3_code 9 = .ok (.sipush 320, 3) := by decide +kernel
theorem d_Reader_hasRoom_12 : decode prog_8_method_3_code 12 = .ok (.if_icmp .gt 7, 3) := by decide +kernel
theorem d_Reader_hasRoom_15 : decode prog_8_method_3_code 15 = .ok (.iconst 1, 1) := by decide +kernel
theorem d_Reader_hasRoom_16 : decode prog_8_method_3_code 16 = .ok (.goto 4, 3) := by decide +kernel
theorem d_Reader_hasRoom_19 : decode prog_8_method_3_code 19 = .ok (.iconst 0, 1) := by decide +kernel
theorem d_Reader_hasRoom_20 : decode prog_8_method_3_code 20 = .ok (.ireturn, 1) := by decide +kernel
theorem d_Reader_addCharacters_0 : decode prog_8_method_4_code 0 = .ok (.iconst 0, 1) := by decide +kernel
theorem d_Reader_addCharacters_1 : decode prog_8_method_4_code 1 = .ok (.istore 4, 2) := by decide +kernel
theorem d_Reader_addCharacters_3 : decode prog_8_method_4_code 3 = .ok (.iload 4, 2) := by decide +kernel
theorem d_Reader_addCharacters_5 : decode prog_8_method_4_code 5 = .ok (.iload_n 3, 1) := by decide +kernel
theorem d_Reader_addCharacters_6 : decode prog_8_method_4_code 6 = .ok (.if_icmp .ge 22, 3) := by decide +kernel
theorem d_Reader_addCharacters_9 : decode prog_8_method_4_code 9 = .ok (.aload_n 0, 1) := by decide +kernel
theorem d_Reader_addCharacters_10 : decode prog_8_method_4_code 10 = .ok (.getfield 24, 3) := by decide +kernel
theorem d_Reader_addCharacters_13 : decode prog_8_method_4_code 13 = .ok (.lload_n 1, 1) := by decide +kernel
theorem d_Reader_addCharacters_14 : decode prog_8_method_4_code 14 = .ok (.iload 4, 2) := by decide +kernel
theorem d_Reader_addCharacters_16 : decode prog_8_method_4_code 16 = .ok (.invokestatic 42, 3) := by decide +kernel
theorem d_Reader_addCharacters_19 : decode prog_8_method_4_code 19 = .ok (.invokevirtual 54, 3) := by decide +kernel
theorem d_Reader_addCharacters_22 : decode prog_8_method_4_code 22 = .ok (.iinc 4 1, 3) := by decide +kernel
theorem d_Reader_addCharacters_25 : decode prog_8_method_4_code 25 = .ok (.goto (-22), 3) := by decide +kernel
theorem d_Reader_addCharacters_28 : decode prog_8_method_4_code 28 = .ok (.aload_n 0, 1) := by decide +kernel
theorem d_Reader_addCharacters_29 : decode prog_8_method_4_code 29 = .ok (.getfield 24, 3) := by decide +kernel
theorem d_Reader_addCharacters_32 : decode prog_8_method_4_code 32 = .ok (.invokevirtual 50, 3) := by decide +kernel
theorem d_Reader_addCharacters_35 : decode prog_8_method_4_code 35 = .ok (.ireturn, 1) := by decide +kernel
theorem d_Citations_init_0 : decode prog_2_method_1_code 0 = .ok (.aload_n 0, 1) := by decide +kernel
theorem d_Citations_init_1 : decode prog_2_method_1_code 1 = .ok (.invokespecial 3, 3) := by decide +kernel
theorem d_Citations_init_4 : decode prog_2_method_1_code 4 = .ok (.aload_n 0, 1) := by decide +kernel
theorem d_Citations_init_5 : decode prog_2_method_1_code 5 = .ok (.aload_n 1, 1) := by decide +kernel
theorem d_Citations_init_6 : decode prog_2_method_1_code 6 = .ok (.putfield 9, 3) := by decide +kernel
theorem d_Citations_init_9 : decode prog_2_method_1_code 9 = .ok (.aload_n 0, 1) := by decide +kernel
theorem d_Citations_init_10 : decode prog_2_method_1_code 10 = .ok (.aload_n 2, 1) := by decide +kernel
theorem d_Citations_init_11 : decode prog_2_method_1_code 11 = .ok (.putfield 15, 3) := by decide +kernel
theorem d_Citations_init_14 : decode prog_2_method_1_code 14 = .ok (.aload_n 0, 1) := by decide +kernel
theorem d_Citations_init_15 : decode prog_2_method_1_code 15 = .ok (.bipush 10, 2) := by decide +kernel
theorem d_Citations_init_17 : decode prog_2_method_1_code 17 = .ok (.newarray .long, 2) := by decide +kernel
theorem d_Citations_init_19 : decode prog_2_method_1_code 19 = .ok (.putfield 19, 3) := by decide +kernel
theorem d_Citations_init_22 : decode prog_2_method_1_code 22 = .ok (.aload_n 0, 1) := by decide +kernel
theorem d_Citations_init_23 : decode prog_2_method_1_code 23 = .ok (.bipush 8, 2) := by decide +kernel
theorem d_Citations_init_25 : decode prog_2_method_1_code 25 = .ok (.anewarray 25, 3) := by decide +kernel
theorem d_Citations_init_28 : decode prog_2_method_1_code 28 = .ok (.putfield 27, 3) := by decide +kernel
theorem d_Citations_init_31 : decode prog_2_method_1_code 31 = .ok (.return_, 1) := by decide +kernel
theorem d_Citations_dropList_0 : decode prog_2_method_10_code 0 = .ok (.aload_n 0, 1) := by decide +kernel
theorem d_Citations_dropList_1 : decode prog_2_method_10_code 1 = .ok (.iconst 0, 1) := by decide +kernel
theorem d_Citations_dropList_2 : decode prog_2_method_10_code 2 = .ok (.putfield 39, 3) := by decide +kernel
theorem d_Citations_dropList_5 : decode prog_2_method_10_code 5 = .ok (.return_, 1) := by decide +kernel
theorem d_Citations_dropCitations_0 : decode prog_2_method_6_code 0 = .ok (.aload_n 0, 1) := by decide +kernel
theorem d_Citations_dropCitations_1 : decode prog_2_method_6_code 1 = .ok (.getfield 31, 3) := by decide +kernel
theorem d_Citations_dropCitations_4 : decode prog_2_method_6_code 4 = .ok (.istore_n 1, 1) := by decide +kernel
theorem d_Citations_dropCitations_5 : decode prog_2_method_6_code 5 = .ok (.aload_n 0, 1) := by decide +kernel
theorem d_Citations_dropCitations_6 : decode prog_2_method_6_code 6 = .ok (.iconst 0, 1) := by decide +kernel
theorem d_Citations_dropCitations_7 : decode prog_2_method_6_code 7 = .ok (.putfield 31, 3) := by decide +kernel
theorem d_Citations_dropCitations_10 : decode prog_2_method_6_code 10 = .ok (.iload_n 1, 1) := by decide +kernel
theorem d_Citations_dropCitations_11 : decode prog_2_method_6_code 11 = .ok (.ireturn, 1) := by decide +kernel
theorem d_Citations_sortList_0 : decode prog_2_method_14_code 0 = .ok (.iconst 0, 1) := by decide +kernel
theorem d_Citations_sortList_1 : decode prog_2_method_14_code 1 = .ok (.istore_n 1, 1) := by decide +kernel
theorem d_Citations_sortList_2 : decode prog_2_method_14_code 2 = .ok (.iconst 1, 1) := by decide +kernel
theorem d_Citations_sortList_3 : decode prog_2_method_14_code 3 = .ok (.istore_n 2, 1) := by decide +kernel
theorem d_Citations_sortList_4 : decode prog_2_method_14_code 4 = .ok (.iload_n 2, 1) := by decide +kernel
theorem d_Citations_sortList_5 : decode prog_2_method_14_code 5 = .ok (.aload_n 0, 1) := by decide +kernel
theorem d_Citations_sortList_6 : decode prog_2_method_14_code 6 = .ok (.getfield 39, 3) := by decide +kernel
theorem d_Citations_sortList_9 : decode prog_2_method_14_code 9 = .ok (.if_icmp .ge 78, 3) := by decide +kernel
theorem d_Citations_sortList_12 : decode prog_2_method_14_code 12 = .ok (.aload_n 0, 1) := by decide +kernel
theorem d_Citations_sortList_13 : decode prog_2_method_14_code 13 = .ok (.getfield 27, 3) := by decide +kernel
theorem d_Citations_sortList_16 : decode prog_2_method_14_code 16 = .ok (.iload_n 2, 1) := by decide +kernel
theorem d_Citations_sortList_17 : decode prog_2_method_14_code 17 = .ok (.aaload, 1) := by decide +kernel
theorem d_Citations_sortList_18 : decode prog_2_method_14_code 18 = .ok (.astore_n 3, 1) := by decide +kernel
theorem d_Citations_sortList_19 : decode prog_2_method_14_code 19 = .ok (.iload_n 2, 1) := by decide +kernel
theorem d_Citations_sortList_20 : decode prog_2_method_14_code 20 = .ok (.istore 4, 2) := by decide +kernel
theorem d_Citations_sortList_22 : decode prog_2_method_14_code 22 = .ok (.iload 4, 2) := by decide +kernel
theorem d_Citations_sortList_24 : decode prog_2_method_14_code 24 = .ok (.ifCond .le 49, 3) := by decide +kernel
theorem d_Citations_sortList_27 : decode prog_2_method_14_code 27 = .ok (.aload_n 0, 1) := by decide +kernel
theorem d_Citations_sortList_28 : decode prog_2_method_14_code 28 = .ok (.getfield 27, 3) := by decide +kernel
theorem d_Citations_sortList_31 : decode prog_2_method_14_code 31 = .ok (.iload 4, 2) := by decide +kernel
theorem d_Citations_sortList_33 : decode prog_2_method_14_code 33 = .ok (.iconst 1, 1) := by decide +kernel
theorem d_Citations_sortList_34 : decode prog_2_method_14_code 34 = .ok (.isub, 1) := by decide +kernel
theorem d_Citations_sortList_35 : decode prog_2_method_14_code 35 = .ok (.aaload, 1) := by decide +kernel
theorem d_Citations_sortList_36 : decode prog_2_method_14_code 36 = .ok (.getfield 70, 3) := by decide +kernel
theorem d_Citations_sortList_39 : decode prog_2_method_14_code 39 = .ok (.aload_n 3, 1) := by decide +kernel
theorem d_Citations_sortList_40 : decode prog_2_method_14_code 40 = .ok (.getfield 70, 3) := by decide +kernel
theorem d_Citations_sortList_43 : decode prog_2_method_14_code 43 = .ok (.invokevirtual 82, 3) := by decide +kernel
theorem d_Citations_sortList_46 : decode prog_2_method_14_code 46 = .ok (.ifCond .le 27, 3) := by decide +kernel
theorem d_Citations_sortList_49 : decode prog_2_method_14_code 49 = .ok (.aload_n 0, 1) := by decide +kernel
theorem d_Citations_sortList_50 : decode prog_2_method_14_code 50 = .ok (.getfield 27, 3) := by decide +kernel
theorem d_Citations_sortList_53 : decode prog_2_method_14_code 53 = .ok (.iload 4, 2) := by decide +kernel
theorem d_Citations_sortList_55 : decode prog_2_method_14_code 55 = .ok (.aload_n 0, 1) := by decide +kernel
theorem d_Citations_sortList_56 : decode prog_2_method_14_code 56 = .ok (.getfield 27, 3) := by decide +kernel
theorem d_Citations_sortList_59 : decode prog_2_method_14_code 59 = .ok (.iload 4, 2) := by decide +kernel
theorem d_Citations_sortList_61 : decode prog_2_method_14_code 61 = .ok (.iconst 1, 1) := by decide +kernel
theorem d_Citations_sortList_62 : decode prog_2_method_14_code 62 = .ok (.isub, 1) := by decide +kernel
theorem d_Citations_sortList_63 : decode prog_2_method_14_code 63 = .ok (.aaload, 1) := by decide +kernel
theorem d_Citations_sortList_64 : decode prog_2_method_14_code 64 = .ok (.aastore, 1) := by decide +kernel
theorem d_Citations_sortList_65 : decode prog_2_method_14_code 65 = .ok (.iinc 4 (-1), 3) := by decide +kernel
theorem d_Citations_sortList_68 : decode prog_2_method_14_code 68 = .ok (.iconst 1, 1) := by decide +kernel
theorem d_Citations_sortList_69 : decode prog_2_method_14_code 69 = .ok (.istore_n 1, 1) := by decide +kernel
theorem d_Citations_sortList_70 : decode prog_2_method_14_code 70 = .ok (.goto (-48), 3) := by decide +kernel
theorem d_Citations_sortList_73 : decode prog_2_method_14_code 73 = .ok (.aload_n 0, 1) := by decide +kernel
theorem d_Citations_sortList_74 : decode prog_2_method_14_code 74 = .ok (.getfield 27, 3) := by decide +kernel
theorem d_Citations_sortList_77 : decode prog_2_method_14_code 77 = .ok (.iload 4, 2) := by decide +kernel
theorem d_Citations_sortList_79 : decode prog_2_method_14_code 79 = .ok (.aload_n 3, 1) := by decide +kernel
theorem d_Citations_sortList_80 : decode prog_2_method_14_code 80 = .ok (.aastore, 1) := by decide +kernel
theorem d_Citations_sortList_81 : decode prog_2_method_14_code 81 = .ok (.iinc 2 1, 3) := by decide +kernel
theorem d_Citations_sortList_84 : decode prog_2_method_14_code 84 = .ok (.goto (-80), 3) := by decide +kernel
theorem d_Citations_sortList_87 : decode prog_2_method_14_code 87 = .ok (.iload_n 1, 1) := by decide +kernel
theorem d_Citations_sortList_88 : decode prog_2_method_14_code 88 = .ok (.ireturn, 1) := by decide +kernel
theorem d_Citations_isCited_0 : decode prog_2_method_4_code 0 = .ok (.iconst 0, 1) := by decide +kernel
theorem d_Citations_isCited_1 : decode prog_2_method_4_code 1 = .ok (.istore_n 3, 1) := by decide +kernel
theorem d_Citations_isCited_2 : decode prog_2_method_4_code 2 = .ok (.iload_n 3, 1) := by decide +kernel
theorem d_Citations_isCited_3 : decode prog_2_method_4_code 3 = .ok (.aload_n 0, 1) := by decide +kernel
theorem d_Citations_isCited_4 : decode prog_2_method_4_code 4 = .ok (.getfield 31, 3) := by decide +kernel
theorem d_Citations_isCited_7 : decode prog_2_method_4_code 7 = .ok (.if_icmp .ge 22, 3) := by decide +kernel
theorem d_Citations_isCited_10 : decode prog_2_method_4_code 10 = .ok (.aload_n 0, 1) := by decide +kernel
theorem d_Citations_isCited_11 : decode prog_2_method_4_code 11 = .ok (.getfield 19, 3) := by decide +kernel
theorem d_Citations_isCited_14 : decode prog_2_method_4_code 14 = .ok (.iload_n 3, 1) := by decide +kernel
theorem d_Citations_isCited_15 : decode prog_2_method_4_code 15 = .ok (.laload, 1) := by decide +kernel
theorem d_Citations_isCited_16 : decode prog_2_method_4_code 16 = .ok (.lload_n 1, 1) := by decide +kernel
theorem d_Citations_isCited_17 : decode prog_2_method_4_code 17 = .ok (.lcmp, 1) := by decide +kernel
theorem d_Citations_isCited_18 : decode prog_2_method_4_code 18 = .ok (.ifCond .ne 5, 3) := by decide +kernel
theorem d_Citations_isCited_21 : decode prog_2_method_4_code 21 = .ok (.iconst 1, 1) := by decide +kernel
theorem d_Citations_isCited_22 : decode prog_2_method_4_code 22 = .ok (.ireturn, 1) := by decide +kernel
theorem d_Citations_isCited_23 : decode prog_2_method_4_code 23 = .ok (.iinc 3 1, 3) := by decide +kernel
theorem d_Citations_isCited_26 : decode prog_2_method_4_code 26 = .ok (.goto (-24), 3) := by decide +kernel
theorem d_Citations_isCited_29 : decode prog_2_method_4_code 29 = .ok (.iconst 0, 1) := by decide +kernel
theorem d_Citations_isCited_30 : decode prog_2_method_4_code 30 = .ok (.ireturn, 1) := by decide +kernel
theorem d_Citations_isFull_0 : decode prog_2_method_3_code 0 = .ok (.aload_n 0, 1) := by decide +kernel
theorem d_Citations_isFull_1 : decode prog_2_method_3_code 1 = .ok (.getfield 31, 3) := by decide +kernel
theorem d_Citations_isFull_4 : decode prog_2_method_3_code 4 = .ok (.bipush 10, 2) := by decide +kernel
theorem d_Citations_isFull_6 : decode prog_2_method_3_code 6 = .ok (.if_icmp .lt 7, 3) := by decide +kernel
theorem d_Citations_isFull_9 : decode prog_2_method_3_code 9 = .ok (.iconst 1, 1) := by decide +kernel
theorem d_Citations_isFull_10 : decode prog_2_method_3_code 10 = .ok (.goto 4, 3) := by decide +kernel
theorem d_Citations_isFull_13 : decode prog_2_method_3_code 13 = .ok (.iconst 0, 1) := by decide +kernel
theorem d_Citations_isFull_14 : decode prog_2_method_3_code 14 = .ok (.ireturn, 1) := by decide +kernel
theorem d_Citations_add_0 : decode prog_2_method_5_code 0 = .ok (.aload_n 0, 1) := by decide +kernel
theorem d_Citations_add_1 : decode prog_2_method_5_code 1 = .ok (.invokevirtual 35, 3) := by decide +kernel
theorem d_Citations_add_4 : decode prog_2_method_5_code 4 = .ok (.ifCond .ne 23, 3) := by decide +kernel
theorem d_Citations_add_7 : decode prog_2_method_5_code 7 = .ok (.aload_n 0, 1) := by decide +kernel
theorem d_Citations_add_8 : decode prog_2_method_5_code 8 = .ok (.getfield 19, 3) := by decide +kernel
theorem d_Citations_add_11 : decode prog_2_method_5_code 11 = .ok (.aload_n 0, 1) := by decide +kernel
theorem d_Citations_add_12 : decode prog_2_method_5_code 12 = .ok (.getfield 31, 3) := by decide +kernel
theorem d_Citations_add_15 : decode prog_2_method_5_code 15 = .ok (.lload_n 1, 1) := by decide +kernel
theorem d_Citations_add_16 : decode prog_2_method_5_code 16 = .ok (.lastore, 1) := by decide +kernel
theorem d_Citations_add_17 : decode prog_2_method_5_code 17 = .ok (.aload_n 0, 1) := by decide +kernel
theorem d_Citations_add_18 : decode prog_2_method_5_code 18 = .ok (.dup, 1) := by decide +kernel
theorem d_Citations_add_19 : decode prog_2_method_5_code 19 = .ok (.getfield 31, 3) := by decide +kernel
theorem d_Citations_add_22 : decode prog_2_method_5_code 22 = .ok (.iconst 1, 1) := by decide +kernel
theorem d_Citations_add_23 : decode prog_2_method_5_code 23 = .ok (.iadd, 1) := by decide +kernel
theorem d_Citations_add_24 : decode prog_2_method_5_code 24 = .ok (.putfield 31, 3) := by decide +kernel
theorem d_Citations_add_27 : decode prog_2_method_5_code 27 = .ok (.return_, 1) := by decide +kernel
theorem d_Citations_makeList_0 : decode prog_2_method_11_code 0 = .ok (.aload_n 0, 1) := by decide +kernel
theorem d_Citations_makeList_1 : decode prog_2_method_11_code 1 = .ok (.iconst 0, 1) := by decide +kernel
theorem d_Citations_makeList_2 : decode prog_2_method_11_code 2 = .ok (.putfield 39, 3) := by decide +kernel
theorem d_Citations_makeList_5 : decode prog_2_method_11_code 5 = .ok (.iconst 0, 1) := by decide +kernel
theorem d_Citations_makeList_6 : decode prog_2_method_11_code 6 = .ok (.istore_n 2, 1) := by decide +kernel
theorem d_Citations_makeList_7 : decode prog_2_method_11_code 7 = .ok (.iload_n 2, 1) := by decide +kernel
theorem d_Citations_makeList_8 : decode prog_2_method_11_code 8 = .ok (.aload_n 0, 1) := by decide +kernel
theorem d_Citations_makeList_9 : decode prog_2_method_11_code 9 = .ok (.getfield 31, 3) := by decide +kernel
theorem d_Citations_makeList_12 : decode prog_2_method_11_code 12 = .ok (.if_icmp .ge 46, 3) := by decide +kernel
theorem d_Citations_makeList_15 : decode prog_2_method_11_code 15 = .ok (.aload_n 0, 1) := by decide +kernel
theorem d_Citations_makeList_16 : decode prog_2_method_11_code 16 = .ok (.getfield 9, 3) := by decide +kernel
theorem d_Citations_makeList_19 : decode prog_2_method_11_code 19 = .ok (.aload_n 0, 1) := by decide +kernel
theorem d_Citations_makeList_20 : decode prog_2_method_11_code 20 = .ok (.getfield 19, 3) := by decide +kernel
theorem d_Citations_makeList_23 : decode prog_2_method_11_code 23 = .ok (.iload_n 2, 1) := by decide +kernel
theorem d_Citations_makeList_24 : decode prog_2_method_11_code 24 = .ok (.laload, 1) := by decide +kernel
theorem d_Citations_makeList_25 : decode prog_2_method_11_code 25 = .ok (.invokevirtual 42, 3) := by decide +kernel
theorem d_Citations_makeList_28 : decode prog_2_method_11_code 28 = .ok (.astore_n 3, 1) := by decide +kernel
theorem d_Citations_makeList_29 : decode prog_2_method_11_code 29 = .ok (.aload_n 3, 1) := by decide +kernel
theorem d_Citations_makeList_30 : decode prog_2_method_11_code 30 = .ok (.ifnonnull 17, 3) := by decide +kernel
theorem d_Citations_makeList_33 : decode prog_2_method_11_code 33 = .ok (.aload_n 0, 1) := by decide +kernel
theorem d_Citations_makeList_34 : decode prog_2_method_11_code 34 = .ok (.getfield 15, 3) := by decide +kernel
theorem d_Citations_makeList_37 : decode prog_2_method_11_code 37 = .ok (.bipush 6, 2) := by decide +kernel
theorem d_Citations_makeList_39 : decode prog_2_method_11_code 39 = .ok (.dup2, 1) := by decide +kernel
theorem d_Citations_makeList_40 : decode prog_2_method_11_code 40 = .ok (.iaload, 1) := by decide +kernel
theorem d_Citations_makeList_41 : decode prog_2_method_11_code 41 = .ok (.iconst 1, 1) := by decide +kernel
theorem d_Citations_makeList_42 : decode prog_2_method_11_code 42 = .ok (.iadd, 1) := by decide +kernel
theorem d_Citations_makeList_43 : decode prog_2_method_11_code 43 = .ok (.iastore, 1) := by decide +kernel
theorem d_Citations_makeList_44 : decode prog_2_method_11_code 44 = .ok (.goto 8, 3) := by decide +kernel
theorem d_Citations_makeList_47 : decode prog_2_method_11_code 47 = .ok (.aload_n 0, 1) := by decide +kernel
theorem d_Citations_makeList_48 : decode prog_2_method_11_code 48 = .ok (.aload_n 3, 1) := by decide +kernel
theorem d_Citations_makeList_49 : decode prog_2_method_11_code 49 = .ok (.invokevirtual 46, 3) := by decide +kernel
theorem d_Citations_makeList_52 : decode prog_2_method_11_code 52 = .ok (.iinc 2 1, 3) := by decide +kernel
theorem d_Citations_makeList_55 : decode prog_2_method_11_code 55 = .ok (.goto (-48), 3) := by decide +kernel
theorem d_Citations_makeList_58 : decode prog_2_method_11_code 58 = .ok (.aload_n 0, 1) := by decide +kernel
theorem d_Citations_makeList_59 : decode prog_2_method_11_code 59 = .ok (.getfield 39, 3) := by decide +kernel
theorem d_Citations_makeList_62 : decode prog_2_method_11_code 62 = .ok (.istore_n 2, 1) := by decide +kernel
theorem d_Citations_makeList_63 : decode prog_2_method_11_code 63 = .ok (.iconst 0, 1) := by decide +kernel
theorem d_Citations_makeList_64 : decode prog_2_method_11_code 64 = .ok (.istore_n 3, 1) := by decide +kernel
theorem d_Citations_makeList_65 : decode prog_2_method_11_code 65 = .ok (.iload_n 3, 1) := by decide +kernel
theorem d_Citations_makeList_66 : decode prog_2_method_11_code 66 = .ok (.aload_n 0, 1) := by decide +kernel
theorem d_Citations_makeList_67 : decode prog_2_method_11_code 67 = .ok (.getfield 9, 3) := by decide +kernel
theorem d_Citations_makeList_70 : decode prog_2_method_11_code 70 = .ok (.invokevirtual 50, 3) := by decide +kernel
theorem d_Citations_makeList_73 : decode prog_2_method_11_code 73 = .ok (.if_icmp .ge 51, 3) := by decide +kernel
theorem d_Citations_makeList_76 : decode prog_2_method_11_code 76 = .ok (.aload_n 0, 1) := by decide +kernel
theorem d_Citations_makeList_77 : decode prog_2_method_11_code 77 = .ok (.getfield 9, 3) := by decide +kernel
theorem d_Citations_makeList_80 : decode prog_2_method_11_code 80 = .ok (.iload_n 3, 1) := by decide +kernel
theorem d_Citations_makeList_81 : decode prog_2_method_11_code 81 = .ok (.invokevirtual 54, 3) := by decide +kernel
theorem d_Citations_makeList_84 : decode prog_2_method_11_code 84 = .ok (.astore 4, 2) := by decide +kernel
theorem d_Citations_makeList_86 : decode prog_2_method_11_code 86 = .ok (.aload_n 0, 1) := by decide +kernel
theorem d_Citations_makeList_87 : decode prog_2_method_11_code 87 = .ok (.aload 4, 2) := by decide +kernel
theorem d_Citations_makeList_89 : decode prog_2_method_11_code 89 = .ok (.getfield 58, 3) := by decide +kernel
theorem d_Citations_makeList_92 : decode prog_2_method_11_code 92 = .ok (.invokevirtual 62, 3) := by decide +kernel
theorem d_Citations_makeList_95 : decode prog_2_method_11_code 95 = .ok (.ifCond .ne 23, 3) := by decide +kernel
theorem d_Citations_makeList_98 : decode prog_2_method_11_code 98 = .ok (.aload_n 0, 1) := by decide +kernel
theorem d_Citations_makeList_99 : decode prog_2_method_11_code 99 = .ok (.aload 4, 2) := by decide +kernel
theorem d_Citations_makeList_101 : decode prog_2_method_11_code 101 = .ok (.getfield 58, 3) := by decide +kernel
theorem d_Citations_makeList_104 : decode prog_2_method_11_code 104 = .ok (.iload_n 2, 1) := by decide +kernel
theorem d_Citations_makeList_105 : decode prog_2_method_11_code 105 = .ok (.invokevirtual 66, 3) := by decide +kernel
theorem d_Citations_makeList_108 : decode prog_2_method_11_code 108 = .ok (.iload_n 1, 1) := by decide +kernel
theorem d_Citations_makeList_109 : decode prog_2_method_11_code 109 = .ok (.if_icmp .lt 9, 3) := by decide +kernel
theorem d_Citations_makeList_112 : decode prog_2_method_11_code 112 = .ok (.aload_n 0, 1) := by decide +kernel
theorem d_Citations_makeList_113 : decode prog_2_method_11_code 113 = .ok (.aload 4, 2) := by decide +kernel
theorem d_Citations_makeList_115 : decode prog_2_method_11_code 115 = .ok (.invokevirtual 46, 3) := by decide +kernel
theorem d_Citations_makeList_118 : decode prog_2_method_11_code 118 = .ok (.iinc 3 1, 3) := by decide +kernel
theorem d_Citations_makeList_121 : decode prog_2_method_11_code 121 = .ok (.goto (-56), 3) := by decide +kernel
theorem d_Citations_makeList_124 : decode prog_2_method_11_code 124 = .ok (.return_, 1) := by decide +kernel
theorem d_Citations_addToList_0 : decode prog_2_method_12_code 0 = .ok (.aload_n 0, 1) := by decide +kernel
theorem d_Citations_addToList_1 : decode prog_2_method_12_code 1 = .ok (.getfield 39, 3) := by decide +kernel
theorem d_Citations_addToList_4 : decode prog_2_method_12_code 4 = .ok (.aload_n 0, 1) := by decide +kernel
theorem d_Citations_addToList_5 : decode prog_2_method_12_code 5 = .ok (.getfield 27, 3) := by decide +kernel
theorem d_Citations_addToList_8 : decode prog_2_method_12_code 8 = .ok (.arraylength, 1) := by decide +kernel
theorem d_Citations_addToList_9 : decode prog_2_method_12_code 9 = .ok (.if_icmp .ge 30, 3) := by decide +kernel
theorem d_Citations_addToList_12 : decode prog_2_method_12_code 12 = .ok (.aload_n 1, 1) := by decide +kernel
theorem d_Citations_addToList_13 : decode prog_2_method_12_code 13 = .ok (.getfield 70, 3) := by decide +kernel
theorem d_Citations_addToList_16 : decode prog_2_method_12_code 16 = .ok (.invokevirtual 74, 3) := by decide +kernel
theorem d_Citations_addToList_19 : decode prog_2_method_12_code 19 = .ok (.aload_n 0, 1) := by decide +kernel
theorem d_Citations_addToList_20 : decode prog_2_method_12_code 20 = .ok (.getfield 27, 3) := by decide +kernel
theorem d_Citations_addToList_23 : decode prog_2_method_12_code 23 = .ok (.aload_n 0, 1) := by decide +kernel
theorem d_Citations_addToList_24 : decode prog_2_method_12_code 24 = .ok (.getfield 39, 3) := by decide +kernel
theorem d_Citations_addToList_27 : decode prog_2_method_12_code 27 = .ok (.aload_n 1, 1) := by decide +kernel
theorem d_Citations_addToList_28 : decode prog_2_method_12_code 28 = .ok (.aastore, 1) := by decide +kernel
theorem d_Citations_addToList_29 : decode prog_2_method_12_code 29 = .ok (.aload_n 0, 1) := by decide +kernel
theorem d_Citations_addToList_30 : decode prog_2_method_12_code 30 = .ok (.dup, 1) := by decide +kernel
theorem d_Citations_addToList_31 : decode prog_2_method_12_code 31 = .ok (.getfield 39, 3) := by decide +kernel
theorem d_Citations_addToList_34 : decode prog_2_method_12_code 34 = .ok (.iconst 1, 1) := by decide +kernel
theorem d_Citations_addToList_35 : decode prog_2_method_12_code 35 = .ok (.iadd, 1) := by decide +kernel
theorem d_Citations_addToList_36 : decode prog_2_method_12_code 36 = .ok (.putfield 39, 3) := by decide +kernel
theorem d_Citations_addToList_39 : decode prog_2_method_12_code 39 = .ok (.return_, 1) := by decide +kernel
theorem d_Citations_referring_0 : decode prog_2_method_13_code 0 = .ok (.iconst 0, 1) := by decide +kernel
theorem d_Citations_referring_1 : decode prog_2_method_13_code 1 = .ok (.istore 4, 2) := by decide +kernel
theorem d_Citations_referring_3 : decode prog_2_method_13_code 3 = .ok (.iconst 0, 1) := by decide +kernel
theorem d_Citations_referring_4 : decode prog_2_method_13_code 4 = .ok (.istore 5, 2) := by decide +kernel
theorem d_Citations_referring_6 : decode prog_2_method_13_code 6 = .ok (.iload 5, 2) := by decide +kernel
theorem d_Citations_referring_8 : decode prog_2_method_13_code 8 = .ok (.iload_n 3, 1) := by decide +kernel
theorem d_Citations_referring_9 : decode prog_2_method_13_code 9 = .ok (.if_icmp .ge 27, 3) := by decide +kernel
theorem d_Citations_referring_12 : decode prog_2_method_13_code 12 = .ok (.aload_n 0, 1) := by decide +kernel
theorem d_Citations_referring_13 : decode prog_2_method_13_code 13 = .ok (.getfield 27, 3) := by decide +kernel
theorem d_Citations_referring_16 : decode prog_2_method_13_code 16 = .ok (.iload 5, 2) := by decide +kernel
theorem d_Citations_referring_18 : decode prog_2_method_13_code 18 = .ok (.aaload, 1) := by decide +kernel
theorem d_Citations_referring_19 : decode prog_2_method_13_code 19 = .ok (.getfield 79, 3) := by decide +kernel
theorem d_Citations_referring_22 : decode prog_2_method_13_code 22 = .ok (.lload_n 1, 1) := by decide +kernel
theorem d_Citations_referring_23 : decode prog_2_method_13_code 23 = .ok (.lcmp, 1) := by decide +kernel
theorem d_Citations_referring_24 : decode prog_2_method_13_code 24 = .ok (.ifCond .ne 6, 3) := by decide +kernel
theorem d_Citations_referring_27 : decode prog_2_method_13_code 27 = .ok (.iinc 4 1, 3) := by decide +kernel
theorem d_Citations_referring_30 : decode prog_2_method_13_code 30 = .ok (.iinc 5 1, 3) := by decide +kernel
theorem d_Citations_referring_33 : decode prog_2_method_13_code 33 = .ok (.goto (-27), 3) := by decide +kernel
theorem d_Citations_referring_36 : decode prog_2_method_13_code 36 = .ok (.iload 4, 2) := by decide +kernel
theorem d_Citations_referring_38 : decode prog_2_method_13_code 38 = .ok (.ireturn, 1) := by decide +kernel
theorem d_Citations_listSize_0 : decode prog_2_method_7_code 0 = .ok (.aload_n 0, 1) := by decide +kernel
theorem d_Citations_listSize_1 : decode prog_2_method_7_code 1 = .ok (.getfield 39, 3) := by decide +kernel
theorem d_Citations_listSize_4 : decode prog_2_method_7_code 4 = .ok (.ireturn, 1) := by decide +kernel
theorem d_Citations_isListed_0 : decode prog_2_method_8_code 0 = .ok (.iload_n 1, 1) := by decide +kernel
theorem d_Citations_isListed_1 : decode prog_2_method_8_code 1 = .ok (.ifCond .lt 15, 3) := by decide +kernel
theorem d_Citations_isListed_4 : decode prog_2_method_8_code 4 = .ok (.iload_n 1, 1) := by decide +kernel
theorem d_Citations_isListed_5 : decode prog_2_method_8_code 5 = .ok (.aload_n 0, 1) := by decide +kernel
theorem d_Citations_isListed_6 : decode prog_2_method_8_code 6 = .ok (.getfield 39, 3) := by decide +kernel
theorem d_Citations_isListed_9 : decode prog_2_method_8_code 9 = .ok (.if_icmp .ge 7, 3) := by decide +kernel
theorem d_Citations_isListed_12 : decode prog_2_method_8_code 12 = .ok (.iconst 1, 1) := by decide +kernel
theorem d_Citations_isListed_13 : decode prog_2_method_8_code 13 = .ok (.goto 4, 3) := by decide +kernel
theorem d_Citations_isListed_16 : decode prog_2_method_8_code 16 = .ok (.iconst 0, 1) := by decide +kernel
theorem d_Citations_isListed_17 : decode prog_2_method_8_code 17 = .ok (.ireturn, 1) := by decide +kernel
theorem d_Citations_listed_0 : decode prog_2_method_9_code 0 = .ok (.aload_n 0, 1) := by decide +kernel
theorem d_Citations_listed_1 : decode prog_2_method_9_code 1 = .ok (.getfield 27, 3) := by decide +kernel
theorem d_Citations_listed_4 : decode prog_2_method_9_code 4 = .ok (.iload_n 1, 1) := by decide +kernel
theorem d_Citations_listed_5 : decode prog_2_method_9_code 5 = .ok (.aaload, 1) := by decide +kernel
theorem d_Citations_listed_6 : decode prog_2_method_9_code 6 = .ok (.areturn, 1) := by decide +kernel
theorem d_Citations_size_0 : decode prog_2_method_2_code 0 = .ok (.aload_n 0, 1) := by decide +kernel
theorem d_Citations_size_1 : decode prog_2_method_2_code 1 = .ok (.getfield 31, 3) := by decide +kernel
theorem d_Citations_size_4 : decode prog_2_method_2_code 4 = .ok (.ireturn, 1) := by decide +kernel
theorem d_Stack_init_0 : decode prog_10_method_1_code 0 = .ok (.aload_n 0, 1) := by decide +kernel
theorem d_Stack_init_1 : decode prog_10_method_1_code 1 = .ok (.invokespecial 3, 3) := by decide +kernel
theorem d_Stack_init_4 : decode prog_10_method_1_code 4 = .ok (.aload_n 0, 1) := by decide +kernel
theorem d_Stack_init_5 : decode prog_10_method_1_code 5 = .ok (.aload_n 1, 1) := by decide +kernel
theorem d_Stack_init_6 : decode prog_10_method_1_code 6 = .ok (.putfield 9, 3) := by decide +kernel
theorem d_Stack_init_9 : decode prog_10_method_1_code 9 = .ok (.aload_n 0, 1) := by decide +kernel
theorem d_Stack_init_10 : decode prog_10_method_1_code 10 = .ok (.bipush 12, 2) := by decide +kernel
theorem d_Stack_init_12 : decode prog_10_method_1_code 12 = .ok (.anewarray 15, 3) := by decide +kernel
theorem d_Stack_init_15 : decode prog_10_method_1_code 15 = .ok (.putfield 17, 3) := by decide +kernel
theorem d_Stack_init_18 : decode prog_10_method_1_code 18 = .ok (.iconst 0, 1) := by decide +kernel
theorem d_Stack_init_19 : decode prog_10_method_1_code 19 = .ok (.istore_n 2, 1) := by decide +kernel
theorem d_Stack_init_20 : decode prog_10_method_1_code 20 = .ok (.iload_n 2, 1) := by decide +kernel
theorem d_Stack_init_21 : decode prog_10_method_1_code 21 = .ok (.bipush 12, 2) := by decide +kernel
theorem d_Stack_init_23 : decode prog_10_method_1_code 23 = .ok (.if_icmp .ge 22, 3) := by decide +kernel
theorem d_Stack_init_26 : decode prog_10_method_1_code 26 = .ok (.aload_n 0, 1) := by decide +kernel
theorem d_Stack_init_27 : decode prog_10_method_1_code 27 = .ok (.getfield 17, 3) := by decide +kernel
theorem d_Stack_init_30 : decode prog_10_method_1_code 30 = .ok (.iload_n 2, 1) := by decide +kernel
theorem d_Stack_init_31 : decode prog_10_method_1_code 31 = .ok (.new 15, 3) := by decide +kernel
theorem d_Stack_init_34 : decode prog_10_method_1_code 34 = .ok (.dup, 1) := by decide +kernel
theorem d_Stack_init_35 : decode prog_10_method_1_code 35 = .ok (.invokespecial 21, 3) := by decide +kernel
theorem d_Stack_init_38 : decode prog_10_method_1_code 38 = .ok (.aastore, 1) := by decide +kernel
theorem d_Stack_init_39 : decode prog_10_method_1_code 39 = .ok (.iinc 2 1, 3) := by decide +kernel
theorem d_Stack_init_42 : decode prog_10_method_1_code 42 = .ok (.goto (-22), 3) := by decide +kernel
theorem d_Stack_init_45 : decode prog_10_method_1_code 45 = .ok (.return_, 1) := by decide +kernel
theorem d_Stack_size_0 : decode prog_10_method_2_code 0 = .ok (.aload_n 0, 1) := by decide +kernel
theorem d_Stack_size_1 : decode prog_10_method_2_code 1 = .ok (.getfield 22, 3) := by decide +kernel
theorem d_Stack_size_4 : decode prog_10_method_2_code 4 = .ok (.ireturn, 1) := by decide +kernel
theorem d_Stack_dropAll_0 : decode prog_10_method_5_code 0 = .ok (.aload_n 0, 1) := by decide +kernel
theorem d_Stack_dropAll_1 : decode prog_10_method_5_code 1 = .ok (.getfield 22, 3) := by decide +kernel
theorem d_Stack_dropAll_4 : decode prog_10_method_5_code 4 = .ok (.istore_n 1, 1) := by decide +kernel
theorem d_Stack_dropAll_5 : decode prog_10_method_5_code 5 = .ok (.aload_n 0, 1) := by decide +kernel
theorem d_Stack_dropAll_6 : decode prog_10_method_5_code 6 = .ok (.iconst 0, 1) := by decide +kernel
theorem d_Stack_dropAll_7 : decode prog_10_method_5_code 7 = .ok (.putfield 22, 3) := by decide +kernel
theorem d_Stack_dropAll_10 : decode prog_10_method_5_code 10 = .ok (.iload_n 1, 1) := by decide +kernel
theorem d_Stack_dropAll_11 : decode prog_10_method_5_code 11 = .ok (.ireturn, 1) := by decide +kernel
theorem d_Stack_giveNumber_0 : decode prog_10_method_9_code 0 = .ok (.aload_n 0, 1) := by decide +kernel
theorem d_Stack_giveNumber_1 : decode prog_10_method_9_code 1 = .ok (.invokevirtual 53, 3) := by decide +kernel
theorem d_Stack_giveNumber_4 : decode prog_10_method_9_code 4 = .ok (.ifCond .eq 18, 3) := by decide +kernel
theorem d_Stack_giveNumber_7 : decode prog_10_method_9_code 7 = .ok (.aload_n 0, 1) := by decide +kernel
theorem d_Stack_giveNumber_8 : decode prog_10_method_9_code 8 = .ok (.getfield 17, 3) := by decide +kernel
theorem d_Stack_giveNumber_11 : decode prog_10_method_9_code 11 = .ok (.aload_n 0, 1) := by decide +kernel
theorem d_Stack_giveNumber_12 : decode prog_10_method_9_code 12 = .ok (.getfield 22, 3) := by decide +kernel
theorem d_Stack_giveNumber_15 : decode prog_10_method_9_code 15 = .ok (.iconst 1, 1) := by decide +kernel
theorem d_Stack_giveNumber_16 : decode prog_10_method_9_code 16 = .ok (.isub, 1) := by decide +kernel
theorem d_Stack_giveNumber_17 : decode prog_10_method_9_code 17 = .ok (.aaload, 1) := by decide +kernel
theorem d_Stack_giveNumber_18 : decode prog_10_method_9_code 18 = .ok (.iload_n 1, 1) := by decide +kernel
theorem d_Stack_giveNumber_19 : decode prog_10_method_9_code 19 = .ok (.invokevirtual 26, 3) := by decide +kernel
theorem d_Stack_giveNumber_22 : decode prog_10_method_9_code 22 = .ok (.return_, 1) := by decide +kernel
theorem d_Stack_makeRoom_0 : decode prog_10_method_13_code 0 = .ok (.aload_n 0, 1) := by decide +kernel
theorem d_Stack_makeRoom_1 : decode prog_10_method_13_code 1 = .ok (.getfield 22, 3) := by decide +kernel
theorem d_Stack_makeRoom_4 : decode prog_10_method_13_code 4 = .ok (.bipush 12, 2) := by decide +kernel
theorem d_Stack_makeRoom_6 : decode prog_10_method_13_code 6 = .ok (.if_icmp .lt 16, 3) := by decide +kernel
theorem d_Stack_makeRoom_9 : decode prog_10_method_13_code 9 = .ok (.aload_n 0, 1) := by decide +kernel
theorem d_Stack_makeRoom_10 : decode prog_10_method_13_code 10 = .ok (.getfield 9, 3) := by decide +kernel
theorem d_Stack_makeRoom_13 : decode prog_10_method_13_code 13 = .ok (.bipush 8, 2) := by decide +kernel
theorem d_Stack_makeRoom_15 : decode prog_10_method_13_code 15 = .ok (.dup2, 1) := by decide +kernel
theorem d_Stack_makeRoom_16 : decode prog_10_method_13_code 16 = .ok (.iaload, 1) := by decide +kernel
theorem d_Stack_makeRoom_17 : decode prog_10_method_13_code 17 = .ok (.iconst 1, 1) := by decide +kernel
theorem d_Stack_makeRoom_18 : decode prog_10_method_13_code 18 = .ok (.iadd, 1) := by decide +kernel
theorem d_Stack_makeRoom_19 : decode prog_10_method_13_code 19 = .ok (.iastore, 1) := by decide +kernel
theorem d_Stack_makeRoom_20 : decode prog_10_method_13_code 20 = .ok (.iconst 0, 1) := by decide +kernel
theorem d_Stack_makeRoom_21 : decode prog_10_method_13_code 21 = .ok (.ireturn, 1) := by decide +kernel
theorem d_Stack_makeRoom_22 : decode prog_10_method_13_code 22 = .ok (.aload_n 0, 1) := by decide +kernel
theorem d_Stack_makeRoom_23 : decode prog_10_method_13_code 23 = .ok (.dup, 1) := by decide +kernel
theorem d_Stack_makeRoom_24 : decode prog_10_method_13_code 24 = .ok (.getfield 22, 3) := by decide +kernel
theorem d_Stack_makeRoom_27 : decode prog_10_method_13_code 27 = .ok (.iconst 1, 1) := by decide +kernel
theorem d_Stack_makeRoom_28 : decode prog_10_method_13_code 28 = .ok (.iadd, 1) := by decide +kernel
theorem d_Stack_makeRoom_29 : decode prog_10_method_13_code 29 = .ok (.putfield 22, 3) := by decide +kernel
theorem d_Stack_makeRoom_32 : decode prog_10_method_13_code 32 = .ok (.iconst 1, 1) := by decide +kernel
theorem d_Stack_makeRoom_33 : decode prog_10_method_13_code 33 = .ok (.ireturn, 1) := by decide +kernel
theorem d_Stack_giveText_0 : decode prog_10_method_11_code 0 = .ok (.aload_n 0, 1) := by decide +kernel
theorem d_Stack_giveText_1 : decode prog_10_method_11_code 1 = .ok (.invokevirtual 53, 3) := by decide +kernel
theorem d_Stack_giveText_4 : decode prog_10_method_11_code 4 = .ok (.ifCond .ne 4, 3) := by decide +kernel
theorem d_Stack_giveText_7 : decode prog_10_method_11_code 7 = .ok (.return_, 1) := by decide +kernel
theorem d_Stack_giveText_8 : decode prog_10_method_11_code 8 = .ok (.aload_n 1, 1) := by decide +kernel
theorem d_Stack_giveText_9 : decode prog_10_method_11_code 9 = .ok (.ifnonnull 20, 3) := by decide +kernel
theorem d_Stack_giveText_12 : decode prog_10_method_11_code 12 = .ok (.aload_n 0, 1) := by decide +kernel
theorem d_Stack_giveText_13 : decode prog_10_method_11_code 13 = .ok (.getfield 17, 3) := by decide +kernel
theorem d_Stack_giveText_16 : decode prog_10_method_11_code 16 = .ok (.aload_n 0, 1) := by decide +kernel
theorem d_Stack_giveText_17 : decode prog_10_method_11_code 17 = .ok (.getfield 22, 3) := by decide +kernel
theorem d_Stack_giveText_20 : decode prog_10_method_11_code 20 = .ok (.iconst 1, 1) := by decide +kernel
theorem d_Stack_giveText_21 : decode prog_10_method_11_code 21 = .ok (.isub, 1) := by decide +kernel
theorem d_Stack_giveText_22 : decode prog_10_method_11_code 22 = .ok (.aaload, 1) := by decide +kernel
theorem d_Stack_giveText_23 : decode prog_10_method_11_code 23 = .ok (.invokevirtual 59, 3) := by decide +kernel
theorem d_Stack_giveText_26 : decode prog_10_method_11_code 26 = .ok (.goto 18, 3) := by decide +kernel
theorem d_Stack_giveText_29 : decode prog_10_method_11_code 29 = .ok (.aload_n 0, 1) := by decide +kernel
theorem d_Stack_giveText_30 : decode prog_10_method_11_code 30 = .ok (.getfield 17, 3) := by decide +kernel
theorem d_Stack_giveText_33 : decode prog_10_method_11_code 33 = .ok (.aload_n 0, 1) := by decide +kernel
theorem d_Stack_giveText_34 : decode prog_10_method_11_code 34 = .ok (.getfield 22, 3) := by decide +kernel
theorem d_Stack_giveText_37 : decode prog_10_method_11_code 37 = .ok (.iconst 1, 1) := by decide +kernel
theorem d_Stack_giveText_38 : decode prog_10_method_11_code 38 = .ok (.isub, 1) := by decide +kernel
theorem d_Stack_giveText_39 : decode prog_10_method_11_code 39 = .ok (.aaload, 1) := by decide +kernel
theorem d_Stack_giveText_40 : decode prog_10_method_11_code 40 = .ok (.aload_n 1, 1) := by decide +kernel
theorem d_Stack_giveText_41 : decode prog_10_method_11_code 41 = .ok (.invokevirtual 62, 3) := by decide +kernel
theorem d_Stack_giveText_44 : decode prog_10_method_11_code 44 = .ok (.return_, 1) := by decide +kernel
theorem d_Stack_takeAny_0 : decode prog_10_method_6_code 0 = .ok (.aload_n 0, 1) := by decide +kernel
theorem d_Stack_takeAny_1 : decode prog_10_method_6_code 1 = .ok (.getfield 22, 3) := by decide +kernel
theorem d_Stack_takeAny_4 : decode prog_10_method_6_code 4 = .ok (.ifCond .ne 20, 3) := by decide +kernel
theorem d_Stack_takeAny_7 : decode prog_10_method_6_code 7 = .ok (.aload_n 0, 1) := by decide +kernel
theorem d_Stack_takeAny_8 : decode prog_10_method_6_code 8 = .ok (.getfield 9, 3) := by decide +kernel
theorem d_Stack_takeAny_11 : decode prog_10_method_6_code 11 = .ok (.bipush 7, 2) := by decide +kernel
theorem d_Stack_takeAny_13 : decode prog_10_method_6_code 13 = .ok (.dup2, 1) := by decide +kernel
theorem d_Stack_takeAny_14 : decode prog_10_method_6_code 14 = .ok (.iaload, 1) := by decide +kernel
theorem d_Stack_takeAny_15 : decode prog_10_method_6_code 15 = .ok (.iconst 1, 1) := by decide +kernel
theorem d_Stack_takeAny_16 : decode prog_10_method_6_code 16 = .ok (.iadd, 1) := by decide +kernel
theorem d_Stack_takeAny_17 : decode prog_10_method_6_code 17 = .ok (.iastore, 1) := by decide +kernel
theorem d_Stack_takeAny_18 : decode prog_10_method_6_code 18 = .ok (.aload_n 1, 1) := by decide +kernel
theorem d_Stack_takeAny_19 : decode prog_10_method_6_code 19 = .ok (.iconst 0, 1) := by decide +kernel
theorem d_Stack_takeAny_20 : decode prog_10_method_6_code 20 = .ok (.invokevirtual 26, 3) := by decide +kernel
theorem d_Stack_takeAny_23 : decode prog_10_method_6_code 23 = .ok (.return_, 1) := by decide +kernel
theorem d_Stack_takeAny_24 : decode prog_10_method_6_code 24 = .ok (.aload_n 0, 1) := by decide +kernel
theorem d_Stack_takeAny_25 : decode prog_10_method_6_code 25 = .ok (.dup, 1) := by decide +kernel
theorem d_Stack_takeAny_26 : decode prog_10_method_6_code 26 = .ok (.getfield 22, 3) := by decide +kernel
theorem d_Stack_takeAny_29 : decode prog_10_method_6_code 29 = .ok (.iconst 1, 1) := by decide +kernel
theorem d_Stack_takeAny_30 : decode prog_10_method_6_code 30 = .ok (.isub, 1) := by decide +kernel
theorem d_Stack_takeAny_31 : decode prog_10_method_6_code 31 = .ok (.putfield 22, 3) := by decide +kernel
theorem d_Stack_takeAny_34 : decode prog_10_method_6_code 34 = .ok (.aload_n 1, 1) := by decide +kernel
theorem d_Stack_takeAny_35 : decode prog_10_method_6_code 35 = .ok (.aload_n 0, 1) := by decide +kernel
theorem d_Stack_takeAny_36 : decode prog_10_method_6_code 36 = .ok (.getfield 17, 3) := by decide +kernel
theorem d_Stack_takeAny_39 : decode prog_10_method_6_code 39 = .ok (.aload_n 0, 1) := by decide +kernel
theorem d_Stack_takeAny_40 : decode prog_10_method_6_code 40 = .ok (.getfield 22, 3) := by decide +kernel
theorem d_Stack_takeAny_43 : decode prog_10_method_6_code 43 = .ok (.aaload, 1) := by decide +kernel
theorem d_Stack_takeAny_44 : decode prog_10_method_6_code 44 = .ok (.invokevirtual 30, 3) := by decide +kernel
theorem d_Stack_takeAny_47 : decode prog_10_method_6_code 47 = .ok (.return_, 1) := by decide +kernel
theorem d_Stack_giveTruth_0 : decode prog_10_method_10_code 0 = .ok (.aload_n 0, 1) := by decide +kernel
theorem d_Stack_giveTruth_1 : decode prog_10_method_10_code 1 = .ok (.iload_n 1, 1) := by decide +kernel
theorem d_Stack_giveTruth_2 : decode prog_10_method_10_code 2 = .ok (.ifCond .eq 7, 3) := by decide +kernel
theorem d_Stack_giveTruth_5 : decode prog_10_method_10_code 5 = .ok (.iconst 1, 1) := by decide +kernel
theorem d_Stack_giveTruth_6 : decode prog_10_method_10_code 6 = .ok (.goto 4, 3) := by decide +kernel
theorem d_Stack_giveTruth_9 : decode prog_10_method_10_code 9 = .ok (.iconst 0, 1) := by decide +kernel
theorem d_Stack_giveTruth_10 : decode prog_10_method_10_code 10 = .ok (.invokevirtual 56, 3) := by decide +kernel
theorem d_Stack_giveTruth_13 : decode prog_10_method_10_code 13 = .ok (.return_, 1) := by decide +kernel
theorem d_Stack_takeText_0 : decode prog_10_method_8_code 0 = .ok (.aload_n 1, 1) := by decide +kernel
theorem d_Stack_takeText_1 : decode prog_10_method_8_code 1 = .ok (.invokevirtual 41, 3) := by decide +kernel
theorem d_Stack_takeText_4 : decode prog_10_method_8_code 4 = .ok (.aload_n 0, 1) := by decide +kernel
theorem d_Stack_takeText_5 : decode prog_10_method_8_code 5 = .ok (.getfield 22, 3) := by decide +kernel
theorem d_Stack_takeText_8 : decode prog_10_method_8_code 8 = .ok (.ifCond .ne 15, 3) := by decide +kernel
theorem d_Stack_takeText_11 : decode prog_10_method_8_code 11 = .ok (.aload_n 0, 1) := by decide +kernel
theorem d_Stack_takeText_12 : decode prog_10_method_8_code 12 = .ok (.getfield 9, 3) := by decide +kernel
theorem d_Stack_takeText_15 : decode prog_10_method_8_code 15 = .ok (.bipush 7, 2) := by decide +kernel
theorem d_Stack_takeText_17 : decode prog_10_method_8_code 17 = .ok (.dup2, 1) := by decide +kernel
theorem d_Stack_takeText_18 : decode prog_10_method_8_code 18 = .ok (.iaload, 1) := by decide +kernel
theorem d_Stack_takeText_19 : decode prog_10_method_8_code 19 = .ok (.iconst 1, 1) := by decide +kernel
theorem d_Stack_takeText_20 : decode prog_10_method_8_code 20 = .ok (.iadd, 1) := by decide +kernel
theorem d_Stack_takeText_21 : decode prog_10_method_8_code 21 = .ok (.iastore, 1) := by decide +kernel
theorem d_Stack_takeText_22 : decode prog_10_method_8_code 22 = .ok (.return_, 1) := by decide +kernel
theorem d_Stack_takeText_23 : decode prog_10_method_8_code 23 = .ok (.aload_n 0, 1) := by decide +kernel
theorem d_Stack_takeText_24 : decode prog_10_method_8_code 24 = .ok (.dup, 1) := by decide +kernel
theorem d_Stack_takeText_25 : decode prog_10_method_8_code 25 = .ok (.getfield 22, 3) := by decide +kernel
theorem d_Stack_takeText_28 : decode prog_10_method_8_code 28 = .ok (.iconst 1, 1) := by decide +kernel
theorem d_Stack_takeText_29 : decode prog_10_method_8_code 29 = .ok (.isub, 1) := by decide +kernel
theorem d_Stack_takeText_30 : decode prog_10_method_8_code 30 = .ok (.putfield 22, 3) := by decide +kernel
theorem d_Stack_takeText_33 : decode prog_10_method_8_code 33 = .ok (.aload_n 0, 1) := by decide +kernel
theorem d_Stack_takeText_34 : decode prog_10_method_8_code 34 = .ok (.getfield 17, 3) := by decide +kernel
theorem d_Stack_takeText_37 : decode prog_10_method_8_code 37 = .ok (.aload_n 0, 1) := by decide +kernel
theorem d_Stack_takeText_38 : decode prog_10_method_8_code 38 = .ok (.getfield 22, 3) := by decide +kernel
theorem d_Stack_takeText_41 : decode prog_10_method_8_code 41 = .ok (.aaload, 1) := by decide +kernel
theorem d_Stack_takeText_42 : decode prog_10_method_8_code 42 = .ok (.invokevirtual 34, 3) := by decide +kernel
theorem d_Stack_takeText_45 : decode prog_10_method_8_code 45 = .ok (.ifCond .eq 15, 3) := by decide +kernel
theorem d_Stack_takeText_48 : decode prog_10_method_8_code 48 = .ok (.aload_n 0, 1) := by decide +kernel
theorem d_Stack_takeText_49 : decode prog_10_method_8_code 49 = .ok (.getfield 9, 3) := by decide +kernel
theorem d_Stack_takeText_52 : decode prog_10_method_8_code 52 = .ok (.bipush 7, 2) := by decide +kernel
theorem d_Stack_takeText_54 : decode prog_10_method_8_code 54 = .ok (.dup2, 1) := by decide +kernel
theorem d_Stack_takeText_55 : decode prog_10_method_8_code 55 = .ok (.iaload, 1) := by decide +kernel
theorem d_Stack_takeText_56 : decode prog_10_method_8_code 56 = .ok (.iconst 1, 1) := by decide +kernel
theorem d_Stack_takeText_57 : decode prog_10_method_8_code 57 = .ok (.iadd, 1) := by decide +kernel
theorem d_Stack_takeText_58 : decode prog_10_method_8_code 58 = .ok (.iastore, 1) := by decide +kernel
theorem d_Stack_takeText_59 : decode prog_10_method_8_code 59 = .ok (.return_, 1) := by decide +kernel
theorem d_Stack_takeText_60 : decode prog_10_method_8_code 60 = .ok (.aload_n 1, 1) := by decide +kernel
theorem d_Stack_takeText_61 : decode prog_10_method_8_code 61 = .ok (.aload_n 0, 1) := by decide +kernel
theorem d_Stack_takeText_62 : decode prog_10_method_8_code 62 = .ok (.getfield 17, 3) := by decide +kernel
theorem d_Stack_takeText_65 : decode prog_10_method_8_code 65 = .ok (.aload_n 0, 1) := by decide +kernel
theorem d_Stack_takeText_66 : decode prog_10_method_8_code 66 = .ok (.getfield 22, 3) := by decide +kernel
theorem d_Stack_takeText_69 : decode prog_10_method_8_code 69 = .ok (.aaload, 1) := by decide +kernel
theorem d_Stack_takeText_70 : decode prog_10_method_8_code 70 = .ok (.getfield 46, 3) := by decide +kernel
theorem d_Stack_takeText_73 : decode prog_10_method_8_code 73 = .ok (.invokevirtual 50, 3) := by decide +kernel
theorem d_Stack_takeText_76 : decode prog_10_method_8_code 76 = .ok (.return_, 1) := by decide +kernel
theorem d_Stack_giveAny_0 : decode prog_10_method_12_code 0 = .ok (.aload_n 0, 1) := by decide +kernel
theorem d_Stack_giveAny_1 : decode prog_10_method_12_code 1 = .ok (.invokevirtual 53, 3) := by decide +kernel
theorem d_Stack_giveAny_4 : decode prog_10_method_12_code 4 = .ok (.ifCond .eq 18, 3) := by decide +kernel
theorem d_Stack_giveAny_7 : decode prog_10_method_12_code 7 = .ok (.aload_n 0, 1) := by decide +kernel
theorem d_Stack_giveAny_8 : decode prog_10_method_12_code 8 = .ok (.getfield 17, 3) := by decide +kernel
theorem d_Stack_giveAny_11 : decode prog_10_method_12_code 11 = .ok (.aload_n 0, 1) := by decide +kernel
theorem d_Stack_giveAny_12 : decode prog_10_method_12_code 12 = .ok (.getfield 22, 3) := by decide +kernel
theorem d_Stack_giveAny_15 : decode prog_10_method_12_code 15 = .ok (.iconst 1, 1) := by decide +kernel
theorem d_Stack_giveAny_16 : decode prog_10_method_12_code 16 = .ok (.isub, 1) := by decide +kernel
theorem d_Stack_giveAny_17 : decode prog_10_method_12_code 17 = .ok (.aaload, 1) := by decide +kernel
theorem d_Stack_giveAny_18 : decode prog_10_method_12_code 18 = .ok (.aload_n 1, 1) := by decide +kernel
theorem d_Stack_giveAny_19 : decode prog_10_method_12_code 19 = .ok (.invokevirtual 30, 3) := by decide +kernel
theorem d_Stack_giveAny_22 : decode prog_10_method_12_code 22 = .ok (.return_, 1) := by decide +kernel
theorem d_Stack_takeNumber_0 : decode prog_10_method_7_code 0 = .ok (.aload_n 0, 1) := by decide +kernel
theorem d_Stack_takeNumber_1 : decode prog_10_method_7_code 1 = .ok (.getfield 22, 3) := by decide +kernel
theorem d_Stack_takeNumber_4 : decode prog_10_method_7_code 4 = .ok (.ifCond .ne 16, 3) := by decide +kernel
theorem d_Stack_takeNumber_7 : decode prog_10_method_7_code 7 = .ok (.aload_n 0, 1) := by decide +kernel
theorem d_Stack_takeNumber_8 : decode prog_10_method_7_code 8 = .ok (.getfield 9, 3) := by decide +kernel
theorem d_Stack_takeNumber_11 : decode prog_10_method_7_code 11 = .ok (.bipush 7, 2) := by decide +kernel
theorem d_Stack_takeNumber_13 : decode prog_10_method_7_code 13 = .ok (.dup2, 1) := by decide +kernel
theorem d_Stack_takeNumber_14 : decode prog_10_method_7_code 14 = .ok (.iaload, 1) := by decide +kernel
theorem d_Stack_takeNumber_15 : decode prog_10_method_7_code 15 = .ok (.iconst 1, 1) := by decide +kernel
theorem d_Stack_takeNumber_16 : decode prog_10_method_7_code 16 = .ok (.iadd, 1) := by decide +kernel
theorem d_Stack_takeNumber_17 : decode prog_10_method_7_code 17 = .ok (.iastore, 1) := by decide +kernel
theorem d_Stack_takeNumber_18 : decode prog_10_method_7_code 18 = .ok (.iconst 0, 1) := by decide +kernel
theorem d_Stack_takeNumber_19 : decode prog_10_method_7_code 19 = .ok (.ireturn, 1) := by decide +kernel
theorem d_Stack_takeNumber_20 : decode prog_10_method_7_code 20 = .ok (.aload_n 0, 1) := by decide +kernel
theorem d_Stack_takeNumber_21 : decode prog_10_method_7_code 21 = .ok (.dup, 1) := by decide +kernel
theorem d_Stack_takeNumber_22 : decode prog_10_method_7_code 22 = .ok (.getfield 22, 3) := by decide +kernel
theorem d_Stack_takeNumber_25 : decode prog_10_method_7_code 25 = .ok (.iconst 1, 1) := by decide +kernel
theorem d_Stack_takeNumber_26 : decode prog_10_method_7_code 26 = .ok (.isub, 1) := by decide +kernel
theorem d_Stack_takeNumber_27 : decode prog_10_method_7_code 27 = .ok (.putfield 22, 3) := by decide +kernel
theorem d_Stack_takeNumber_30 : decode prog_10_method_7_code 30 = .ok (.aload_n 0, 1) := by decide +kernel
theorem d_Stack_takeNumber_31 : decode prog_10_method_7_code 31 = .ok (.getfield 17, 3) := by decide +kernel
theorem d_Stack_takeNumber_34 : decode prog_10_method_7_code 34 = .ok (.aload_n 0, 1) := by decide +kernel
theorem d_Stack_takeNumber_35 : decode prog_10_method_7_code 35 = .ok (.getfield 22, 3) := by decide +kernel
theorem d_Stack_takeNumber_38 : decode prog_10_method_7_code 38 = .ok (.aaload, 1) := by decide +kernel
theorem d_Stack_takeNumber_39 : decode prog_10_method_7_code 39 = .ok (.invokevirtual 34, 3) := by decide +kernel
theorem d_Stack_takeNumber_42 : decode prog_10_method_7_code 42 = .ok (.ifCond .ne 16, 3) := by decide +kernel
theorem d_Stack_takeNumber_45 : decode prog_10_method_7_code 45 = .ok (.aload_n 0, 1) := by decide +kernel
theorem d_Stack_takeNumber_46 : decode prog_10_method_7_code 46 = .ok (.getfield 9, 3) := by decide +kernel
theorem d_Stack_takeNumber_49 : decode prog_10_method_7_code 49 = .ok (.bipush 7, 2) := by decide +kernel
theorem d_Stack_takeNumber_51 : decode prog_10_method_7_code 51 = .ok (.dup2, 1) := by decide +kernel
theorem d_Stack_takeNumber_52 : decode prog_10_method_7_code 52 = .ok (.iaload, 1) := by decide +kernel
theorem d_Stack_takeNumber_53 : decode prog_10_method_7_code 53 = .ok (.iconst 1, 1) := by decide +kernel
theorem d_Stack_takeNumber_54 : decode prog_10_method_7_code 54 = .ok (.iadd, 1) := by decide +kernel
theorem d_Stack_takeNumber_55 : decode prog_10_method_7_code 55 = .ok (.iastore, 1) := by decide +kernel
theorem d_Stack_takeNumber_56 : decode prog_10_method_7_code 56 = .ok (.iconst 0, 1) := by decide +kernel
theorem d_Stack_takeNumber_57 : decode prog_10_method_7_code 57 = .ok (.ireturn, 1) := by decide +kernel
theorem d_Stack_takeNumber_58 : decode prog_10_method_7_code 58 = .ok (.aload_n 0, 1) := by decide +kernel
theorem d_Stack_takeNumber_59 : decode prog_10_method_7_code 59 = .ok (.getfield 17, 3) := by decide +kernel
theorem d_Stack_takeNumber_62 : decode prog_10_method_7_code 62 = .ok (.aload_n 0, 1) := by decide +kernel
theorem d_Stack_takeNumber_63 : decode prog_10_method_7_code 63 = .ok (.getfield 22, 3) := by decide +kernel
theorem d_Stack_takeNumber_66 : decode prog_10_method_7_code 66 = .ok (.aaload, 1) := by decide +kernel
theorem d_Stack_takeNumber_67 : decode prog_10_method_7_code 67 = .ok (.getfield 38, 3) := by decide +kernel
theorem d_Stack_takeNumber_70 : decode prog_10_method_7_code 70 = .ok (.ireturn, 1) := by decide +kernel
theorem d_Stack_has_0 : decode prog_10_method_3_code 0 = .ok (.iload_n 1, 1) := by decide +kernel
theorem d_Stack_has_1 : decode prog_10_method_3_code 1 = .ok (.ifCond .lt 15, 3) := by decide +kernel
theorem d_Stack_has_4 : decode prog_10_method_3_code 4 = .ok (.iload_n 1, 1) := by decide +kernel
theorem d_Stack_has_5 : decode prog_10_method_3_code 5 = .ok (.aload_n 0, 1) := by decide +kernel
theorem d_Stack_has_6 : decode prog_10_method_3_code 6 = .ok (.getfield 22, 3) := by decide +kernel
theorem d_Stack_has_9 : decode prog_10_method_3_code 9 = .ok (.if_icmp .ge 7, 3) := by decide +kernel
theorem d_Stack_has_12 : decode prog_10_method_3_code 12 = .ok (.iconst 1, 1) := by decide +kernel
theorem d_Stack_has_13 : decode prog_10_method_3_code 13 = .ok (.goto 4, 3) := by decide +kernel
theorem d_Stack_has_16 : decode prog_10_method_3_code 16 = .ok (.iconst 0, 1) := by decide +kernel
theorem d_Stack_has_17 : decode prog_10_method_3_code 17 = .ok (.ireturn, 1) := by decide +kernel
theorem d_Stack_fromTop_0 : decode prog_10_method_4_code 0 = .ok (.aload_n 0, 1) := by decide +kernel
theorem d_Stack_fromTop_1 : decode prog_10_method_4_code 1 = .ok (.getfield 17, 3) := by decide +kernel
theorem d_Stack_fromTop_4 : decode prog_10_method_4_code 4 = .ok (.aload_n 0, 1) := by decide +kernel
theorem d_Stack_fromTop_5 : decode prog_10_method_4_code 5 = .ok (.getfield 22, 3) := by decide +kernel
theorem d_Stack_fromTop_8 : decode prog_10_method_4_code 8 = .ok (.iconst 1, 1) := by decide +kernel
theorem d_Stack_fromTop_9 : decode prog_10_method_4_code 9 = .ok (.isub, 1) := by decide +kernel
theorem d_Stack_fromTop_10 : decode prog_10_method_4_code 10 = .ok (.iload_n 1, 1) := by decide +kernel
theorem d_Stack_fromTop_11 : decode prog_10_method_4_code 11 = .ok (.isub, 1) := by decide +kernel
theorem d_Stack_fromTop_12 : decode prog_10_method_4_code 12 = .ok (.aaload, 1) := by decide +kernel
theorem d_Stack_fromTop_13 : decode prog_10_method_4_code 13 = .ok (.areturn, 1) := by decide +kernel
theorem d_People_init_0 : decode prog_7_method_1_code 0 = .ok (.aload_n 0, 1) := by decide +kernel
theorem d_People_init_1 : decode prog_7_method_1_code 1 = .ok (.invokespecial 3, 3) := by decide +kernel
theorem d_People_init_4 : decode prog_7_method_1_code 4 = .ok (.aload_n 0, 1) := by decide +kernel
theorem d_People_init_5 : decode prog_7_method_1_code 5 = .ok (.bipush 60, 2) := by decide +kernel
theorem d_People_init_7 : decode prog_7_method_1_code 7 = .ok (.newarray .int, 2) := by decide +kernel
theorem d_People_init_9 : decode prog_7_method_1_code 9 = .ok (.putfield 9, 3) := by decide +kernel
theorem d_People_init_12 : decode prog_7_method_1_code 12 = .ok (.aload_n 0, 1) := by decide +kernel
theorem d_People_init_13 : decode prog_7_method_1_code 13 = .ok (.bipush 60, 2) := by decide +kernel
theorem d_People_init_15 : decode prog_7_method_1_code 15 = .ok (.newarray .int, 2) := by decide +kernel
theorem d_People_init_17 : decode prog_7_method_1_code 17 = .ok (.putfield 15, 3) := by decide +kernel
theorem d_People_init_20 : decode prog_7_method_1_code 20 = .ok (.aload_n 0, 1) := by decide +kernel
theorem d_People_init_21 : decode prog_7_method_1_code 21 = .ok (.bipush 60, 2) := by decide +kernel
theorem d_People_init_23 : decode prog_7_method_1_code 23 = .ok (.newarray .boolean, 2) := by decide +kernel
theorem d_People_init_25 : decode prog_7_method_1_code 25 = .ok (.putfield 18, 3) := by decide +kernel
theorem d_People_init_28 : decode prog_7_method_1_code 28 = .ok (.aload_n 0, 1) := by decide +kernel
theorem d_People_init_29 : decode prog_7_method_1_code 29 = .ok (.iconst 3, 1) := by decide +kernel
theorem d_People_init_30 : decode prog_7_method_1_code 30 = .ok (.newarray .int, 2) := by decide +kernel
theorem d_People_init_32 : decode prog_7_method_1_code 32 = .ok (.putfield 22, 3) := by decide +kernel
theorem d_People_init_35 : decode prog_7_method_1_code 35 = .ok (.return_, 1) := by decide +kernel
theorem d_People_countNames_0 : decode prog_7_method_2_code 0 = .ok (.aload_n 0, 1) := by decide +kernel
theorem d_People_countNames_1 : decode prog_7_method_2_code 1 = .ok (.invokevirtual 25, 3) := by decide +kernel
theorem d_People_countNames_4 : decode prog_7_method_2_code 4 = .ok (.ifCond .eq 5, 3) := by decide +kernel
theorem d_People_countNames_7 : decode prog_7_method_2_code 7 = .ok (.iconst 0, 1) := by decide +kernel
theorem d_People_countNames_8 : decode prog_7_method_2_code 8 = .ok (.ireturn, 1) := by decide +kernel
theorem d_People_countNames_9 : decode prog_7_method_2_code 9 = .ok (.iconst 1, 1) := by decide +kernel
theorem d_People_countNames_10 : decode prog_7_method_2_code 10 = .ok (.istore_n 1, 1) := by decide +kernel
theorem d_People_countNames_11 : decode prog_7_method_2_code 11 = .ok (.iconst 0, 1) := by decide +kernel
theorem d_People_countNames_12 : decode prog_7_method_2_code 12 = .ok (.istore_n 2, 1) := by decide +kernel
theorem d_People_countNames_13 : decode prog_7_method_2_code 13 = .ok (.iconst 0, 1) := by decide +kernel
theorem d_People_countNames_14 : decode prog_7_method_2_code 14 = .ok (.istore_n 3, 1) := by decide +kernel
theorem d_People_countNames_15 : decode prog_7_method_2_code 15 = .ok (.iload_n 3, 1) := by decide +kernel
theorem d_People_countNames_16 : decode prog_7_method_2_code 16 = .ok (.aload_n 0, 1) := by decide +kernel
theorem d_People_countNames_17 : decode prog_7_method_2_code 17 = .ok (.invokevirtual 31, 3) := by decide +kernel
theorem d_People_countNames_20 : decode prog_7_method_2_code 20 = .ok (.if_icmp .ge 34, 3) := by decide +kernel
theorem d_People_countNames_23 : decode prog_7_method_2_code 23 = .ok (.iload_n 2, 1) := by decide +kernel
theorem d_People_countNames_24 : decode prog_7_method_2_code 24 = .ok (.aload_n 0, 1) := by decide +kernel
theorem d_People_countNames_25 : decode prog_7_method_2_code 25 = .ok (.iload_n 3, 1) := by decide +kernel
theorem d_People_countNames_26 : decode prog_7_method_2_code 26 = .ok (.invokevirtual 35, 3) := by decide +kernel
theorem d_People_countNames_29 : decode prog_7_method_2_code 29 = .ok (.invokestatic 39, 3) := by decide +kernel
theorem d_People_countNames_32 : decode prog_7_method_2_code 32 = .ok (.istore_n 2, 1) := by decide +kernel
theorem d_People_countNames_33 : decode prog_7_method_2_code 33 = .ok (.iload_n 2, 1) := by decide +kernel
theorem d_People_countNames_34 : decode prog_7_method_2_code 34 = .ok (.ifCond .ne 14, 3) := by decide +kernel
theorem d_People_countNames_37 : decode prog_7_method_2_code 37 = .ok (.aload_n 0, 1) := by decide +kernel
theorem d_People_countNames_38 : decode prog_7_method_2_code 38 = .ok (.iload_n 3, 1) := by decide +kernel
theorem d_People_countNames_39 : decode prog_7_method_2_code 39 = .ok (.invokestatic 43, 3) := by decide +kernel
theorem d_People_countNames_42 : decode prog_7_method_2_code 42 = .ok (.ifCond .eq 6, 3) := by decide +kernel
theorem d_People_countNames_45 : decode prog_7_method_2_code 45 = .ok (.iinc 1 1, 3) := by decide +kernel
theorem d_People_countNames_48 : decode prog_7_method_2_code 48 = .ok (.iinc 3 1, 3) := by decide +kernel
theorem d_People_countNames_51 : decode prog_7_method_2_code 51 = .ok (.goto (-36), 3) := by decide +kernel
theorem d_People_countNames_54 : decode prog_7_method_2_code 54 = .ok (.iload_n 1, 1) := by decide +kernel
theorem d_People_countNames_55 : decode prog_7_method_2_code 55 = .ok (.ireturn, 1) := by decide +kernel
theorem d_People_isAnd_0 : decode prog_7_method_3_code 0 = .ok (.aload_n 0, 1) := by decide +kernel
theorem d_People_isAnd_1 : decode prog_7_method_3_code 1 = .ok (.iload_n 1, 1) := by decide +kernel
theorem d_People_isAnd_2 : decode prog_7_method_3_code 2 = .ok (.invokevirtual 35, 3) := by decide +kernel
theorem d_People_isAnd_5 : decode prog_7_method_3_code 5 = .ok (.invokestatic 47, 3) := by decide +kernel
theorem d_People_isAnd_8 : decode prog_7_method_3_code 8 = .ok (.ifCond .eq 56, 3) := by decide +kernel
theorem d_People_isAnd_11 : decode prog_7_method_3_code 11 = .ok (.aload_n 0, 1) := by decide +kernel
theorem d_People_isAnd_12 : decode prog_7_method_3_code 12 = .ok (.iload_n 1, 1) := by decide +kernel
theorem d_People_isAnd_13 : decode prog_7_method_3_code 13 = .ok (.iconst 1, 1) := by decide +kernel
theorem d_People_isAnd_14 : decode prog_7_method_3_code 14 = .ok (.iadd, 1) := by decide +kernel
theorem d_People_isAnd_15 : decode prog_7_method_3_code 15 = .ok (.invokevirtual 35, 3) := by decide +kernel
theorem d_People_isAnd_18 : decode prog_7_method_3_code 18 = .ok (.bipush 97, 2) := by decide +kernel
theorem d_People_isAnd_20 : decode prog_7_method_3_code 20 = .ok (.if_icmp .ne 44, 3) := by decide +kernel
theorem d_People_isAnd_23 : decode prog_7_method_3_code 23 = .ok (.aload_n 0, 1) := by decide +kernel
theorem d_People_isAnd_24 : decode prog_7_method_3_code 24 = .ok (.iload_n 1, 1) := by decide +kernel
theorem d_People_isAnd_25 : decode prog_7_method_3_code 25 = .ok (.iconst 2, 1) := by decide +kernel
theorem d_People_isAnd_26 : decode prog_7_method_3_code 26 = .ok (.iadd, 1) := by decide +kernel
theorem d_People_isAnd_27 : decode prog_7_method_3_code 27 = .ok (.invokevirtual 35, 3) := by decide +kernel
theorem d_People_isAnd_30 : decode prog_7_method_3_code 30 = .ok (.bipush 110, 2) := by decide +kernel
theorem d_People_isAnd_32 : decode prog_7_method_3_code 32 = .ok (.if_icmp .ne 32, 3) := by decide +kernel
theorem d_People_isAnd_35 : decode prog_7_method_3_code 35 = .ok (.aload_n 0, 1) := by decide +kernel
theorem d_People_isAnd_36 : decode prog_7_method_3_code 36 = .ok (.iload_n 1, 1) := by decide +kernel
theorem d_People_isAnd_37 : decode prog_7_method_3_code 37 = .ok (.iconst 3, 1) := by decide +kernel
theorem d_People_isAnd_38 : decode prog_7_method_3_code 38 = .ok (.iadd, 1) := by decide +kernel
theorem d_People_isAnd_39 : decode prog_7_method_3_code 39 = .ok (.invokevirtual 35, 3) := by decide +kernel
theorem d_People_isAnd_42 : decode prog_7_method_3_code 42 = .ok (.bipush 100, 2) := by decide +kernel
theorem d_People_isAnd_44 : decode prog_7_method_3_code 44 = .ok (.if_icmp .ne 20, 3) := by decide +kernel
theorem d_People_isAnd_47 : decode prog_7_method_3_code 47 = .ok (.aload_n 0, 1) := by decide +kernel
theorem d_People_isAnd_48 : decode prog_7_method_3_code 48 = .ok (.iload_n 1, 1) := by decide +kernel
theorem d_People_isAnd_49 : decode prog_7_method_3_code 49 = .ok (.iconst 4, 1) := by decide +kernel
theorem d_People_isAnd_50 : decode prog_7_method_3_code 50 = .ok (.iadd, 1) := by decide +kernel
theorem d_People_isAnd_51 : decode prog_7_method_3_code 51 = .ok (.invokevirtual 35, 3) := by decide +kernel
theorem d_People_isAnd_54 : decode prog_7_method_3_code 54 = .ok (.invokestatic 47, 3) := by decide +kernel
theorem d_People_isAnd_57 : decode prog_7_method_3_code 57 = .ok (.ifCond .eq 7, 3) := by decide +kernel
theorem d_People_isAnd_60 : decode prog_7_method_3_code 60 = .ok (.iconst 1, 1) := by decide +kernel
theorem d_People_isAnd_61 : decode prog_7_method_3_code 61 = .ok (.goto 4, 3) := by decide +kernel
theorem d_People_isAnd_64 : decode prog_7_method_3_code 64 = .ok (.iconst 0, 1) := by decide +kernel
theorem d_People_isAnd_65 : decode prog_7_method_3_code 65 = .ok (.ireturn, 1) := by decide +kernel
theorem d_People_findName_0 : decode prog_7_method_4_code 0 = .ok (.aload_n 0, 1) := by decide +kernel
theorem d_People_findName_1 : decode prog_7_method_4_code 1 = .ok (.iconst 0, 1) := by decide +kernel
theorem d_People_findName_2 : decode prog_7_method_4_code 2 = .ok (.putfield 51, 3) := by decide +kernel
theorem d_People_findName_5 : decode prog_7_method_4_code 5 = .ok (.aload_n 1, 1) := by decide +kernel
theorem d_People_findName_6 : decode prog_7_method_4_code 6 = .ok (.invokevirtual 25, 3) := by decide +kernel
theorem d_People_findName_9 : decode prog_7_method_4_code 9 = .ok (.ifCond .eq 7, 3) := by decide +kernel
theorem d_People_findName_12 : decode prog_7_method_4_code 12 = .ok (.iconst 0, 1) := by decide +kernel
theorem d_People_findName_13 : decode prog_7_method_4_code 13 = .ok (.goto 4, 3) := by decide +kernel
theorem d_People_findName_16 : decode prog_7_method_4_code 16 = .ok (.iconst 1, 1) := by decide +kernel
theorem d_People_findName_17 : decode prog_7_method_4_code 17 = .ok (.istore_n 3, 1) := by decide +kernel
theorem d_People_findName_18 : decode prog_7_method_4_code 18 = .ok (.iconst 0, 1) := by decide +kernel
theorem d_People_findName_19 : decode prog_7_method_4_code 19 = .ok (.istore 4, 2) := by decide +kernel
theorem d_People_findName_21 : decode prog_7_method_4_code 21 = .ok (.iconst 0, 1) := by decide +kernel
theorem d_People_findName_22 : decode prog_7_method_4_code 22 = .ok (.istore 5, 2) := by decide +kernel
theorem d_People_findName_24 : decode prog_7_method_4_code 24 = .ok (.iload 5, 2) := by decide +kernel
theorem d_People_findName_26 : decode prog_7_method_4_code 26 = .ok (.aload_n 1, 1) := by decide +kernel
theorem d_People_findName_27 : decode prog_7_method_4_code 27 = .ok (.invokevirtual 31, 3) := by decide +kernel
theorem d_People_findName_30 : decode prog_7_method_4_code 30 = .ok (.if_icmp .ge 60, 3) := by decide +kernel
theorem d_People_findName_33 : decode prog_7_method_4_code 33 = .ok (.iload 4, 2) := by decide +kernel
theorem d_People_findName_35 : decode prog_7_method_4_code 35 = .ok (.aload_n 1, 1) := by decide +kernel
theorem d_People_findName_36 : decode prog_7_method_4_code 36 = .ok (.iload 5, 2) := by decide +kernel
theorem d_People_findName_38 : decode prog_7_method_4_code 38 = .ok (.invokevirtual 35, 3) := by decide +kernel
theorem d_People_findName_41 : decode prog_7_method_4_code 41 = .ok (.invokestatic 39, 3) := by decide +kernel
theorem d_People_findName_44 : decode prog_7_method_4_code 44 = .ok (.istore 4, 2) := by decide +kernel
theorem d_People_findName_46 : decode prog_7_method_4_code 46 = .ok (.iload 4, 2) := by decide +kernel
theorem d_People_findName_48 : decode prog_7_method_4_code 48 = .ok (.ifCond .ne 36, 3) := by decide +kernel
theorem d_People_findName_51 : decode prog_7_method_4_code 51 = .ok (.aload_n 1, 1) := by decide +kernel
theorem d_People_findName_52 : decode prog_7_method_4_code 52 = .ok (.iload 5, 2) := by decide +kernel
theorem d_People_findName_54 : decode prog_7_method_4_code 54 = .ok (.invokestatic 43, 3) := by decide +kernel
theorem d_People_findName_57 : decode prog_7_method_4_code 57 = .ok (.ifCond .eq 27, 3) := by decide +kernel
theorem d_People_findName_60 : decode prog_7_method_4_code 60 = .ok (.iload_n 3, 1) := by decide +kernel
theorem d_People_findName_61 : decode prog_7_method_4_code 61 = .ok (.iload_n 2, 1) := by decide +kernel
theorem d_People_findName_62 : decode prog_7_method_4_code 62 = .ok (.if_icmp .ne 11, 3) := by decide +kernel
theorem d_People_findName_65 : decode prog_7_method_4_code 65 = .ok (.aload_n 0, 1) := by decide +kernel
theorem d_People_findName_66 : decode prog_7_method_4_code 66 = .ok (.iload 5, 2) := by decide +kernel
theorem d_People_findName_68 : decode prog_7_method_4_code 68 = .ok (.putfield 55, 3) := by decide +kernel
theorem d_People_findName_71 : decode prog_7_method_4_code 71 = .ok (.iconst 1, 1) := by decide +kernel
theorem d_People_findName_72 : decode prog_7_method_4_code 72 = .ok (.ireturn, 1) := by decide +kernel
theorem d_People_findName_73 : decode prog_7_method_4_code 73 = .ok (.iinc 3 1, 3) := by decide +kernel
theorem d_People_findName_76 : decode prog_7_method_4_code 76 = .ok (.aload_n 0, 1) := by decide +kernel
theorem d_People_findName_77 : decode prog_7_method_4_code 77 = .ok (.iload 5, 2) := by decide +kernel
theorem d_People_findName_79 : decode prog_7_method_4_code 79 = .ok (.iconst 4, 1) := by decide +kernel
theorem d_People_findName_80 : decode prog_7_method_4_code 80 = .ok (.iadd, 1) := by decide +kernel
theorem d_People_findName_81 : decode prog_7_method_4_code 81 = .ok (.putfield 51, 3) := by decide +kernel
theorem d_People_findName_84 : decode prog_7_method_4_code 84 = .ok (.iinc 5 1, 3) := by decide +kernel
theorem d_People_findName_87 : decode prog_7_method_4_code 87 = .ok (.goto (-63), 3) := by decide +kernel
theorem d_People_findName_90 : decode prog_7_method_4_code 90 = .ok (.aload_n 0, 1) := by decide +kernel
theorem d_People_findName_91 : decode prog_7_method_4_code 91 = .ok (.aload_n 1, 1) := by decide +kernel
theorem d_People_findName_92 : decode prog_7_method_4_code 92 = .ok (.invokevirtual 31, 3) := by decide +kernel
theorem d_People_findName_95 : decode prog_7_method_4_code 95 = .ok (.putfield 55, 3) := by decide +kernel
theorem d_People_findName_98 : decode prog_7_method_4_code 98 = .ok (.iload_n 3, 1) := by decide +kernel
theorem d_People_findName_99 : decode prog_7_method_4_code 99 = .ok (.iload_n 2, 1) := by decide +kernel
theorem d_People_findName_100 : decode prog_7_method_4_code 100 = .ok (.if_icmp .ne 11, 3) := by decide +kernel
theorem d_People_findName_103 : decode prog_7_method_4_code 103 = .ok (.iload_n 2, 1) := by decide +kernel
theorem d_People_findName_104 : decode prog_7_method_4_code 104 = .ok (.ifCond .le 7, 3) := by decide +kernel
theorem d_People_findName_107 : decode prog_7_method_4_code 107 = .ok (.iconst 1, 1) := by decide +kernel
theorem d_People_findName_108 : decode prog_7_method_4_code 108 = .ok (.goto 4, 3) := by decide +kernel
theorem d_People_findName_111 : decode prog_7_method_4_code 111 = .ok (.iconst 0, 1) := by decide +kernel
theorem d_People_findName_112 : decode prog_7_method_4_code 112 = .ok (.ireturn, 1) := by decide +kernel
theorem d_People_takeApart_0 : decode prog_7_method_5_code 0 = .ok (.aload_n 0, 1) := by decide +kernel
theorem d_People_takeApart_1 : decode prog_7_method_5_code 1 = .ok (.aload_n 1, 1) := by decide +kernel
theorem d_People_takeApart_2 : decode prog_7_method_5_code 2 = .ok (.invokevirtual 58, 3) := by decide +kernel
theorem d_People_takeApart_5 : decode prog_7_method_5_code 5 = .ok (.iconst 0, 1) := by decide +kernel
theorem d_People_takeApart_6 : decode prog_7_method_5_code 6 = .ok (.istore_n 2, 1) := by decide +kernel
theorem d_People_takeApart_7 : decode prog_7_method_5_code 7 = .ok (.iload_n 2, 1) := by decide +kernel
theorem d_People_takeApart_8 : decode prog_7_method_5_code 8 = .ok (.aload_n 0, 1) := by decide +kernel
theorem d_People_takeApart_9 : decode prog_7_method_5_code 9 = .ok (.getfield 62, 3) := by decide +kernel
theorem d_People_takeApart_12 : decode prog_7_method_5_code 12 = .ok (.if_icmp .ge 34, 3) := by decide +kernel
theorem d_People_takeApart_15 : decode prog_7_method_5_code 15 = .ok (.aload_n 0, 1) := by decide +kernel
theorem d_People_takeApart_16 : decode prog_7_method_5_code 16 = .ok (.getfield 18, 3) := by decide +kernel
theorem d_People_takeApart_19 : decode prog_7_method_5_code 19 = .ok (.iload_n 2, 1) := by decide +kernel
theorem d_People_takeApart_20 : decode prog_7_method_5_code 20 = .ok (.aload_n 1, 1) := by decide +kernel
theorem d_People_takeApart_21 : decode prog_7_method_5_code 21 = .ok (.aload_n 0, 1) := by decide +kernel
theorem d_People_takeApart_22 : decode prog_7_method_5_code 22 = .ok (.getfield 9, 3) := by decide +kernel
theorem d_People_takeApart_25 : decode prog_7_method_5_code 25 = .ok (.iload_n 2, 1) := by decide +kernel
theorem d_People_takeApart_26 : decode prog_7_method_5_code 26 = .ok (.iaload, 1) := by decide +kernel
theorem d_People_takeApart_27 : decode prog_7_method_5_code 27 = .ok (.aload_n 0, 1) := by decide +kernel
theorem d_People_takeApart_28 : decode prog_7_method_5_code 28 = .ok (.getfield 15, 3) := by decide +kernel
theorem d_People_takeApart_31 : decode prog_7_method_5_code 31 = .ok (.iload_n 2, 1) := by decide +kernel
theorem d_People_takeApart_32 : decode prog_7_method_5_code 32 = .ok (.iaload, 1) := by decide +kernel
theorem d_People_takeApart_33 : decode prog_7_method_5_code 33 = .ok (.invokestatic 65, 3) := by decide +kernel
theorem d_People_takeApart_36 : decode prog_7_method_5_code 36 = .ok (.invokestatic 69, 3) := by decide +kernel
theorem d_People_takeApart_39 : decode prog_7_method_5_code 39 = .ok (.bastore, 1) := by decide +kernel
theorem d_People_takeApart_40 : decode prog_7_method_5_code 40 = .ok (.iinc 2 1, 3) := by decide +kernel
theorem d_People_takeApart_43 : decode prog_7_method_5_code 43 = .ok (.goto (-36), 3) := by decide +kernel
theorem d_People_takeApart_46 : decode prog_7_method_5_code 46 = .ok (.aload_n 0, 1) := by decide +kernel
theorem d_People_takeApart_47 : decode prog_7_method_5_code 47 = .ok (.getfield 72, 3) := by decide +kernel
theorem d_People_takeApart_50 : decode prog_7_method_5_code 50 = .ok (.iconst 1, 1) := by decide +kernel
theorem d_People_takeApart_51 : decode prog_7_method_5_code 51 = .ok (.if_icmp .ne 10, 3) := by decide +kernel
theorem d_People_takeApart_54 : decode prog_7_method_5_code 54 = .ok (.aload_n 0, 1) := by decide +kernel
theorem d_People_takeApart_55 : decode prog_7_method_5_code 55 = .ok (.invokevirtual 75, 3) := by decide +kernel
theorem d_People_takeApart_58 : decode prog_7_method_5_code 58 = .ok (.goto 7, 3) := by decide +kernel
theorem d_People_takeApart_61 : decode prog_7_method_5_code 61 = .ok (.aload_n 0, 1) := by decide +kernel
theorem d_People_takeApart_62 : decode prog_7_method_5_code 62 = .ok (.invokevirtual 78, 3) := by decide +kernel
theorem d_People_takeApart_65 : decode prog_7_method_5_code 65 = .ok (.return_, 1) := by decide +kernel
theorem d_People_divide_0 : decode prog_7_method_6_code 0 = .ok (.aload_n 0, 1) := by decide +kernel
theorem d_People_divide_1 : decode prog_7_method_6_code 1 = .ok (.iconst 0, 1) := by decide +kernel
theorem d_People_divide_2 : decode prog_7_method_6_code 2 = .ok (.putfield 62, 3) := by decide +kernel
theorem d_People_divide_5 : decode prog_7_method_6_code 5 = .ok (.aload_n 0, 1) := by decide +kernel
theorem d_People_divide_6 : decode prog_7_method_6_code 6 = .ok (.iconst 1, 1) := by decide +kernel
theorem d_People_divide_7 : decode prog_7_method_6_code 7 = .ok (.putfield 72, 3) := by decide +kernel
theorem d_People_divide_10 : decode prog_7_method_6_code 10 = .ok (.iconst (-1), 1) := by decide +kernel
theorem d_People_divide_11 : decode prog_7_method_6_code 11 = .ok (.istore_n 2, 1) := by decide +kernel
theorem d_People_divide_12 : decode prog_7_method_6_code 12 = .ok (.iconst 0, 1) := by decide +kernel
theorem d_People_divide_13 : decode prog_7_method_6_code 13 = .ok (.istore_n 3, 1) := by decide +kernel
theorem d_People_divide_14 : decode prog_7_method_6_code 14 = .ok (.aload_n 0, 1) := by decide +kernel
theorem d_People_divide_15 : decode prog_7_method_6_code 15 = .ok (.getfield 51, 3) := by decide +kernel
theorem d_People_divide_18 : decode prog_7_method_6_code 18 = .ok (.istore 4, 2) := by decide +kernel
theorem d_People_divide_20 : decode prog_7_method_6_code 20 = .ok (.iload 4, 2) := by decide +kernel
theorem d_People_divide_22 : decode prog_7_method_6_code 22 = .ok (.aload_n 0, 1) := by decide +kernel
theorem d_People_divide_23 : decode prog_7_method_6_code 23 = .ok (.getfield 55, 3) := by decide +kernel
theorem d_People_divide_26 : decode prog_7_method_6_code 26 = .ok (.if_icmp .ge 97, 3) := by decide +kernel
theorem d_People_divide_29 : decode prog_7_method_6_code 29 = .ok (.aload_n 1, 1) := by decide +kernel
theorem d_People_divide_30 : decode prog_7_method_6_code 30 = .ok (.iload 4, 2) := by decide +kernel
theorem d_People_divide_32 : decode prog_7_method_6_code 32 = .ok (.invokevirtual 35, 3) := by decide +kernel
theorem d_People_divide_35 : decode prog_7_method_6_code 35 = .ok (.istore 5, 2) := by decide +kernel
theorem d_People_divide_37 : decode prog_7_method_6_code 37 = .ok (.iload_n 3, 1) := by decide +kernel
theorem d_People_divide_38 : decode prog_7_method_6_code 38 = .ok (.ifCond .gt 11, 3) := by decide +kernel
theorem d_People_divide_41 : decode prog_7_method_6_code 41 = .ok (.iload 5, 2) := by decide +kernel
theorem d_People_divide_43 : decode prog_7_method_6_code 43 = .ok (.invokestatic 81, 3) := by decide +kernel
theorem d_People_divide_46 : decode prog_7_method_6_code 46 = .ok (.ifCond .ne 24, 3) := by decide +kernel
theorem d_People_divide_49 : decode prog_7_method_6_code 49 = .ok (.iload_n 2, 1) := by decide +kernel
theorem d_People_divide_50 : decode prog_7_method_6_code 50 = .ok (.ifCond .ge 8, 3) := by decide +kernel
theorem d_People_divide_53 : decode prog_7_method_6_code 53 = .ok (.iload 4, 2) := by decide +kernel
theorem d_People_divide_55 : decode prog_7_method_6_code 55 = .ok (.goto 4, 3) := by decide +kernel
theorem d_People_divide_58 : decode prog_7_method_6_code 58 = .ok (.iload_n 2, 1) := by decide +kernel
