/-! decode rows, printed by a program -/
theorem d_People_divide_59 : decode prog_7_method_6_code 59 = .ok (.istore_n 2, 1) := by decide +kernel
theorem d_People_divide_60 : decode prog_7_method_6_code 60 = .ok (.iload_n 3, 1) := by decide +kernel
theorem d_People_divide_61 : decode prog_7_method_6_code 61 = .ok (.iload 5, 2) := by decide +kernel
theorem d_People_divide_63 : decode prog_7_method_6_code 63 = .ok (.invokestatic 39, 3) := by decide +kernel
theorem d_People_divide_66 : decode prog_7_method_6_code 66 = .ok (.istore_n 3, 1) := by decide +kernel
theorem d_People_divide_67 : decode prog_7_method_6_code 67 = .ok (.goto 50, 3) := by decide +kernel
theorem d_People_divide_70 : decode prog_7_method_6_code 70 = .ok (.aload_n 0, 1) := by decide +kernel
theorem d_People_divide_71 : decode prog_7_method_6_code 71 = .ok (.iload_n 2, 1) := by decide +kernel
theorem d_People_divide_72 : decode prog_7_method_6_code 72 = .ok (.iload 4, 2) := by decide +kernel
theorem d_People_divide_74 : decode prog_7_method_6_code 74 = .ok (.invokevirtual 84, 3) := by decide +kernel
theorem d_People_divide_77 : decode prog_7_method_6_code 77 = .ok (.iconst (-1), 1) := by decide +kernel
theorem d_People_divide_78 : decode prog_7_method_6_code 78 = .ok (.istore_n 2, 1) := by decide +kernel
theorem d_People_divide_79 : decode prog_7_method_6_code 79 = .ok (.iload 5, 2) := by decide +kernel
theorem d_People_divide_81 : decode prog_7_method_6_code 81 = .ok (.bipush 44, 2) := by decide +kernel
theorem d_People_divide_83 : decode prog_7_method_6_code 83 = .ok (.if_icmp .ne 34, 3) := by decide +kernel
theorem d_People_divide_86 : decode prog_7_method_6_code 86 = .ok (.aload_n 0, 1) := by decide +kernel
theorem d_People_divide_87 : decode prog_7_method_6_code 87 = .ok (.getfield 72, 3) := by decide +kernel
theorem d_People_divide_90 : decode prog_7_method_6_code 90 = .ok (.iconst 3, 1) := by decide +kernel
theorem d_People_divide_91 : decode prog_7_method_6_code 91 = .ok (.if_icmp .ge 26, 3) := by decide +kernel
theorem d_People_divide_94 : decode prog_7_method_6_code 94 = .ok (.aload_n 0, 1) := by decide +kernel
theorem d_People_divide_95 : decode prog_7_method_6_code 95 = .ok (.getfield 22, 3) := by decide +kernel
theorem d_People_divide_98 : decode prog_7_method_6_code 98 = .ok (.aload_n 0, 1) := by decide +kernel
theorem d_People_divide_99 : decode prog_7_method_6_code 99 = .ok (.getfield 72, 3) := by decide +kernel
theorem d_People_divide_102 : decode prog_7_method_6_code 102 = .ok (.aload_n 0, 1) := by decide +kernel
theorem d_People_divide_103 : decode prog_7_method_6_code 103 = .ok (.getfield 62, 3) := by decide +kernel
theorem d_People_divide_106 : decode prog_7_method_6_code 106 = .ok (.iastore, 1) := by decide +kernel
theorem d_People_divide_107 : decode prog_7_method_6_code 107 = .ok (.aload_n 0, 1) := by decide +kernel
theorem d_People_divide_108 : decode prog_7_method_6_code 108 = .ok (.dup, 1) := by decide +kernel
theorem d_People_divide_109 : decode prog_7_method_6_code 109 = .ok (.getfield 72, 3) := by decide +kernel
theorem d_People_divide_112 : decode prog_7_method_6_code 112 = .ok (.iconst 1, 1) := by decide +kernel
theorem d_People_divide_113 : decode prog_7_method_6_code 113 = .ok (.iadd, 1) := by decide +kernel
theorem d_People_divide_114 : decode prog_7_method_6_code 114 = .ok (.putfield 72, 3) := by decide +kernel
theorem d_People_divide_117 : decode prog_7_method_6_code 117 = .ok (.iinc 4 1, 3) := by decide +kernel
theorem d_People_divide_120 : decode prog_7_method_6_code 120 = .ok (.goto (-100), 3) := by decide +kernel
theorem d_People_divide_123 : decode prog_7_method_6_code 123 = .ok (.aload_n 0, 1) := by decide +kernel
theorem d_People_divide_124 : decode prog_7_method_6_code 124 = .ok (.iload_n 2, 1) := by decide +kernel
theorem d_People_divide_125 : decode prog_7_method_6_code 125 = .ok (.aload_n 0, 1) := by decide +kernel
theorem d_People_divide_126 : decode prog_7_method_6_code 126 = .ok (.getfield 55, 3) := by decide +kernel
theorem d_People_divide_129 : decode prog_7_method_6_code 129 = .ok (.invokevirtual 84, 3) := by decide +kernel
theorem d_People_divide_132 : decode prog_7_method_6_code 132 = .ok (.return_, 1) := by decide +kernel
theorem d_People_isDivider_0 : decode prog_7_method_7_code 0 = .ok (.iload_n 0, 1) := by decide +kernel
theorem d_People_isDivider_1 : decode prog_7_method_7_code 1 = .ok (.invokestatic 47, 3) := by decide +kernel
theorem d_People_isDivider_4 : decode prog_7_method_7_code 4 = .ok (.ifCond .ne 15, 3) := by decide +kernel
theorem d_People_isDivider_7 : decode prog_7_method_7_code 7 = .ok (.iload_n 0, 1) := by decide +kernel
theorem d_People_isDivider_8 : decode prog_7_method_7_code 8 = .ok (.bipush 126, 2) := by decide +kernel
theorem d_People_isDivider_10 : decode prog_7_method_7_code 10 = .ok (.if_icmp .eq 9, 3) := by decide +kernel
theorem d_People_isDivider_13 : decode prog_7_method_7_code 13 = .ok (.iload_n 0, 1) := by decide +kernel
theorem d_People_isDivider_14 : decode prog_7_method_7_code 14 = .ok (.bipush 44, 2) := by decide +kernel
theorem d_People_isDivider_16 : decode prog_7_method_7_code 16 = .ok (.if_icmp .ne 7, 3) := by decide +kernel
theorem d_People_isDivider_19 : decode prog_7_method_7_code 19 = .ok (.iconst 1, 1) := by decide +kernel
theorem d_People_isDivider_20 : decode prog_7_method_7_code 20 = .ok (.goto 4, 3) := by decide +kernel
theorem d_People_isDivider_23 : decode prog_7_method_7_code 23 = .ok (.iconst 0, 1) := by decide +kernel
theorem d_People_isDivider_24 : decode prog_7_method_7_code 24 = .ok (.ireturn, 1) := by decide +kernel
theorem d_People_addWord_0 : decode prog_7_method_8_code 0 = .ok (.iload_n 1, 1) := by decide +kernel
theorem d_People_addWord_1 : decode prog_7_method_8_code 1 = .ok (.ifCond .lt 42, 3) := by decide +kernel
theorem d_People_addWord_4 : decode prog_7_method_8_code 4 = .ok (.aload_n 0, 1) := by decide +kernel
theorem d_People_addWord_5 : decode prog_7_method_8_code 5 = .ok (.getfield 62, 3) := by decide +kernel
theorem d_People_addWord_8 : decode prog_7_method_8_code 8 = .ok (.bipush 60, 2) := by decide +kernel
theorem d_People_addWord_10 : decode prog_7_method_8_code 10 = .ok (.if_icmp .ge 33, 3) := by decide +kernel
theorem d_People_addWord_13 : decode prog_7_method_8_code 13 = .ok (.aload_n 0, 1) := by decide +kernel
theorem d_People_addWord_14 : decode prog_7_method_8_code 14 = .ok (.getfield 9, 3) := by decide +kernel
theorem d_People_addWord_17 : decode prog_7_method_8_code 17 = .ok (.aload_n 0, 1) := by decide +kernel
theorem d_People_addWord_18 : decode prog_7_method_8_code 18 = .ok (.getfield 62, 3) := by decide +kernel
theorem d_People_addWord_21 : decode prog_7_method_8_code 21 = .ok (.iload_n 1, 1) := by decide +kernel
theorem d_People_addWord_22 : decode prog_7_method_8_code 22 = .ok (.iastore, 1) := by decide +kernel
theorem d_People_addWord_23 : decode prog_7_method_8_code 23 = .ok (.aload_n 0, 1) := by decide +kernel
theorem d_People_addWord_24 : decode prog_7_method_8_code 24 = .ok (.getfield 15, 3) := by decide +kernel
theorem d_People_addWord_27 : decode prog_7_method_8_code 27 = .ok (.aload_n 0, 1) := by decide +kernel
theorem d_People_addWord_28 : decode prog_7_method_8_code 28 = .ok (.getfield 62, 3) := by decide +kernel
theorem d_People_addWord_31 : decode prog_7_method_8_code 31 = .ok (.iload_n 2, 1) := by decide +kernel
theorem d_People_addWord_32 : decode prog_7_method_8_code 32 = .ok (.iastore, 1) := by decide +kernel
theorem d_People_addWord_33 : decode prog_7_method_8_code 33 = .ok (.aload_n 0, 1) := by decide +kernel
theorem d_People_addWord_34 : decode prog_7_method_8_code 34 = .ok (.dup, 1) := by decide +kernel
theorem d_People_addWord_35 : decode prog_7_method_8_code 35 = .ok (.getfield 62, 3) := by decide +kernel
theorem d_People_addWord_38 : decode prog_7_method_8_code 38 = .ok (.iconst 1, 1) := by decide +kernel
theorem d_People_addWord_39 : decode prog_7_method_8_code 39 = .ok (.iadd, 1) := by decide +kernel
theorem d_People_addWord_40 : decode prog_7_method_8_code 40 = .ok (.putfield 62, 3) := by decide +kernel
theorem d_People_addWord_43 : decode prog_7_method_8_code 43 = .ok (.return_, 1) := by decide +kernel
theorem d_People_firstLetterOutside_0 : decode prog_7_method_9_code 0 = .ok (.iconst 0, 1) := by decide +kernel
theorem d_People_firstLetterOutside_1 : decode prog_7_method_9_code 1 = .ok (.istore_n 3, 1) := by decide +kernel
theorem d_People_firstLetterOutside_2 : decode prog_7_method_9_code 2 = .ok (.iload_n 1, 1) := by decide +kernel
theorem d_People_firstLetterOutside_3 : decode prog_7_method_9_code 3 = .ok (.istore 4, 2) := by decide +kernel
theorem d_People_firstLetterOutside_5 : decode prog_7_method_9_code 5 = .ok (.iload 4, 2) := by decide +kernel
theorem d_People_firstLetterOutside_7 : decode prog_7_method_9_code 7 = .ok (.iload_n 2, 1) := by decide +kernel
theorem d_People_firstLetterOutside_8 : decode prog_7_method_9_code 8 = .ok (.if_icmp .ge 39, 3) := by decide +kernel
theorem d_People_firstLetterOutside_11 : decode prog_7_method_9_code 11 = .ok (.aload_n 0, 1) := by decide +kernel
theorem d_People_firstLetterOutside_12 : decode prog_7_method_9_code 12 = .ok (.iload 4, 2) := by decide +kernel
theorem d_People_firstLetterOutside_14 : decode prog_7_method_9_code 14 = .ok (.invokevirtual 35, 3) := by decide +kernel
theorem d_People_firstLetterOutside_17 : decode prog_7_method_9_code 17 = .ok (.istore 5, 2) := by decide +kernel
theorem d_People_firstLetterOutside_19 : decode prog_7_method_9_code 19 = .ok (.iload_n 3, 1) := by decide +kernel
theorem d_People_firstLetterOutside_20 : decode prog_7_method_9_code 20 = .ok (.ifCond .ne 14, 3) := by decide +kernel
theorem d_People_firstLetterOutside_23 : decode prog_7_method_9_code 23 = .ok (.iload 5, 2) := by decide +kernel
theorem d_People_firstLetterOutside_25 : decode prog_7_method_9_code 25 = .ok (.invokestatic 88, 3) := by decide +kernel
theorem d_People_firstLetterOutside_28 : decode prog_7_method_9_code 28 = .ok (.ifCond .eq 6, 3) := by decide +kernel
theorem d_People_firstLetterOutside_31 : decode prog_7_method_9_code 31 = .ok (.iload 5, 2) := by decide +kernel
theorem d_People_firstLetterOutside_33 : decode prog_7_method_9_code 33 = .ok (.ireturn, 1) := by decide +kernel
theorem d_People_firstLetterOutside_34 : decode prog_7_method_9_code 34 = .ok (.iload_n 3, 1) := by decide +kernel
theorem d_People_firstLetterOutside_35 : decode prog_7_method_9_code 35 = .ok (.iload 5, 2) := by decide +kernel
theorem d_People_firstLetterOutside_37 : decode prog_7_method_9_code 37 = .ok (.invokestatic 39, 3) := by decide +kernel
theorem d_People_firstLetterOutside_40 : decode prog_7_method_9_code 40 = .ok (.istore_n 3, 1) := by decide +kernel
theorem d_People_firstLetterOutside_41 : decode prog_7_method_9_code 41 = .ok (.iinc 4 1, 3) := by decide +kernel
theorem d_People_firstLetterOutside_44 : decode prog_7_method_9_code 44 = .ok (.goto (-39), 3) := by decide +kernel
theorem d_People_firstLetterOutside_47 : decode prog_7_method_9_code 47 = .ok (.iconst 0, 1) := by decide +kernel
theorem d_People_firstLetterOutside_48 : decode prog_7_method_9_code 48 = .ok (.ireturn, 1) := by decide +kernel
theorem d_People_assignOnePart_0 : decode prog_7_method_12_code 0 = .ok (.aload_n 0, 1) := by decide +kernel
theorem d_People_assignOnePart_1 : decode prog_7_method_12_code 1 = .ok (.getfield 62, 3) := by decide +kernel
theorem d_People_assignOnePart_4 : decode prog_7_method_12_code 4 = .ok (.iconst 1, 1) := by decide +kernel
theorem d_People_assignOnePart_5 : decode prog_7_method_12_code 5 = .ok (.isub, 1) := by decide +kernel
theorem d_People_assignOnePart_6 : decode prog_7_method_12_code 6 = .ok (.iconst 0, 1) := by decide +kernel
theorem d_People_assignOnePart_7 : decode prog_7_method_12_code 7 = .ok (.invokestatic 91, 3) := by decide +kernel
theorem d_People_assignOnePart_10 : decode prog_7_method_12_code 10 = .ok (.istore_n 1, 1) := by decide +kernel
theorem d_People_assignOnePart_11 : decode prog_7_method_12_code 11 = .ok (.aload_n 0, 1) := by decide +kernel
theorem d_People_assignOnePart_12 : decode prog_7_method_12_code 12 = .ok (.iload_n 1, 1) := by decide +kernel
theorem d_People_assignOnePart_13 : decode prog_7_method_12_code 13 = .ok (.invokevirtual 97, 3) := by decide +kernel
theorem d_People_assignOnePart_16 : decode prog_7_method_12_code 16 = .ok (.istore_n 2, 1) := by decide +kernel
theorem d_People_assignOnePart_17 : decode prog_7_method_12_code 17 = .ok (.aload_n 0, 1) := by decide +kernel
theorem d_People_assignOnePart_18 : decode prog_7_method_12_code 18 = .ok (.iconst 0, 1) := by decide +kernel
theorem d_People_assignOnePart_19 : decode prog_7_method_12_code 19 = .ok (.putfield 101, 3) := by decide +kernel
theorem d_People_assignOnePart_22 : decode prog_7_method_12_code 22 = .ok (.aload_n 0, 1) := by decide +kernel
theorem d_People_assignOnePart_23 : decode prog_7_method_12_code 23 = .ok (.iload_n 2, 1) := by decide +kernel
theorem d_People_assignOnePart_24 : decode prog_7_method_12_code 24 = .ok (.ifCond .ge 7, 3) := by decide +kernel
theorem d_People_assignOnePart_27 : decode prog_7_method_12_code 27 = .ok (.iload_n 1, 1) := by decide +kernel
theorem d_People_assignOnePart_28 : decode prog_7_method_12_code 28 = .ok (.goto 4, 3) := by decide +kernel
theorem d_People_assignOnePart_31 : decode prog_7_method_12_code 31 = .ok (.iload_n 2, 1) := by decide +kernel
theorem d_People_assignOnePart_32 : decode prog_7_method_12_code 32 = .ok (.putfield 104, 3) := by decide +kernel
theorem d_People_assignOnePart_35 : decode prog_7_method_12_code 35 = .ok (.aload_n 0, 1) := by decide +kernel
theorem d_People_assignOnePart_36 : decode prog_7_method_12_code 36 = .ok (.aload_n 0, 1) := by decide +kernel
theorem d_People_assignOnePart_37 : decode prog_7_method_12_code 37 = .ok (.getfield 104, 3) := by decide +kernel
theorem d_People_assignOnePart_40 : decode prog_7_method_12_code 40 = .ok (.putfield 107, 3) := by decide +kernel
theorem d_People_assignOnePart_43 : decode prog_7_method_12_code 43 = .ok (.aload_n 0, 1) := by decide +kernel
theorem d_People_assignOnePart_44 : decode prog_7_method_12_code 44 = .ok (.iload_n 2, 1) := by decide +kernel
theorem d_People_assignOnePart_45 : decode prog_7_method_12_code 45 = .ok (.ifCond .ge 7, 3) := by decide +kernel
theorem d_People_assignOnePart_48 : decode prog_7_method_12_code 48 = .ok (.iload_n 1, 1) := by decide +kernel
theorem d_People_assignOnePart_49 : decode prog_7_method_12_code 49 = .ok (.goto 10, 3) := by decide +kernel
theorem d_People_assignOnePart_52 : decode prog_7_method_12_code 52 = .ok (.aload_n 0, 1) := by decide +kernel
theorem d_People_assignOnePart_53 : decode prog_7_method_12_code 53 = .ok (.iload_n 1, 1) := by decide +kernel
theorem d_People_assignOnePart_54 : decode prog_7_method_12_code 54 = .ok (.invokevirtual 110, 3) := by decide +kernel
theorem d_People_assignOnePart_57 : decode prog_7_method_12_code 57 = .ok (.iconst 1, 1) := by decide +kernel
theorem d_People_assignOnePart_58 : decode prog_7_method_12_code 58 = .ok (.iadd, 1) := by decide +kernel
theorem d_People_assignOnePart_59 : decode prog_7_method_12_code 59 = .ok (.putfield 113, 3) := by decide +kernel
theorem d_People_assignOnePart_62 : decode prog_7_method_12_code 62 = .ok (.aload_n 0, 1) := by decide +kernel
theorem d_People_assignOnePart_63 : decode prog_7_method_12_code 63 = .ok (.aload_n 0, 1) := by decide +kernel
theorem d_People_assignOnePart_64 : decode prog_7_method_12_code 64 = .ok (.getfield 113, 3) := by decide +kernel
theorem d_People_assignOnePart_67 : decode prog_7_method_12_code 67 = .ok (.putfield 116, 3) := by decide +kernel
theorem d_People_assignOnePart_70 : decode prog_7_method_12_code 70 = .ok (.aload_n 0, 1) := by decide +kernel
theorem d_People_assignOnePart_71 : decode prog_7_method_12_code 71 = .ok (.aload_n 0, 1) := by decide +kernel
theorem d_People_assignOnePart_72 : decode prog_7_method_12_code 72 = .ok (.getfield 62, 3) := by decide +kernel
theorem d_People_assignOnePart_75 : decode prog_7_method_12_code 75 = .ok (.putfield 119, 3) := by decide +kernel
theorem d_People_assignOnePart_78 : decode prog_7_method_12_code 78 = .ok (.aload_n 0, 1) := by decide +kernel
theorem d_People_assignOnePart_79 : decode prog_7_method_12_code 79 = .ok (.aload_n 0, 1) := by decide +kernel
theorem d_People_assignOnePart_80 : decode prog_7_method_12_code 80 = .ok (.getfield 62, 3) := by decide +kernel
theorem d_People_assignOnePart_83 : decode prog_7_method_12_code 83 = .ok (.putfield 122, 3) := by decide +kernel
theorem d_People_assignOnePart_86 : decode prog_7_method_12_code 86 = .ok (.aload_n 0, 1) := by decide +kernel
theorem d_People_assignOnePart_87 : decode prog_7_method_12_code 87 = .ok (.aload_n 0, 1) := by decide +kernel
theorem d_People_assignOnePart_88 : decode prog_7_method_12_code 88 = .ok (.getfield 62, 3) := by decide +kernel
theorem d_People_assignOnePart_91 : decode prog_7_method_12_code 91 = .ok (.putfield 125, 3) := by decide +kernel
theorem d_People_assignOnePart_94 : decode prog_7_method_12_code 94 = .ok (.return_, 1) := by decide +kernel
theorem d_People_firstLow_0 : decode prog_7_method_10_code 0 = .ok (.iconst 0, 1) := by decide +kernel
theorem d_People_firstLow_1 : decode prog_7_method_10_code 1 = .ok (.istore_n 2, 1) := by decide +kernel
theorem d_People_firstLow_2 : decode prog_7_method_10_code 2 = .ok (.iload_n 2, 1) := by decide +kernel
theorem d_People_firstLow_3 : decode prog_7_method_10_code 3 = .ok (.iload_n 1, 1) := by decide +kernel
theorem d_People_firstLow_4 : decode prog_7_method_10_code 4 = .ok (.if_icmp .ge 20, 3) := by decide +kernel
theorem d_People_firstLow_7 : decode prog_7_method_10_code 7 = .ok (.aload_n 0, 1) := by decide +kernel
theorem d_People_firstLow_8 : decode prog_7_method_10_code 8 = .ok (.getfield 18, 3) := by decide +kernel
theorem d_People_firstLow_11 : decode prog_7_method_10_code 11 = .ok (.iload_n 2, 1) := by decide +kernel
theorem d_People_firstLow_12 : decode prog_7_method_10_code 12 = .ok (.baload, 1) := by decide +kernel
theorem d_People_firstLow_13 : decode prog_7_method_10_code 13 = .ok (.ifCond .eq 5, 3) := by decide +kernel
theorem d_People_firstLow_16 : decode prog_7_method_10_code 16 = .ok (.iload_n 2, 1) := by decide +kernel
theorem d_People_firstLow_17 : decode prog_7_method_10_code 17 = .ok (.ireturn, 1) := by decide +kernel
theorem d_People_firstLow_18 : decode prog_7_method_10_code 18 = .ok (.iinc 2 1, 3) := by decide +kernel
theorem d_People_firstLow_21 : decode prog_7_method_10_code 21 = .ok (.goto (-19), 3) := by decide +kernel
theorem d_People_firstLow_24 : decode prog_7_method_10_code 24 = .ok (.iconst (-1), 1) := by decide +kernel
theorem d_People_firstLow_25 : decode prog_7_method_10_code 25 = .ok (.ireturn, 1) := by decide +kernel
theorem d_People_lastLow_0 : decode prog_7_method_11_code 0 = .ok (.iload_n 1, 1) := by decide +kernel
theorem d_People_lastLow_1 : decode prog_7_method_11_code 1 = .ok (.iconst 1, 1) := by decide +kernel
theorem d_People_lastLow_2 : decode prog_7_method_11_code 2 = .ok (.isub, 1) := by decide +kernel
theorem d_People_lastLow_3 : decode prog_7_method_11_code 3 = .ok (.istore_n 2, 1) := by decide +kernel
theorem d_People_lastLow_4 : decode prog_7_method_11_code 4 = .ok (.iload_n 2, 1) := by decide +kernel
theorem d_People_lastLow_5 : decode prog_7_method_11_code 5 = .ok (.ifCond .lt 20, 3) := by decide +kernel
theorem d_People_lastLow_8 : decode prog_7_method_11_code 8 = .ok (.aload_n 0, 1) := by decide +kernel
theorem d_People_lastLow_9 : decode prog_7_method_11_code 9 = .ok (.getfield 18, 3) := by decide +kernel
theorem d_People_lastLow_12 : decode prog_7_method_11_code 12 = .ok (.iload_n 2, 1) := by decide +kernel
theorem d_People_lastLow_13 : decode prog_7_method_11_code 13 = .ok (.baload, 1) := by decide +kernel
theorem d_People_lastLow_14 : decode prog_7_method_11_code 14 = .ok (.ifCond .eq 5, 3) := by decide +kernel
theorem d_People_lastLow_17 : decode prog_7_method_11_code 17 = .ok (.iload_n 2, 1) := by decide +kernel
theorem d_People_lastLow_18 : decode prog_7_method_11_code 18 = .ok (.ireturn, 1) := by decide +kernel
theorem d_People_lastLow_19 : decode prog_7_method_11_code 19 = .ok (.iinc 2 (-1), 3) := by decide +kernel
theorem d_People_lastLow_22 : decode prog_7_method_11_code 22 = .ok (.goto (-18), 3) := by decide +kernel
theorem d_People_lastLow_25 : decode prog_7_method_11_code 25 = .ok (.iconst (-1), 1) := by decide +kernel
theorem d_People_lastLow_26 : decode prog_7_method_11_code 26 = .ok (.ireturn, 1) := by decide +kernel
theorem d_People_assignParts_0 : decode prog_7_method_13_code 0 = .ok (.aload_n 0, 1) := by decide +kernel
theorem d_People_assignParts_1 : decode prog_7_method_13_code 1 = .ok (.getfield 22, 3) := by decide +kernel
theorem d_People_assignParts_4 : decode prog_7_method_13_code 4 = .ok (.iconst 1, 1) := by decide +kernel
theorem d_People_assignParts_5 : decode prog_7_method_13_code 5 = .ok (.iaload, 1) := by decide +kernel
theorem d_People_assignParts_6 : decode prog_7_method_13_code 6 = .ok (.istore_n 1, 1) := by decide +kernel
theorem d_People_assignParts_7 : decode prog_7_method_13_code 7 = .ok (.aload_n 0, 1) := by decide +kernel
theorem d_People_assignParts_8 : decode prog_7_method_13_code 8 = .ok (.iconst 0, 1) := by decide +kernel
theorem d_People_assignParts_9 : decode prog_7_method_13_code 9 = .ok (.putfield 107, 3) := by decide +kernel
theorem d_People_assignParts_12 : decode prog_7_method_13_code 12 = .ok (.aload_n 0, 1) := by decide +kernel
theorem d_People_assignParts_13 : decode prog_7_method_13_code 13 = .ok (.aload_n 0, 1) := by decide +kernel
theorem d_People_assignParts_14 : decode prog_7_method_13_code 14 = .ok (.iload_n 1, 1) := by decide +kernel
theorem d_People_assignParts_15 : decode prog_7_method_13_code 15 = .ok (.iconst 1, 1) := by decide +kernel
theorem d_People_assignParts_16 : decode prog_7_method_13_code 16 = .ok (.isub, 1) := by decide +kernel
theorem d_People_assignParts_17 : decode prog_7_method_13_code 17 = .ok (.invokevirtual 110, 3) := by decide +kernel
theorem d_People_assignParts_20 : decode prog_7_method_13_code 20 = .ok (.iconst 1, 1) := by decide +kernel
theorem d_People_assignParts_21 : decode prog_7_method_13_code 21 = .ok (.iadd, 1) := by decide +kernel
theorem d_People_assignParts_22 : decode prog_7_method_13_code 22 = .ok (.putfield 113, 3) := by decide +kernel
theorem d_People_assignParts_25 : decode prog_7_method_13_code 25 = .ok (.aload_n 0, 1) := by decide +kernel
theorem d_People_assignParts_26 : decode prog_7_method_13_code 26 = .ok (.aload_n 0, 1) := by decide +kernel
theorem d_People_assignParts_27 : decode prog_7_method_13_code 27 = .ok (.getfield 113, 3) := by decide +kernel
theorem d_People_assignParts_30 : decode prog_7_method_13_code 30 = .ok (.putfield 116, 3) := by decide +kernel
theorem d_People_assignParts_33 : decode prog_7_method_13_code 33 = .ok (.aload_n 0, 1) := by decide +kernel
theorem d_People_assignParts_34 : decode prog_7_method_13_code 34 = .ok (.iload_n 1, 1) := by decide +kernel
theorem d_People_assignParts_35 : decode prog_7_method_13_code 35 = .ok (.putfield 119, 3) := by decide +kernel
theorem d_People_assignParts_38 : decode prog_7_method_13_code 38 = .ok (.aload_n 0, 1) := by decide +kernel
theorem d_People_assignParts_39 : decode prog_7_method_13_code 39 = .ok (.iload_n 1, 1) := by decide +kernel
theorem d_People_assignParts_40 : decode prog_7_method_13_code 40 = .ok (.putfield 122, 3) := by decide +kernel
theorem d_People_assignParts_43 : decode prog_7_method_13_code 43 = .ok (.aload_n 0, 1) := by decide +kernel
theorem d_People_assignParts_44 : decode prog_7_method_13_code 44 = .ok (.aload_n 0, 1) := by decide +kernel
theorem d_People_assignParts_45 : decode prog_7_method_13_code 45 = .ok (.getfield 22, 3) := by decide +kernel
theorem d_People_assignParts_48 : decode prog_7_method_13_code 48 = .ok (.aload_n 0, 1) := by decide +kernel
theorem d_People_assignParts_49 : decode prog_7_method_13_code 49 = .ok (.getfield 72, 3) := by decide +kernel
theorem d_People_assignParts_52 : decode prog_7_method_13_code 52 = .ok (.iconst 1, 1) := by decide +kernel
theorem d_People_assignParts_53 : decode prog_7_method_13_code 53 = .ok (.isub, 1) := by decide +kernel
theorem d_People_assignParts_54 : decode prog_7_method_13_code 54 = .ok (.iaload, 1) := by decide +kernel
theorem d_People_assignParts_55 : decode prog_7_method_13_code 55 = .ok (.putfield 125, 3) := by decide +kernel
theorem d_People_assignParts_58 : decode prog_7_method_13_code 58 = .ok (.aload_n 0, 1) := by decide +kernel
theorem d_People_assignParts_59 : decode prog_7_method_13_code 59 = .ok (.aload_n 0, 1) := by decide +kernel
theorem d_People_assignParts_60 : decode prog_7_method_13_code 60 = .ok (.getfield 125, 3) := by decide +kernel
theorem d_People_assignParts_63 : decode prog_7_method_13_code 63 = .ok (.putfield 101, 3) := by decide +kernel
theorem d_People_assignParts_66 : decode prog_7_method_13_code 66 = .ok (.aload_n 0, 1) := by decide +kernel
theorem d_People_assignParts_67 : decode prog_7_method_13_code 67 = .ok (.aload_n 0, 1) := by decide +kernel
theorem d_People_assignParts_68 : decode prog_7_method_13_code 68 = .ok (.getfield 62, 3) := by decide +kernel
theorem d_People_assignParts_71 : decode prog_7_method_13_code 71 = .ok (.putfield 104, 3) := by decide +kernel
theorem d_People_assignParts_74 : decode prog_7_method_13_code 74 = .ok (.return_, 1) := by decide +kernel
theorem d_People_putTogether_0 : decode prog_7_method_14_code 0 = .ok (.aload_n 3, 1) := by decide +kernel
theorem d_People_putTogether_1 : decode prog_7_method_14_code 1 = .ok (.invokevirtual 128, 3) := by decide +kernel
theorem d_People_putTogether_4 : decode prog_7_method_14_code 4 = .ok (.iload_n 2, 1) := by decide +kernel
theorem d_People_putTogether_5 : decode prog_7_method_14_code 5 = .ok (.tableswitch 190 0 2 #[27, 98, 173], 27) := by decide +kernel
theorem d_People_putTogether_32 : decode prog_7_method_14_code 32 = .ok (.aload_n 0, 1) := by decide +kernel
theorem d_People_putTogether_33 : decode prog_7_method_14_code 33 = .ok (.aload_n 1, 1) := by decide +kernel
theorem d_People_putTogether_34 : decode prog_7_method_14_code 34 = .ok (.aload_n 0, 1) := by decide +kernel
theorem d_People_putTogether_35 : decode prog_7_method_14_code 35 = .ok (.getfield 101, 3) := by decide +kernel
theorem d_People_putTogether_38 : decode prog_7_method_14_code 38 = .ok (.aload_n 0, 1) := by decide +kernel
theorem d_People_putTogether_39 : decode prog_7_method_14_code 39 = .ok (.getfield 104, 3) := by decide +kernel
theorem d_People_putTogether_42 : decode prog_7_method_14_code 42 = .ok (.aload_n 3, 1) := by decide +kernel
theorem d_People_putTogether_43 : decode prog_7_method_14_code 43 = .ok (.invokevirtual 131, 3) := by decide +kernel
theorem d_People_putTogether_46 : decode prog_7_method_14_code 46 = .ok (.aload_n 0, 1) := by decide +kernel
theorem d_People_putTogether_47 : decode prog_7_method_14_code 47 = .ok (.aload_n 1, 1) := by decide +kernel
theorem d_People_putTogether_48 : decode prog_7_method_14_code 48 = .ok (.aload_n 0, 1) := by decide +kernel
theorem d_People_putTogether_49 : decode prog_7_method_14_code 49 = .ok (.getfield 107, 3) := by decide +kernel
theorem d_People_putTogether_52 : decode prog_7_method_14_code 52 = .ok (.aload_n 0, 1) := by decide +kernel
theorem d_People_putTogether_53 : decode prog_7_method_14_code 53 = .ok (.getfield 113, 3) := by decide +kernel
theorem d_People_putTogether_56 : decode prog_7_method_14_code 56 = .ok (.aload_n 3, 1) := by decide +kernel
theorem d_People_putTogether_57 : decode prog_7_method_14_code 57 = .ok (.invokevirtual 131, 3) := by decide +kernel
theorem d_People_putTogether_60 : decode prog_7_method_14_code 60 = .ok (.aload_n 0, 1) := by decide +kernel
theorem d_People_putTogether_61 : decode prog_7_method_14_code 61 = .ok (.aload_n 1, 1) := by decide +kernel
theorem d_People_putTogether_62 : decode prog_7_method_14_code 62 = .ok (.aload_n 0, 1) := by decide +kernel
theorem d_People_putTogether_63 : decode prog_7_method_14_code 63 = .ok (.getfield 116, 3) := by decide +kernel
theorem d_People_putTogether_66 : decode prog_7_method_14_code 66 = .ok (.aload_n 0, 1) := by decide +kernel
theorem d_People_putTogether_67 : decode prog_7_method_14_code 67 = .ok (.getfield 119, 3) := by decide +kernel
theorem d_People_putTogether_70 : decode prog_7_method_14_code 70 = .ok (.aload_n 3, 1) := by decide +kernel
theorem d_People_putTogether_71 : decode prog_7_method_14_code 71 = .ok (.invokevirtual 131, 3) := by decide +kernel
theorem d_People_putTogether_74 : decode prog_7_method_14_code 74 = .ok (.aload_n 0, 1) := by decide +kernel
theorem d_People_putTogether_75 : decode prog_7_method_14_code 75 = .ok (.getfield 122, 3) := by decide +kernel
theorem d_People_putTogether_78 : decode prog_7_method_14_code 78 = .ok (.aload_n 0, 1) := by decide +kernel
theorem d_People_putTogether_79 : decode prog_7_method_14_code 79 = .ok (.getfield 125, 3) := by decide +kernel
theorem d_People_putTogether_82 : decode prog_7_method_14_code 82 = .ok (.aload_n 3, 1) := by decide +kernel
theorem d_People_putTogether_83 : decode prog_7_method_14_code 83 = .ok (.invokestatic 135, 3) := by decide +kernel
theorem d_People_putTogether_86 : decode prog_7_method_14_code 86 = .ok (.aload_n 0, 1) := by decide +kernel
theorem d_People_putTogether_87 : decode prog_7_method_14_code 87 = .ok (.aload_n 1, 1) := by decide +kernel
theorem d_People_putTogether_88 : decode prog_7_method_14_code 88 = .ok (.aload_n 0, 1) := by decide +kernel
theorem d_People_putTogether_89 : decode prog_7_method_14_code 89 = .ok (.getfield 122, 3) := by decide +kernel
theorem d_People_putTogether_92 : decode prog_7_method_14_code 92 = .ok (.aload_n 0, 1) := by decide +kernel
theorem d_People_putTogether_93 : decode prog_7_method_14_code 93 = .ok (.getfield 125, 3) := by decide +kernel
theorem d_People_putTogether_96 : decode prog_7_method_14_code 96 = .ok (.aload_n 3, 1) := by decide +kernel
theorem d_People_putTogether_97 : decode prog_7_method_14_code 97 = .ok (.invokevirtual 131, 3) := by decide +kernel
theorem d_People_putTogether_100 : decode prog_7_method_14_code 100 = .ok (.goto 129, 3) := by decide +kernel
theorem d_People_putTogether_103 : decode prog_7_method_14_code 103 = .ok (.aload_n 0, 1) := by decide +kernel
theorem d_People_putTogether_104 : decode prog_7_method_14_code 104 = .ok (.aload_n 1, 1) := by decide +kernel
theorem d_People_putTogether_105 : decode prog_7_method_14_code 105 = .ok (.aload_n 0, 1) := by decide +kernel
theorem d_People_putTogether_106 : decode prog_7_method_14_code 106 = .ok (.getfield 107, 3) := by decide +kernel
theorem d_People_putTogether_109 : decode prog_7_method_14_code 109 = .ok (.aload_n 0, 1) := by decide +kernel
theorem d_People_putTogether_110 : decode prog_7_method_14_code 110 = .ok (.getfield 113, 3) := by decide +kernel
theorem d_People_putTogether_113 : decode prog_7_method_14_code 113 = .ok (.aload_n 3, 1) := by decide +kernel
theorem d_People_putTogether_114 : decode prog_7_method_14_code 114 = .ok (.invokevirtual 131, 3) := by decide +kernel
theorem d_People_putTogether_117 : decode prog_7_method_14_code 117 = .ok (.aload_n 0, 1) := by decide +kernel
theorem d_People_putTogether_118 : decode prog_7_method_14_code 118 = .ok (.aload_n 1, 1) := by decide +kernel
theorem d_People_putTogether_119 : decode prog_7_method_14_code 119 = .ok (.aload_n 0, 1) := by decide +kernel
theorem d_People_putTogether_120 : decode prog_7_method_14_code 120 = .ok (.getfield 116, 3) := by decide +kernel
theorem d_People_putTogether_123 : decode prog_7_method_14_code 123 = .ok (.aload_n 0, 1) := by decide +kernel
theorem d_People_putTogether_124 : decode prog_7_method_14_code 124 = .ok (.getfield 119, 3) := by decide +kernel
theorem d_People_putTogether_127 : decode prog_7_method_14_code 127 = .ok (.aload_n 3, 1) := by decide +kernel
theorem d_People_putTogether_128 : decode prog_7_method_14_code 128 = .ok (.invokevirtual 131, 3) := by decide +kernel
theorem d_People_putTogether_131 : decode prog_7_method_14_code 131 = .ok (.aload_n 0, 1) := by decide +kernel
theorem d_People_putTogether_132 : decode prog_7_method_14_code 132 = .ok (.getfield 122, 3) := by decide +kernel
theorem d_People_putTogether_135 : decode prog_7_method_14_code 135 = .ok (.aload_n 0, 1) := by decide +kernel
theorem d_People_putTogether_136 : decode prog_7_method_14_code 136 = .ok (.getfield 125, 3) := by decide +kernel
theorem d_People_putTogether_139 : decode prog_7_method_14_code 139 = .ok (.aload_n 3, 1) := by decide +kernel
theorem d_People_putTogether_140 : decode prog_7_method_14_code 140 = .ok (.invokestatic 135, 3) := by decide +kernel
theorem d_People_putTogether_143 : decode prog_7_method_14_code 143 = .ok (.aload_n 0, 1) := by decide +kernel
theorem d_People_putTogether_144 : decode prog_7_method_14_code 144 = .ok (.aload_n 1, 1) := by decide +kernel
theorem d_People_putTogether_145 : decode prog_7_method_14_code 145 = .ok (.aload_n 0, 1) := by decide +kernel
theorem d_People_putTogether_146 : decode prog_7_method_14_code 146 = .ok (.getfield 122, 3) := by decide +kernel
theorem d_People_putTogether_149 : decode prog_7_method_14_code 149 = .ok (.aload_n 0, 1) := by decide +kernel
theorem d_People_putTogether_150 : decode prog_7_method_14_code 150 = .ok (.getfield 125, 3) := by decide +kernel
theorem d_People_putTogether_153 : decode prog_7_method_14_code 153 = .ok (.aload_n 3, 1) := by decide +kernel
theorem d_People_putTogether_154 : decode prog_7_method_14_code 154 = .ok (.invokevirtual 131, 3) := by decide +kernel
theorem d_People_putTogether_157 : decode prog_7_method_14_code 157 = .ok (.aload_n 0, 1) := by decide +kernel
theorem d_People_putTogether_158 : decode prog_7_method_14_code 158 = .ok (.getfield 101, 3) := by decide +kernel
theorem d_People_putTogether_161 : decode prog_7_method_14_code 161 = .ok (.aload_n 0, 1) := by decide +kernel
theorem d_People_putTogether_162 : decode prog_7_method_14_code 162 = .ok (.getfield 104, 3) := by decide +kernel
theorem d_People_putTogether_165 : decode prog_7_method_14_code 165 = .ok (.aload_n 3, 1) := by decide +kernel
theorem d_People_putTogether_166 : decode prog_7_method_14_code 166 = .ok (.invokestatic 135, 3) := by decide +kernel
theorem d_People_putTogether_169 : decode prog_7_method_14_code 169 = .ok (.aload_n 0, 1) := by decide +kernel
theorem d_People_putTogether_170 : decode prog_7_method_14_code 170 = .ok (.aload_n 1, 1) := by decide +kernel
theorem d_People_putTogether_171 : decode prog_7_method_14_code 171 = .ok (.aload_n 3, 1) := by decide +kernel
theorem d_People_putTogether_172 : decode prog_7_method_14_code 172 = .ok (.invokevirtual 139, 3) := by decide +kernel
theorem d_People_putTogether_175 : decode prog_7_method_14_code 175 = .ok (.goto 54, 3) := by decide +kernel
theorem d_People_putTogether_178 : decode prog_7_method_14_code 178 = .ok (.aload_n 0, 1) := by decide +kernel
theorem d_People_putTogether_179 : decode prog_7_method_14_code 179 = .ok (.aload_n 1, 1) := by decide +kernel
theorem d_People_putTogether_180 : decode prog_7_method_14_code 180 = .ok (.aload_n 0, 1) := by decide +kernel
theorem d_People_putTogether_181 : decode prog_7_method_14_code 181 = .ok (.getfield 116, 3) := by decide +kernel
theorem d_People_putTogether_184 : decode prog_7_method_14_code 184 = .ok (.aload_n 0, 1) := by decide +kernel
theorem d_People_putTogether_185 : decode prog_7_method_14_code 185 = .ok (.getfield 119, 3) := by decide +kernel
theorem d_People_putTogether_188 : decode prog_7_method_14_code 188 = .ok (.aload_n 3, 1) := by decide +kernel
theorem d_People_putTogether_189 : decode prog_7_method_14_code 189 = .ok (.invokevirtual 131, 3) := by decide +kernel
theorem d_People_putTogether_192 : decode prog_7_method_14_code 192 = .ok (.goto 37, 3) := by decide +kernel
theorem d_People_putTogether_195 : decode prog_7_method_14_code 195 = .ok (.aload_n 0, 1) := by decide +kernel
theorem d_People_putTogether_196 : decode prog_7_method_14_code 196 = .ok (.aload_n 1, 1) := by decide +kernel
theorem d_People_putTogether_197 : decode prog_7_method_14_code 197 = .ok (.aload_n 3, 1) := by decide +kernel
theorem d_People_putTogether_198 : decode prog_7_method_14_code 198 = .ok (.invokevirtual 139, 3) := by decide +kernel
theorem d_People_putTogether_201 : decode prog_7_method_14_code 201 = .ok (.aload_n 0, 1) := by decide +kernel
theorem d_People_putTogether_202 : decode prog_7_method_14_code 202 = .ok (.aload_n 1, 1) := by decide +kernel
theorem d_People_putTogether_203 : decode prog_7_method_14_code 203 = .ok (.aload_n 0, 1) := by decide +kernel
theorem d_People_putTogether_204 : decode prog_7_method_14_code 204 = .ok (.getfield 107, 3) := by decide +kernel
theorem d_People_putTogether_207 : decode prog_7_method_14_code 207 = .ok (.aload_n 0, 1) := by decide +kernel
theorem d_People_putTogether_208 : decode prog_7_method_14_code 208 = .ok (.getfield 113, 3) := by decide +kernel
theorem d_People_putTogether_211 : decode prog_7_method_14_code 211 = .ok (.aload_n 3, 1) := by decide +kernel
theorem d_People_putTogether_212 : decode prog_7_method_14_code 212 = .ok (.invokevirtual 131, 3) := by decide +kernel
theorem d_People_putTogether_215 : decode prog_7_method_14_code 215 = .ok (.aload_n 0, 1) := by decide +kernel
theorem d_People_putTogether_216 : decode prog_7_method_14_code 216 = .ok (.aload_n 1, 1) := by decide +kernel
theorem d_People_putTogether_217 : decode prog_7_method_14_code 217 = .ok (.aload_n 0, 1) := by decide +kernel
theorem d_People_putTogether_218 : decode prog_7_method_14_code 218 = .ok (.getfield 116, 3) := by decide +kernel
theorem d_People_putTogether_221 : decode prog_7_method_14_code 221 = .ok (.aload_n 0, 1) := by decide +kernel
theorem d_People_putTogether_222 : decode prog_7_method_14_code 222 = .ok (.getfield 119, 3) := by decide +kernel
theorem d_People_putTogether_225 : decode prog_7_method_14_code 225 = .ok (.aload_n 3, 1) := by decide +kernel
theorem d_People_putTogether_226 : decode prog_7_method_14_code 226 = .ok (.invokevirtual 131, 3) := by decide +kernel
theorem d_People_putTogether_229 : decode prog_7_method_14_code 229 = .ok (.return_, 1) := by decide +kernel
theorem d_People_addWords_0 : decode prog_7_method_16_code 0 = .ok (.iload_n 2, 1) := by decide +kernel
theorem d_People_addWords_1 : decode prog_7_method_16_code 1 = .ok (.istore 5, 2) := by decide +kernel
theorem d_People_addWords_3 : decode prog_7_method_16_code 3 = .ok (.iload 5, 2) := by decide +kernel
theorem d_People_addWords_5 : decode prog_7_method_16_code 5 = .ok (.iload_n 3, 1) := by decide +kernel
theorem d_People_addWords_6 : decode prog_7_method_16_code 6 = .ok (.if_icmp .ge 44, 3) := by decide +kernel
theorem d_People_addWords_9 : decode prog_7_method_16_code 9 = .ok (.aload 4, 2) := by decide +kernel
theorem d_People_addWords_11 : decode prog_7_method_16_code 11 = .ok (.invokevirtual 31, 3) := by decide +kernel
theorem d_People_addWords_14 : decode prog_7_method_16_code 14 = .ok (.ifCond .le 10, 3) := by decide +kernel
theorem d_People_addWords_17 : decode prog_7_method_16_code 17 = .ok (.aload 4, 2) := by decide +kernel
theorem d_People_addWords_19 : decode prog_7_method_16_code 19 = .ok (.bipush 32, 2) := by decide +kernel
theorem d_People_addWords_21 : decode prog_7_method_16_code 21 = .ok (.invokevirtual 143, 3) := by decide +kernel
theorem d_People_addWords_24 : decode prog_7_method_16_code 24 = .ok (.aload 4, 2) := by decide +kernel
theorem d_People_addWords_26 : decode prog_7_method_16_code 26 = .ok (.aload_n 1, 1) := by decide +kernel
theorem d_People_addWords_27 : decode prog_7_method_16_code 27 = .ok (.aload_n 0, 1) := by decide +kernel
theorem d_People_addWords_28 : decode prog_7_method_16_code 28 = .ok (.getfield 9, 3) := by decide +kernel
theorem d_People_addWords_31 : decode prog_7_method_16_code 31 = .ok (.iload 5, 2) := by decide +kernel
theorem d_People_addWords_33 : decode prog_7_method_16_code 33 = .ok (.iaload, 1) := by decide +kernel
theorem d_People_addWords_34 : decode prog_7_method_16_code 34 = .ok (.aload_n 0, 1) := by decide +kernel
theorem d_People_addWords_35 : decode prog_7_method_16_code 35 = .ok (.getfield 15, 3) := by decide +kernel
theorem d_People_addWords_38 : decode prog_7_method_16_code 38 = .ok (.iload 5, 2) := by decide +kernel
theorem d_People_addWords_40 : decode prog_7_method_16_code 40 = .ok (.iaload, 1) := by decide +kernel
theorem d_People_addWords_41 : decode prog_7_method_16_code 41 = .ok (.invokevirtual 147, 3) := by decide +kernel
theorem d_People_addWords_44 : decode prog_7_method_16_code 44 = .ok (.iinc 5 1, 3) := by decide +kernel
theorem d_People_addWords_47 : decode prog_7_method_16_code 47 = .ok (.goto (-44), 3) := by decide +kernel
theorem d_People_addWords_50 : decode prog_7_method_16_code 50 = .ok (.return_, 1) := by decide +kernel
theorem d_People_addComma_0 : decode prog_7_method_15_code 0 = .ok (.iload_n 0, 1) := by decide +kernel
theorem d_People_addComma_1 : decode prog_7_method_15_code 1 = .ok (.iload_n 1, 1) := by decide +kernel
theorem d_People_addComma_2 : decode prog_7_method_15_code 2 = .ok (.if_icmp .ge 16, 3) := by decide +kernel
theorem d_People_addComma_5 : decode prog_7_method_15_code 5 = .ok (.aload_n 2, 1) := by decide +kernel
theorem d_People_addComma_6 : decode prog_7_method_15_code 6 = .ok (.invokevirtual 31, 3) := by decide +kernel
theorem d_People_addComma_9 : decode prog_7_method_15_code 9 = .ok (.ifCond .le 9, 3) := by decide +kernel
theorem d_People_addComma_12 : decode prog_7_method_15_code 12 = .ok (.aload_n 2, 1) := by decide +kernel
theorem d_People_addComma_13 : decode prog_7_method_15_code 13 = .ok (.bipush 44, 2) := by decide +kernel
theorem d_People_addComma_15 : decode prog_7_method_15_code 15 = .ok (.invokevirtual 143, 3) := by decide +kernel
theorem d_People_addComma_18 : decode prog_7_method_15_code 18 = .ok (.return_, 1) := by decide +kernel
theorem d_People_addInitials_0 : decode prog_7_method_17_code 0 = .ok (.aload_n 0, 1) := by decide +kernel
theorem d_People_addInitials_1 : decode prog_7_method_17_code 1 = .ok (.getfield 101, 3) := by decide +kernel
theorem d_People_addInitials_4 : decode prog_7_method_17_code 4 = .ok (.istore_n 3, 1) := by decide +kernel
theorem d_People_addInitials_5 : decode prog_7_method_17_code 5 = .ok (.iload_n 3, 1) := by decide +kernel
theorem d_People_addInitials_6 : decode prog_7_method_17_code 6 = .ok (.aload_n 0, 1) := by decide +kernel
theorem d_People_addInitials_7 : decode prog_7_method_17_code 7 = .ok (.getfield 104, 3) := by decide +kernel
theorem d_People_addInitials_10 : decode prog_7_method_17_code 10 = .ok (.if_icmp .ge 51, 3) := by decide +kernel
theorem d_People_addInitials_13 : decode prog_7_method_17_code 13 = .ok (.aload_n 2, 1) := by decide +kernel
theorem d_People_addInitials_14 : decode prog_7_method_17_code 14 = .ok (.invokevirtual 31, 3) := by decide +kernel
theorem d_People_addInitials_17 : decode prog_7_method_17_code 17 = .ok (.ifCond .le 9, 3) := by decide +kernel
theorem d_People_addInitials_20 : decode prog_7_method_17_code 20 = .ok (.aload_n 2, 1) := by decide +kernel
theorem d_People_addInitials_21 : decode prog_7_method_17_code 21 = .ok (.bipush 32, 2) := by decide +kernel
theorem d_People_addInitials_23 : decode prog_7_method_17_code 23 = .ok (.invokevirtual 143, 3) := by decide +kernel
theorem d_People_addInitials_26 : decode prog_7_method_17_code 26 = .ok (.aload_n 0, 1) := by decide +kernel
theorem d_People_addInitials_27 : decode prog_7_method_17_code 27 = .ok (.aload_n 1, 1) := by decide +kernel
theorem d_People_addInitials_28 : decode prog_7_method_17_code 28 = .ok (.iload_n 3, 1) := by decide +kernel
theorem d_People_addInitials_29 : decode prog_7_method_17_code 29 = .ok (.invokevirtual 151, 3) := by decide +kernel
theorem d_People_addInitials_32 : decode prog_7_method_17_code 32 = .ok (.istore 4, 2) := by decide +kernel
theorem d_People_addInitials_34 : decode prog_7_method_17_code 34 = .ok (.iload 4, 2) := by decide +kernel
theorem d_People_addInitials_36 : decode prog_7_method_17_code 36 = .ok (.ifCond .lt 13, 3) := by decide +kernel
theorem d_People_addInitials_39 : decode prog_7_method_17_code 39 = .ok (.aload_n 2, 1) := by decide +kernel
theorem d_People_addInitials_40 : decode prog_7_method_17_code 40 = .ok (.aload_n 1, 1) := by decide +kernel
theorem d_People_addInitials_41 : decode prog_7_method_17_code 41 = .ok (.iload 4, 2) := by decide +kernel
theorem d_People_addInitials_43 : decode prog_7_method_17_code 43 = .ok (.invokevirtual 35, 3) := by decide +kernel
theorem d_People_addInitials_46 : decode prog_7_method_17_code 46 = .ok (.invokevirtual 143, 3) := by decide +kernel
theorem d_People_addInitials_49 : decode prog_7_method_17_code 49 = .ok (.aload_n 2, 1) := by decide +kernel
theorem d_People_addInitials_50 : decode prog_7_method_17_code 50 = .ok (.bipush 46, 2) := by decide +kernel
theorem d_People_addInitials_52 : decode prog_7_method_17_code 52 = .ok (.invokevirtual 143, 3) := by decide +kernel
theorem d_People_addInitials_55 : decode prog_7_method_17_code 55 = .ok (.iinc 3 1, 3) := by decide +kernel
theorem d_People_addInitials_58 : decode prog_7_method_17_code 58 = .ok (.goto (-53), 3) := by decide +kernel
theorem d_People_addInitials_61 : decode prog_7_method_17_code 61 = .ok (.return_, 1) := by decide +kernel
theorem d_People_initialPlace_0 : decode prog_7_method_18_code 0 = .ok (.iconst (-1), 1) := by decide +kernel
theorem d_People_initialPlace_1 : decode prog_7_method_18_code 1 = .ok (.istore_n 3, 1) := by decide +kernel
theorem d_People_initialPlace_2 : decode prog_7_method_18_code 2 = .ok (.aload_n 0, 1) := by decide +kernel
theorem d_People_initialPlace_3 : decode prog_7_method_18_code 3 = .ok (.getfield 9, 3) := by decide +kernel
theorem d_People_initialPlace_6 : decode prog_7_method_18_code 6 = .ok (.iload_n 2, 1) := by decide +kernel
theorem d_People_initialPlace_7 : decode prog_7_method_18_code 7 = .ok (.iaload, 1) := by decide +kernel
theorem d_People_initialPlace_8 : decode prog_7_method_18_code 8 = .ok (.istore 4, 2) := by decide +kernel
theorem d_People_initialPlace_10 : decode prog_7_method_18_code 10 = .ok (.iload 4, 2) := by decide +kernel
theorem d_People_initialPlace_12 : decode prog_7_method_18_code 12 = .ok (.aload_n 0, 1) := by decide +kernel
theorem d_People_initialPlace_13 : decode prog_7_method_18_code 13 = .ok (.getfield 15, 3) := by decide +kernel
theorem d_People_initialPlace_16 : decode prog_7_method_18_code 16 = .ok (.iload_n 2, 1) := by decide +kernel
theorem d_People_initialPlace_17 : decode prog_7_method_18_code 17 = .ok (.iaload, 1) := by decide +kernel
theorem d_People_initialPlace_18 : decode prog_7_method_18_code 18 = .ok (.if_icmp .ge 43, 3) := by decide +kernel
theorem d_People_initialPlace_21 : decode prog_7_method_18_code 21 = .ok (.aload_n 1, 1) := by decide +kernel
theorem d_People_initialPlace_22 : decode prog_7_method_18_code 22 = .ok (.iload 4, 2) := by decide +kernel
theorem d_People_initialPlace_24 : decode prog_7_method_18_code 24 = .ok (.invokevirtual 35, 3) := by decide +kernel
theorem d_People_initialPlace_27 : decode prog_7_method_18_code 27 = .ok (.istore 5, 2) := by decide +kernel
theorem d_People_initialPlace_29 : decode prog_7_method_18_code 29 = .ok (.iload 5, 2) := by decide +kernel
theorem d_People_initialPlace_31 : decode prog_7_method_18_code 31 = .ok (.invokestatic 88, 3) := by decide +kernel
theorem d_People_initialPlace_34 : decode prog_7_method_18_code 34 = .ok (.ifCond .eq 6, 3) := by decide +kernel
theorem d_People_initialPlace_37 : decode prog_7_method_18_code 37 = .ok (.iload 4, 2) := by decide +kernel
theorem d_People_initialPlace_39 : decode prog_7_method_18_code 39 = .ok (.ireturn, 1) := by decide +kernel
theorem d_People_initialPlace_40 : decode prog_7_method_18_code 40 = .ok (.iload_n 3, 1) := by decide +kernel
theorem d_People_initialPlace_41 : decode prog_7_method_18_code 41 = .ok (.ifCond .ge 14, 3) := by decide +kernel
theorem d_People_initialPlace_44 : decode prog_7_method_18_code 44 = .ok (.iload 5, 2) := by decide +kernel
theorem d_People_initialPlace_46 : decode prog_7_method_18_code 46 = .ok (.invokestatic 155, 3) := by decide +kernel
theorem d_People_initialPlace_49 : decode prog_7_method_18_code 49 = .ok (.ifCond .ne 6, 3) := by decide +kernel
theorem d_People_initialPlace_52 : decode prog_7_method_18_code 52 = .ok (.iload 4, 2) := by decide +kernel
theorem d_People_initialPlace_54 : decode prog_7_method_18_code 54 = .ok (.istore_n 3, 1) := by decide +kernel
theorem d_People_initialPlace_55 : decode prog_7_method_18_code 55 = .ok (.iinc 4 1, 3) := by decide +kernel
theorem d_People_initialPlace_58 : decode prog_7_method_18_code 58 = .ok (.goto (-48), 3) := by decide +kernel
theorem d_People_initialPlace_61 : decode prog_7_method_18_code 61 = .ok (.iload_n 3, 1) := by decide +kernel
theorem d_People_initialPlace_62 : decode prog_7_method_18_code 62 = .ok (.ireturn, 1) := by decide +kernel
theorem d_Editing_sizeWithoutBraces_0 : decode prog_3_method_4_code 0 = .ok (.iconst 0, 1) := by decide +kernel
theorem d_Editing_sizeWithoutBraces_1 : decode prog_3_method_4_code 1 = .ok (.istore_n 1, 1) := by decide +kernel
theorem d_Editing_sizeWithoutBraces_2 : decode prog_3_method_4_code 2 = .ok (.iconst 0, 1) := by decide +kernel
theorem d_Editing_sizeWithoutBraces_3 : decode prog_3_method_4_code 3 = .ok (.istore_n 2, 1) := by decide +kernel
theorem d_Editing_sizeWithoutBraces_4 : decode prog_3_method_4_code 4 = .ok (.iload_n 2, 1) := by decide +kernel
theorem d_Editing_sizeWithoutBraces_5 : decode prog_3_method_4_code 5 = .ok (.aload_n 0, 1) := by decide +kernel
theorem d_Editing_sizeWithoutBraces_6 : decode prog_3_method_4_code 6 = .ok (.invokevirtual 12, 3) := by decide +kernel
theorem d_Editing_sizeWithoutBraces_9 : decode prog_3_method_4_code 9 = .ok (.if_icmp .ge 23, 3) := by decide +kernel
theorem d_Editing_sizeWithoutBraces_12 : decode prog_3_method_4_code 12 = .ok (.aload_n 0, 1) := by decide +kernel
theorem d_Editing_sizeWithoutBraces_13 : decode prog_3_method_4_code 13 = .ok (.iload_n 2, 1) := by decide +kernel
theorem d_Editing_sizeWithoutBraces_14 : decode prog_3_method_4_code 14 = .ok (.invokevirtual 16, 3) := by decide +kernel
theorem d_Editing_sizeWithoutBraces_17 : decode prog_3_method_4_code 17 = .ok (.invokestatic 47, 3) := by decide +kernel
theorem d_Editing_sizeWithoutBraces_20 : decode prog_3_method_4_code 20 = .ok (.ifCond .ne 6, 3) := by decide +kernel
theorem d_Editing_sizeWithoutBraces_23 : decode prog_3_method_4_code 23 = .ok (.iinc 1 1, 3) := by decide +kernel
theorem d_Editing_sizeWithoutBraces_26 : decode prog_3_method_4_code 26 = .ok (.iinc 2 1, 3) := by decide +kernel
theorem d_Editing_sizeWithoutBraces_29 : decode prog_3_method_4_code 29 = .ok (.goto (-25), 3) := by decide +kernel
theorem d_Editing_sizeWithoutBraces_32 : decode prog_3_method_4_code 32 = .ok (.iload_n 1, 1) := by decide +kernel
theorem d_Editing_sizeWithoutBraces_33 : decode prog_3_method_4_code 33 = .ok (.ireturn, 1) := by decide +kernel
theorem d_Editing_changeCapitals_0 : decode prog_3_method_2_code 0 = .ok (.aload_n 2, 1) := by decide +kernel
theorem d_Editing_changeCapitals_1 : decode prog_3_method_2_code 1 = .ok (.invokevirtual 7, 3) := by decide +kernel
theorem d_Editing_changeCapitals_4 : decode prog_3_method_2_code 4 = .ok (.iconst 0, 1) := by decide +kernel
theorem d_Editing_changeCapitals_5 : decode prog_3_method_2_code 5 = .ok (.istore_n 3, 1) := by decide +kernel
theorem d_Editing_changeCapitals_6 : decode prog_3_method_2_code 6 = .ok (.iconst 1, 1) := by decide +kernel
theorem d_Editing_changeCapitals_7 : decode prog_3_method_2_code 7 = .ok (.istore 4, 2) := by decide +kernel
theorem d_Editing_changeCapitals_9 : decode prog_3_method_2_code 9 = .ok (.iconst 0, 1) := by decide +kernel
theorem d_Editing_changeCapitals_10 : decode prog_3_method_2_code 10 = .ok (.istore 5, 2) := by decide +kernel
theorem d_Editing_changeCapitals_12 : decode prog_3_method_2_code 12 = .ok (.iload 5, 2) := by decide +kernel
theorem d_Editing_changeCapitals_14 : decode prog_3_method_2_code 14 = .ok (.aload_n 0, 1) := by decide +kernel
theorem d_Editing_changeCapitals_15 : decode prog_3_method_2_code 15 = .ok (.invokevirtual 12, 3) := by decide +kernel
theorem d_Editing_changeCapitals_18 : decode prog_3_method_2_code 18 = .ok (.if_icmp .ge 116, 3) := by decide +kernel
theorem d_Editing_changeCapitals_21 : decode prog_3_method_2_code 21 = .ok (.aload_n 0, 1) := by decide +kernel
theorem d_Editing_changeCapitals_22 : decode prog_3_method_2_code 22 = .ok (.iload 5, 2) := by decide +kernel
theorem d_Editing_changeCapitals_24 : decode prog_3_method_2_code 24 = .ok (.invokevirtual 16, 3) := by decide +kernel
theorem d_Editing_changeCapitals_27 : decode prog_3_method_2_code 27 = .ok (.istore 6, 2) := by decide +kernel
theorem d_Editing_changeCapitals_29 : decode prog_3_method_2_code 29 = .ok (.iload_n 3, 1) := by decide +kernel
theorem d_Editing_changeCapitals_30 : decode prog_3_method_2_code 30 = .ok (.iload 6, 2) := by decide +kernel
theorem d_Editing_changeCapitals_32 : decode prog_3_method_2_code 32 = .ok (.invokestatic 20, 3) := by decide +kernel
theorem d_Editing_changeCapitals_35 : decode prog_3_method_2_code 35 = .ok (.istore_n 3, 1) := by decide +kernel
theorem d_Editing_changeCapitals_36 : decode prog_3_method_2_code 36 = .ok (.iload_n 3, 1) := by decide +kernel
theorem d_Editing_changeCapitals_37 : decode prog_3_method_2_code 37 = .ok (.ifCond .gt 12, 3) := by decide +kernel
theorem d_Editing_changeCapitals_40 : decode prog_3_method_2_code 40 = .ok (.iload 4, 2) := by decide +kernel
theorem d_Editing_changeCapitals_42 : decode prog_3_method_2_code 42 = .ok (.ifCond .eq 16, 3) := by decide +kernel
theorem d_Editing_changeCapitals_45 : decode prog_3_method_2_code 45 = .ok (.iload_n 1, 1) := by decide +kernel
theorem d_Editing_changeCapitals_46 : decode prog_3_method_2_code 46 = .ok (.ifCond .ne 12, 3) := by decide +kernel
theorem d_Editing_changeCapitals_49 : decode prog_3_method_2_code 49 = .ok (.aload_n 2, 1) := by decide +kernel
theorem d_Editing_changeCapitals_50 : decode prog_3_method_2_code 50 = .ok (.iload 6, 2) := by decide +kernel
theorem d_Editing_changeCapitals_52 : decode prog_3_method_2_code 52 = .ok (.invokevirtual 26, 3) := by decide +kernel
theorem d_Editing_changeCapitals_55 : decode prog_3_method_2_code 55 = .ok (.goto 25, 3) := by decide +kernel
theorem d_Editing_changeCapitals_58 : decode prog_3_method_2_code 58 = .ok (.aload_n 2, 1) := by decide +kernel
theorem d_Editing_changeCapitals_59 : decode prog_3_method_2_code 59 = .ok (.iload_n 1, 1) := by decide +kernel
theorem d_Editing_changeCapitals_60 : decode prog_3_method_2_code 60 = .ok (.iconst 2, 1) := by decide +kernel
theorem d_Editing_changeCapitals_61 : decode prog_3_method_2_code 61 = .ok (.if_icmp .ne 11, 3) := by decide +kernel
theorem d_Editing_changeCapitals_64 : decode prog_3_method_2_code 64 = .ok (.iload 6, 2) := by decide +kernel
theorem d_Editing_changeCapitals_66 : decode prog_3_method_2_code 66 = .ok (.invokestatic 30, 3) := by decide +kernel
theorem d_Editing_changeCapitals_69 : decode prog_3_method_2_code 69 = .ok (.goto 8, 3) := by decide +kernel
theorem d_Editing_changeCapitals_72 : decode prog_3_method_2_code 72 = .ok (.iload 6, 2) := by decide +kernel
theorem d_Editing_changeCapitals_74 : decode prog_3_method_2_code 74 = .ok (.invokestatic 34, 3) := by decide +kernel
theorem d_Editing_changeCapitals_77 : decode prog_3_method_2_code 77 = .ok (.invokevirtual 26, 3) := by decide +kernel
theorem d_Editing_changeCapitals_80 : decode prog_3_method_2_code 80 = .ok (.iload 6, 2) := by decide +kernel
theorem d_Editing_changeCapitals_82 : decode prog_3_method_2_code 82 = .ok (.bipush 58, 2) := by decide +kernel
theorem d_Editing_changeCapitals_84 : decode prog_3_method_2_code 84 = .ok (.if_icmp .ne 11, 3) := by decide +kernel
theorem d_Editing_changeCapitals_87 : decode prog_3_method_2_code 87 = .ok (.iload_n 3, 1) := by decide +kernel
theorem d_Editing_changeCapitals_88 : decode prog_3_method_2_code 88 = .ok (.ifCond .ne 7, 3) := by decide +kernel
theorem d_Editing_changeCapitals_91 : decode prog_3_method_2_code 91 = .ok (.iconst 1, 1) := by decide +kernel
theorem d_Editing_changeCapitals_92 : decode prog_3_method_2_code 92 = .ok (.goto 4, 3) := by decide +kernel
theorem d_Editing_changeCapitals_95 : decode prog_3_method_2_code 95 = .ok (.iconst 0, 1) := by decide +kernel
theorem d_Editing_changeCapitals_96 : decode prog_3_method_2_code 96 = .ok (.istore 7, 2) := by decide +kernel
theorem d_Editing_changeCapitals_98 : decode prog_3_method_2_code 98 = .ok (.iload 7, 2) := by decide +kernel
theorem d_Editing_changeCapitals_100 : decode prog_3_method_2_code 100 = .ok (.ifCond .ne 21, 3) := by decide +kernel
theorem d_Editing_changeCapitals_103 : decode prog_3_method_2_code 103 = .ok (.iload 4, 2) := by decide +kernel
theorem d_Editing_changeCapitals_105 : decode prog_3_method_2_code 105 = .ok (.ifCond .eq 20, 3) := by decide +kernel
theorem d_Editing_changeCapitals_108 : decode prog_3_method_2_code 108 = .ok (.iload 6, 2) := by decide +kernel
theorem d_Editing_changeCapitals_110 : decode prog_3_method_2_code 110 = .ok (.invokestatic 37, 3) := by decide +kernel
theorem d_Editing_changeCapitals_113 : decode prog_3_method_2_code 113 = .ok (.ifCond .eq 12, 3) := by decide +kernel
theorem d_Editing_changeCapitals_116 : decode prog_3_method_2_code 116 = .ok (.iload 5, 2) := by decide +kernel
theorem d_Editing_changeCapitals_118 : decode prog_3_method_2_code 118 = .ok (.ifCond .le 7, 3) := by decide +kernel
theorem d_Editing_changeCapitals_121 : decode prog_3_method_2_code 121 = .ok (.iconst 1, 1) := by decide +kernel
theorem d_Editing_changeCapitals_122 : decode prog_3_method_2_code 122 = .ok (.goto 4, 3) := by decide +kernel
theorem d_Editing_changeCapitals_125 : decode prog_3_method_2_code 125 = .ok (.iconst 0, 1) := by decide +kernel
theorem d_Editing_changeCapitals_126 : decode prog_3_method_2_code 126 = .ok (.istore 4, 2) := by decide +kernel
theorem d_Editing_changeCapitals_128 : decode prog_3_method_2_code 128 = .ok (.iinc 5 1, 3) := by decide +kernel
theorem d_Editing_changeCapitals_131 : decode prog_3_method_2_code 131 = .ok (.goto (-119), 3) := by decide +kernel
theorem d_Editing_changeCapitals_134 : decode prog_3_method_2_code 134 = .ok (.return_, 1) := by decide +kernel
theorem d_Editing_purify_0 : decode prog_3_method_3_code 0 = .ok (.aload_n 1, 1) := by decide +kernel
theorem d_Editing_purify_1 : decode prog_3_method_3_code 1 = .ok (.invokevirtual 7, 3) := by decide +kernel
theorem d_Editing_purify_4 : decode prog_3_method_3_code 4 = .ok (.iconst 0, 1) := by decide +kernel
theorem d_Editing_purify_5 : decode prog_3_method_3_code 5 = .ok (.istore_n 2, 1) := by decide +kernel
theorem d_Editing_purify_6 : decode prog_3_method_3_code 6 = .ok (.iload_n 2, 1) := by decide +kernel
theorem d_Editing_purify_7 : decode prog_3_method_3_code 7 = .ok (.aload_n 0, 1) := by decide +kernel
theorem d_Editing_purify_8 : decode prog_3_method_3_code 8 = .ok (.invokevirtual 12, 3) := by decide +kernel
theorem d_Editing_purify_11 : decode prog_3_method_3_code 11 = .ok (.if_icmp .ge 61, 3) := by decide +kernel
theorem d_Editing_purify_14 : decode prog_3_method_3_code 14 = .ok (.aload_n 0, 1) := by decide +kernel
theorem d_Editing_purify_15 : decode prog_3_method_3_code 15 = .ok (.iload_n 2, 1) := by decide +kernel
theorem d_Editing_purify_16 : decode prog_3_method_3_code 16 = .ok (.invokevirtual 16, 3) := by decide +kernel
theorem d_Editing_purify_19 : decode prog_3_method_3_code 19 = .ok (.istore_n 3, 1) := by decide +kernel
theorem d_Editing_purify_20 : decode prog_3_method_3_code 20 = .ok (.iload_n 3, 1) := by decide +kernel
theorem d_Editing_purify_21 : decode prog_3_method_3_code 21 = .ok (.bipush 45, 2) := by decide +kernel
theorem d_Editing_purify_23 : decode prog_3_method_3_code 23 = .ok (.if_icmp .eq 9, 3) := by decide +kernel
theorem d_Editing_purify_26 : decode prog_3_method_3_code 26 = .ok (.iload_n 3, 1) := by decide +kernel
theorem d_Editing_purify_27 : decode prog_3_method_3_code 27 = .ok (.bipush 126, 2) := by decide +kernel
theorem d_Editing_purify_29 : decode prog_3_method_3_code 29 = .ok (.if_icmp .ne 12, 3) := by decide +kernel
theorem d_Editing_purify_32 : decode prog_3_method_3_code 32 = .ok (.aload_n 1, 1) := by decide +kernel
theorem d_Editing_purify_33 : decode prog_3_method_3_code 33 = .ok (.bipush 32, 2) := by decide +kernel
theorem d_Editing_purify_35 : decode prog_3_method_3_code 35 = .ok (.invokevirtual 26, 3) := by decide +kernel
theorem d_Editing_purify_38 : decode prog_3_method_3_code 38 = .ok (.goto 28, 3) := by decide +kernel
theorem d_Editing_purify_41 : decode prog_3_method_3_code 41 = .ok (.iload_n 3, 1) := by decide +kernel
theorem d_Editing_purify_42 : decode prog_3_method_3_code 42 = .ok (.invokestatic 41, 3) := by decide +kernel
theorem d_Editing_purify_45 : decode prog_3_method_3_code 45 = .ok (.ifCond .ne 16, 3) := by decide +kernel
theorem d_Editing_purify_48 : decode prog_3_method_3_code 48 = .ok (.iload_n 3, 1) := by decide +kernel
theorem d_Editing_purify_49 : decode prog_3_method_3_code 49 = .ok (.invokestatic 44, 3) := by decide +kernel
theorem d_Editing_purify_52 : decode prog_3_method_3_code 52 = .ok (.ifCond .ne 9, 3) := by decide +kernel
theorem d_Editing_purify_55 : decode prog_3_method_3_code 55 = .ok (.iload_n 3, 1) := by decide +kernel
theorem d_Editing_purify_56 : decode prog_3_method_3_code 56 = .ok (.bipush 32, 2) := by decide +kernel
theorem d_Editing_purify_58 : decode prog_3_method_3_code 58 = .ok (.if_icmp .ne 8, 3) := by decide +kernel
theorem d_Editing_purify_61 : decode prog_3_method_3_code 61 = .ok (.aload_n 1, 1) := by decide +kernel
theorem d_Editing_purify_62 : decode prog_3_method_3_code 62 = .ok (.iload_n 3, 1) := by decide +kernel
theorem d_Editing_purify_63 : decode prog_3_method_3_code 63 = .ok (.invokevirtual 26, 3) := by decide +kernel
theorem d_Editing_purify_66 : decode prog_3_method_3_code 66 = .ok (.iinc 2 1, 3) := by decide +kernel
theorem d_Editing_purify_69 : decode prog_3_method_3_code 69 = .ok (.goto (-63), 3) := by decide +kernel
theorem d_Editing_purify_72 : decode prog_3_method_3_code 72 = .ok (.return_, 1) := by decide +kernel
theorem d_Editing_cutBehind_0 : decode prog_3_method_5_code 0 = .ok (.aload_n 2, 1) := by decide +kernel
theorem d_Editing_cutBehind_1 : decode prog_3_method_5_code 1 = .ok (.invokevirtual 7, 3) := by decide +kernel
theorem d_Editing_cutBehind_4 : decode prog_3_method_5_code 4 = .ok (.iconst 0, 1) := by decide +kernel
theorem d_Editing_cutBehind_5 : decode prog_3_method_5_code 5 = .ok (.istore_n 3, 1) := by decide +kernel
theorem d_Editing_cutBehind_6 : decode prog_3_method_5_code 6 = .ok (.iconst 0, 1) := by decide +kernel
theorem d_Editing_cutBehind_7 : decode prog_3_method_5_code 7 = .ok (.istore 4, 2) := by decide +kernel
theorem d_Editing_cutBehind_9 : decode prog_3_method_5_code 9 = .ok (.iconst 0, 1) := by decide +kernel
theorem d_Editing_cutBehind_10 : decode prog_3_method_5_code 10 = .ok (.istore 5, 2) := by decide +kernel
theorem d_Editing_cutBehind_12 : decode prog_3_method_5_code 12 = .ok (.iload 5, 2) := by decide +kernel
theorem d_Editing_cutBehind_14 : decode prog_3_method_5_code 14 = .ok (.aload_n 0, 1) := by decide +kernel
theorem d_Editing_cutBehind_15 : decode prog_3_method_5_code 15 = .ok (.invokevirtual 12, 3) := by decide +kernel
theorem d_Editing_cutBehind_18 : decode prog_3_method_5_code 18 = .ok (.if_icmp .ge 47, 3) := by decide +kernel
theorem d_Editing_cutBehind_21 : decode prog_3_method_5_code 21 = .ok (.iload 4, 2) := by decide +kernel
theorem d_Editing_cutBehind_23 : decode prog_3_method_5_code 23 = .ok (.iload_n 1, 1) := by decide +kernel
theorem d_Editing_cutBehind_24 : decode prog_3_method_5_code 24 = .ok (.if_icmp .ge 41, 3) := by decide +kernel
theorem d_Editing_cutBehind_27 : decode prog_3_method_5_code 27 = .ok (.aload_n 0, 1) := by decide +kernel
theorem d_Editing_cutBehind_28 : decode prog_3_method_5_code 28 = .ok (.iload 5, 2) := by decide +kernel
theorem d_Editing_cutBehind_30 : decode prog_3_method_5_code 30 = .ok (.invokevirtual 16, 3) := by decide +kernel
theorem d_Editing_cutBehind_33 : decode prog_3_method_5_code 33 = .ok (.istore 6, 2) := by decide +kernel
theorem d_Editing_cutBehind_35 : decode prog_3_method_5_code 35 = .ok (.aload_n 2, 1) := by decide +kernel
theorem d_Editing_cutBehind_36 : decode prog_3_method_5_code 36 = .ok (.iload 6, 2) := by decide +kernel
theorem d_Editing_cutBehind_38 : decode prog_3_method_5_code 38 = .ok (.invokevirtual 26, 3) := by decide +kernel
theorem d_Editing_cutBehind_41 : decode prog_3_method_5_code 41 = .ok (.iload_n 3, 1) := by decide +kernel
theorem d_Editing_cutBehind_42 : decode prog_3_method_5_code 42 = .ok (.iload 6, 2) := by decide +kernel
theorem d_Editing_cutBehind_44 : decode prog_3_method_5_code 44 = .ok (.invokestatic 20, 3) := by decide +kernel
theorem d_Editing_cutBehind_47 : decode prog_3_method_5_code 47 = .ok (.istore_n 3, 1) := by decide +kernel
theorem d_Editing_cutBehind_48 : decode prog_3_method_5_code 48 = .ok (.iload 6, 2) := by decide +kernel
theorem d_Editing_cutBehind_50 : decode prog_3_method_5_code 50 = .ok (.invokestatic 47, 3) := by decide +kernel
theorem d_Editing_cutBehind_53 : decode prog_3_method_5_code 53 = .ok (.ifCond .ne 6, 3) := by decide +kernel
theorem d_Editing_cutBehind_56 : decode prog_3_method_5_code 56 = .ok (.iinc 4 1, 3) := by decide +kernel
theorem d_Editing_cutBehind_59 : decode prog_3_method_5_code 59 = .ok (.iinc 5 1, 3) := by decide +kernel
theorem d_Editing_cutBehind_62 : decode prog_3_method_5_code 62 = .ok (.goto (-50), 3) := by decide +kernel
theorem d_Editing_cutBehind_65 : decode prog_3_method_5_code 65 = .ok (.iconst 0, 1) := by decide +kernel
theorem d_Editing_cutBehind_66 : decode prog_3_method_5_code 66 = .ok (.istore 5, 2) := by decide +kernel
theorem d_Editing_cutBehind_68 : decode prog_3_method_5_code 68 = .ok (.iload 5, 2) := by decide +kernel
theorem d_Editing_cutBehind_70 : decode prog_3_method_5_code 70 = .ok (.iload_n 3, 1) := by decide +kernel
theorem d_Editing_cutBehind_71 : decode prog_3_method_5_code 71 = .ok (.if_icmp .ge 15, 3) := by decide +kernel
theorem d_Editing_cutBehind_74 : decode prog_3_method_5_code 74 = .ok (.aload_n 2, 1) := by decide +kernel
theorem d_Editing_cutBehind_75 : decode prog_3_method_5_code 75 = .ok (.bipush 125, 2) := by decide +kernel
theorem d_Editing_cutBehind_77 : decode prog_3_method_5_code 77 = .ok (.invokevirtual 26, 3) := by decide +kernel
theorem d_Editing_cutBehind_80 : decode prog_3_method_5_code 80 = .ok (.iinc 5 1, 3) := by decide +kernel
theorem d_Editing_cutBehind_83 : decode prog_3_method_5_code 83 = .ok (.goto (-15), 3) := by decide +kernel
theorem d_Editing_cutBehind_86 : decode prog_3_method_5_code 86 = .ok (.return_, 1) := by decide +kernel
theorem d_Editing_cutOut_0 : decode prog_3_method_6_code 0 = .ok (.aload_n 3, 1) := by decide +kernel
theorem d_Editing_cutOut_1 : decode prog_3_method_6_code 1 = .ok (.invokevirtual 7, 3) := by decide +kernel
theorem d_Editing_cutOut_4 : decode prog_3_method_6_code 4 = .ok (.iload_n 1, 1) := by decide +kernel
theorem d_Editing_cutOut_5 : decode prog_3_method_6_code 5 = .ok (.ifCond .eq 8, 3) := by decide +kernel
theorem d_Editing_cutOut_8 : decode prog_3_method_6_code 8 = .ok (.iload_n 2, 1) := by decide +kernel
theorem d_Editing_cutOut_9 : decode prog_3_method_6_code 9 = .ok (.iconst 1, 1) := by decide +kernel
theorem d_Editing_cutOut_10 : decode prog_3_method_6_code 10 = .ok (.if_icmp .ge 4, 3) := by decide +kernel
theorem d_Editing_cutOut_13 : decode prog_3_method_6_code 13 = .ok (.return_, 1) := by decide +kernel
theorem d_Editing_cutOut_14 : decode prog_3_method_6_code 14 = .ok (.iload_n 1, 1) := by decide +kernel
theorem d_Editing_cutOut_15 : decode prog_3_method_6_code 15 = .ok (.ifCond .le 10, 3) := by decide +kernel
theorem d_Editing_cutOut_18 : decode prog_3_method_6_code 18 = .ok (.iload_n 1, 1) := by decide +kernel
theorem d_Editing_cutOut_19 : decode prog_3_method_6_code 19 = .ok (.i2l, 1) := by decide +kernel
theorem d_Editing_cutOut_20 : decode prog_3_method_6_code 20 = .ok (.lconst 1, 1) := by decide +kernel
theorem d_Editing_cutOut_21 : decode prog_3_method_6_code 21 = .ok (.lsub, 1) := by decide +kernel
theorem d_Editing_cutOut_22 : decode prog_3_method_6_code 22 = .ok (.goto 16, 3) := by decide +kernel
theorem d_Editing_cutOut_25 : decode prog_3_method_6_code 25 = .ok (.aload_n 0, 1) := by decide +kernel
theorem d_Editing_cutOut_26 : decode prog_3_method_6_code 26 = .ok (.invokevirtual 12, 3) := by decide +kernel
theorem d_Editing_cutOut_29 : decode prog_3_method_6_code 29 = .ok (.i2l, 1) := by decide +kernel
theorem d_Editing_cutOut_30 : decode prog_3_method_6_code 30 = .ok (.iload_n 1, 1) := by decide +kernel
theorem d_Editing_cutOut_31 : decode prog_3_method_6_code 31 = .ok (.i2l, 1) := by decide +kernel
theorem d_Editing_cutOut_32 : decode prog_3_method_6_code 32 = .ok (.ladd, 1) := by decide +kernel
theorem d_Editing_cutOut_33 : decode prog_3_method_6_code 33 = .ok (.lconst 1, 1) := by decide +kernel
theorem d_Editing_cutOut_34 : decode prog_3_method_6_code 34 = .ok (.ladd, 1) := by decide +kernel
theorem d_Editing_cutOut_35 : decode prog_3_method_6_code 35 = .ok (.iload_n 2, 1) := by decide +kernel
theorem d_Editing_cutOut_36 : decode prog_3_method_6_code 36 = .ok (.i2l, 1) := by decide +kernel
theorem d_Editing_cutOut_37 : decode prog_3_method_6_code 37 = .ok (.lsub, 1) := by decide +kernel
theorem d_Editing_cutOut_38 : decode prog_3_method_6_code 38 = .ok (.lstore 4, 2) := by decide +kernel
theorem d_Editing_cutOut_40 : decode prog_3_method_6_code 40 = .ok (.lload 4, 2) := by decide +kernel
theorem d_Editing_cutOut_42 : decode prog_3_method_6_code 42 = .ok (.iload_n 2, 1) := by decide +kernel
theorem d_Editing_cutOut_43 : decode prog_3_method_6_code 43 = .ok (.i2l, 1) := by decide +kernel
theorem d_Editing_cutOut_44 : decode prog_3_method_6_code 44 = .ok (.ladd, 1) := by decide +kernel
theorem d_Editing_cutOut_45 : decode prog_3_method_6_code 45 = .ok (.lstore 6, 2) := by decide +kernel
theorem d_Editing_cutOut_47 : decode prog_3_method_6_code 47 = .ok (.lload 4, 2) := by decide +kernel
theorem d_Editing_cutOut_49 : decode prog_3_method_6_code 49 = .ok (.lconst 0, 1) := by decide +kernel
theorem d_Editing_cutOut_50 : decode prog_3_method_6_code 50 = .ok (.invokestatic 50, 3) := by decide +kernel
theorem d_Editing_cutOut_53 : decode prog_3_method_6_code 53 = .ok (.l2i, 1) := by decide +kernel
theorem d_Editing_cutOut_54 : decode prog_3_method_6_code 54 = .ok (.istore 8, 2) := by decide +kernel
theorem d_Editing_cutOut_56 : decode prog_3_method_6_code 56 = .ok (.lload 6, 2) := by decide +kernel
theorem d_Editing_cutOut_58 : decode prog_3_method_6_code 58 = .ok (.lconst 0, 1) := by decide +kernel
theorem d_Editing_cutOut_59 : decode prog_3_method_6_code 59 = .ok (.invokestatic 50, 3) := by decide +kernel
theorem d_Editing_cutOut_62 : decode prog_3_method_6_code 62 = .ok (.aload_n 0, 1) := by decide +kernel
theorem d_Editing_cutOut_63 : decode prog_3_method_6_code 63 = .ok (.invokevirtual 12, 3) := by decide +kernel
theorem d_Editing_cutOut_66 : decode prog_3_method_6_code 66 = .ok (.i2l, 1) := by decide +kernel
theorem d_Editing_cutOut_67 : decode prog_3_method_6_code 67 = .ok (.invokestatic 56, 3) := by decide +kernel
theorem d_Editing_cutOut_70 : decode prog_3_method_6_code 70 = .ok (.l2i, 1) := by decide +kernel
theorem d_Editing_cutOut_71 : decode prog_3_method_6_code 71 = .ok (.istore 9, 2) := by decide +kernel
theorem d_Editing_cutOut_73 : decode prog_3_method_6_code 73 = .ok (.aload_n 3, 1) := by decide +kernel
theorem d_Editing_cutOut_74 : decode prog_3_method_6_code 74 = .ok (.aload_n 0, 1) := by decide +kernel
theorem d_Editing_cutOut_75 : decode prog_3_method_6_code 75 = .ok (.iload 8, 2) := by decide +kernel
theorem d_Editing_cutOut_77 : decode prog_3_method_6_code 77 = .ok (.iload 9, 2) := by decide +kernel
theorem d_Editing_cutOut_79 : decode prog_3_method_6_code 79 = .ok (.invokevirtual 59, 3) := by decide +kernel
theorem d_Editing_cutOut_82 : decode prog_3_method_6_code 82 = .ok (.return_, 1) := by decide +kernel
theorem d_Page_init_0 : decode prog_6_method_1_code 0 = .ok (.aload_n 0, 1) := by decide +kernel
theorem d_Page_init_1 : decode prog_6_method_1_code 1 = .ok (.invokespecial 1, 3) := by decide +kernel
theorem d_Page_init_4 : decode prog_6_method_1_code 4 = .ok (.aload_n 0, 1) := by decide +kernel
theorem d_Page_init_5 : decode prog_6_method_1_code 5 = .ok (.new 7, 3) := by decide +kernel
theorem d_Page_init_8 : decode prog_6_method_1_code 8 = .ok (.dup, 1) := by decide +kernel
theorem d_Page_init_9 : decode prog_6_method_1_code 9 = .ok (.sipush 180, 3) := by decide +kernel
theorem d_Page_init_12 : decode prog_6_method_1_code 12 = .ok (.invokespecial 11, 3) := by decide +kernel
theorem d_Page_init_15 : decode prog_6_method_1_code 15 = .ok (.putfield 14, 3) := by decide +kernel
theorem d_Page_init_18 : decode prog_6_method_1_code 18 = .ok (.aload_n 0, 1) := by decide +kernel
theorem d_Page_init_19 : decode prog_6_method_1_code 19 = .ok (.bipush 24, 2) := by decide +kernel
theorem d_Page_init_21 : decode prog_6_method_1_code 21 = .ok (.anewarray 7, 3) := by decide +kernel
theorem d_Page_init_24 : decode prog_6_method_1_code 24 = .ok (.putfield 18, 3) := by decide +kernel
theorem d_Page_init_27 : decode prog_6_method_1_code 27 = .ok (.return_, 1) := by decide +kernel
theorem d_Page_putOut_0 : decode prog_6_method_6_code 0 = .ok (.aload_n 0, 1) := by decide +kernel
theorem d_Page_putOut_1 : decode prog_6_method_6_code 1 = .ok (.getfield 14, 3) := by decide +kernel
theorem d_Page_putOut_4 : decode prog_6_method_6_code 4 = .ok (.aload_n 1, 1) := by decide +kernel
theorem d_Page_putOut_5 : decode prog_6_method_6_code 5 = .ok (.iconst 0, 1) := by decide +kernel
theorem d_Page_putOut_6 : decode prog_6_method_6_code 6 = .ok (.aload_n 1, 1) := by decide +kernel
theorem d_Page_putOut_7 : decode prog_6_method_6_code 7 = .ok (.invokevirtual 26, 3) := by decide +kernel
theorem d_Page_putOut_10 : decode prog_6_method_6_code 10 = .ok (.invokevirtual 30, 3) := by decide +kernel
theorem d_Page_putOut_13 : decode prog_6_method_6_code 13 = .ok (.iconst 0, 1) := by decide +kernel
theorem d_Page_putOut_14 : decode prog_6_method_6_code 14 = .ok (.istore_n 2, 1) := by decide +kernel
theorem d_Page_putOut_15 : decode prog_6_method_6_code 15 = .ok (.iload_n 2, 1) := by decide +kernel
theorem d_Page_putOut_16 : decode prog_6_method_6_code 16 = .ok (.sipush 180, 3) := by decide +kernel
theorem d_Page_putOut_19 : decode prog_6_method_6_code 19 = .ok (.if_icmp .ge 44, 3) := by decide +kernel
theorem d_Page_putOut_22 : decode prog_6_method_6_code 22 = .ok (.aload_n 0, 1) := by decide +kernel
theorem d_Page_putOut_23 : decode prog_6_method_6_code 23 = .ok (.getfield 14, 3) := by decide +kernel
theorem d_Page_putOut_26 : decode prog_6_method_6_code 26 = .ok (.invokevirtual 26, 3) := by decide +kernel
theorem d_Page_putOut_29 : decode prog_6_method_6_code 29 = .ok (.bipush 30, 2) := by decide +kernel
theorem d_Page_putOut_31 : decode prog_6_method_6_code 31 = .ok (.if_icmp .le 32, 3) := by decide +kernel
theorem d_Page_putOut_34 : decode prog_6_method_6_code 34 = .ok (.aload_n 0, 1) := by decide +kernel
theorem d_Page_putOut_35 : decode prog_6_method_6_code 35 = .ok (.invokevirtual 34, 3) := by decide +kernel
theorem d_Page_putOut_38 : decode prog_6_method_6_code 38 = .ok (.istore_n 3, 1) := by decide +kernel
theorem d_Page_putOut_39 : decode prog_6_method_6_code 39 = .ok (.iload_n 3, 1) := by decide +kernel
theorem d_Page_putOut_40 : decode prog_6_method_6_code 40 = .ok (.ifCond .ge 4, 3) := by decide +kernel
theorem d_Page_putOut_43 : decode prog_6_method_6_code 43 = .ok (.return_, 1) := by decide +kernel
theorem d_Page_putOut_44 : decode prog_6_method_6_code 44 = .ok (.aload_n 0, 1) := by decide +kernel
theorem d_Page_putOut_45 : decode prog_6_method_6_code 45 = .ok (.iload_n 3, 1) := by decide +kernel
theorem d_Page_putOut_46 : decode prog_6_method_6_code 46 = .ok (.invokevirtual 37, 3) := by decide +kernel
theorem d_Page_putOut_49 : decode prog_6_method_6_code 49 = .ok (.aload_n 0, 1) := by decide +kernel
theorem d_Page_putOut_50 : decode prog_6_method_6_code 50 = .ok (.getfield 14, 3) := by decide +kernel
theorem d_Page_putOut_53 : decode prog_6_method_6_code 53 = .ok (.iload_n 3, 1) := by decide +kernel
theorem d_Page_putOut_54 : decode prog_6_method_6_code 54 = .ok (.invokevirtual 40, 3) := by decide +kernel
theorem d_Page_putOut_57 : decode prog_6_method_6_code 57 = .ok (.iinc 2 1, 3) := by decide +kernel
theorem d_Page_putOut_60 : decode prog_6_method_6_code 60 = .ok (.goto (-45), 3) := by decide +kernel
theorem d_Page_putOut_63 : decode prog_6_method_6_code 63 = .ok (.return_, 1) := by decide +kernel
theorem d_Page_breakPlace_0 : decode prog_6_method_8_code 0 = .ok (.iconst (-1), 1) := by decide +kernel
theorem d_Page_breakPlace_1 : decode prog_6_method_8_code 1 = .ok (.istore_n 1, 1) := by decide +kernel
theorem d_Page_breakPlace_2 : decode prog_6_method_8_code 2 = .ok (.iconst 3, 1) := by decide +kernel
theorem d_Page_breakPlace_3 : decode prog_6_method_8_code 3 = .ok (.istore_n 2, 1) := by decide +kernel
theorem d_Page_breakPlace_4 : decode prog_6_method_8_code 4 = .ok (.iload_n 2, 1) := by decide +kernel
theorem d_Page_breakPlace_5 : decode prog_6_method_8_code 5 = .ok (.aload_n 0, 1) := by decide +kernel
theorem d_Page_breakPlace_6 : decode prog_6_method_8_code 6 = .ok (.getfield 14, 3) := by decide +kernel
theorem d_Page_breakPlace_9 : decode prog_6_method_8_code 9 = .ok (.invokevirtual 26, 3) := by decide +kernel
theorem d_Page_breakPlace_12 : decode prog_6_method_8_code 12 = .ok (.if_icmp .ge 36, 3) := by decide +kernel
theorem d_Page_breakPlace_15 : decode prog_6_method_8_code 15 = .ok (.iload_n 2, 1) := by decide +kernel
theorem d_Page_breakPlace_16 : decode prog_6_method_8_code 16 = .ok (.bipush 30, 2) := by decide +kernel
theorem d_Page_breakPlace_18 : decode prog_6_method_8_code 18 = .ok (.if_icmp .le 9, 3) := by decide +kernel
theorem d_Page_breakPlace_21 : decode prog_6_method_8_code 21 = .ok (.iload_n 1, 1) := by decide +kernel
theorem d_Page_breakPlace_22 : decode prog_6_method_8_code 22 = .ok (.ifCond .lt 5, 3) := by decide +kernel
theorem d_Page_breakPlace_25 : decode prog_6_method_8_code 25 = .ok (.iload_n 1, 1) := by decide +kernel
theorem d_Page_breakPlace_26 : decode prog_6_method_8_code 26 = .ok (.ireturn, 1) := by decide +kernel
theorem d_Page_breakPlace_27 : decode prog_6_method_8_code 27 = .ok (.aload_n 0, 1) := by decide +kernel
theorem d_Page_breakPlace_28 : decode prog_6_method_8_code 28 = .ok (.getfield 14, 3) := by decide +kernel
theorem d_Page_breakPlace_31 : decode prog_6_method_8_code 31 = .ok (.iload_n 2, 1) := by decide +kernel
theorem d_Page_breakPlace_32 : decode prog_6_method_8_code 32 = .ok (.invokevirtual 46, 3) := by decide +kernel
theorem d_Page_breakPlace_35 : decode prog_6_method_8_code 35 = .ok (.bipush 32, 2) := by decide +kernel
theorem d_Page_breakPlace_37 : decode prog_6_method_8_code 37 = .ok (.if_icmp .ne 5, 3) := by decide +kernel
theorem d_Page_breakPlace_40 : decode prog_6_method_8_code 40 = .ok (.iload_n 2, 1) := by decide +kernel
theorem d_Page_breakPlace_41 : decode prog_6_method_8_code 41 = .ok (.istore_n 1, 1) := by decide +kernel
theorem d_Page_breakPlace_42 : decode prog_6_method_8_code 42 = .ok (.iinc 2 1, 3) := by decide +kernel
theorem d_Page_breakPlace_45 : decode prog_6_method_8_code 45 = .ok (.goto (-41), 3) := by decide +kernel
theorem d_Page_breakPlace_48 : decode prog_6_method_8_code 48 = .ok (.iload_n 1, 1) := by decide +kernel
theorem d_Page_breakPlace_49 : decode prog_6_method_8_code 49 = .ok (.ireturn, 1) := by decide +kernel
theorem d_Page_keepLine_0 : decode prog_6_method_9_code 0 = .ok (.aload_n 0, 1) := by decide +kernel
theorem d_Page_keepLine_1 : decode prog_6_method_9_code 1 = .ok (.getfield 22, 3) := by decide +kernel
theorem d_Page_keepLine_4 : decode prog_6_method_9_code 4 = .ok (.bipush 24, 2) := by decide +kernel
theorem d_Page_keepLine_6 : decode prog_6_method_9_code 6 = .ok (.if_icmp .ge 32, 3) := by decide +kernel
theorem d_Page_keepLine_9 : decode prog_6_method_9_code 9 = .ok (.new 7, 3) := by decide +kernel
theorem d_Page_keepLine_12 : decode prog_6_method_9_code 12 = .ok (.dup, 1) := by decide +kernel
theorem d_Page_keepLine_13 : decode prog_6_method_9_code 13 = .ok (.iload_n 1, 1) := by decide +kernel
theorem d_Page_keepLine_14 : decode prog_6_method_9_code 14 = .ok (.invokespecial 11, 3) := by decide +kernel
theorem d_Page_keepLine_17 : decode prog_6_method_9_code 17 = .ok (.astore_n 2, 1) := by decide +kernel
theorem d_Page_keepLine_18 : decode prog_6_method_9_code 18 = .ok (.aload_n 2, 1) := by decide +kernel
theorem d_Page_keepLine_19 : decode prog_6_method_9_code 19 = .ok (.aload_n 0, 1) := by decide +kernel
theorem d_Page_keepLine_20 : decode prog_6_method_9_code 20 = .ok (.getfield 14, 3) := by decide +kernel
theorem d_Page_keepLine_23 : decode prog_6_method_9_code 23 = .ok (.iconst 0, 1) := by decide +kernel
theorem d_Page_keepLine_24 : decode prog_6_method_9_code 24 = .ok (.iload_n 1, 1) := by decide +kernel
theorem d_Page_keepLine_25 : decode prog_6_method_9_code 25 = .ok (.invokevirtual 30, 3) := by decide +kernel
theorem d_Page_keepLine_28 : decode prog_6_method_9_code 28 = .ok (.aload_n 0, 1) := by decide +kernel
theorem d_Page_keepLine_29 : decode prog_6_method_9_code 29 = .ok (.getfield 18, 3) := by decide +kernel
theorem d_Page_keepLine_32 : decode prog_6_method_9_code 32 = .ok (.aload_n 0, 1) := by decide +kernel
theorem d_Page_keepLine_33 : decode prog_6_method_9_code 33 = .ok (.getfield 22, 3) := by decide +kernel
theorem d_Page_keepLine_36 : decode prog_6_method_9_code 36 = .ok (.aload_n 2, 1) := by decide +kernel
theorem d_Page_keepLine_37 : decode prog_6_method_9_code 37 = .ok (.aastore, 1) := by decide +kernel
theorem d_Page_keepLine_38 : decode prog_6_method_9_code 38 = .ok (.aload_n 0, 1) := by decide +kernel
theorem d_Page_keepLine_39 : decode prog_6_method_9_code 39 = .ok (.dup, 1) := by decide +kernel
theorem d_Page_keepLine_40 : decode prog_6_method_9_code 40 = .ok (.getfield 22, 3) := by decide +kernel
theorem d_Page_keepLine_43 : decode prog_6_method_9_code 43 = .ok (.iconst 1, 1) := by decide +kernel
theorem d_Page_keepLine_44 : decode prog_6_method_9_code 44 = .ok (.iadd, 1) := by decide +kernel
theorem d_Page_keepLine_45 : decode prog_6_method_9_code 45 = .ok (.putfield 22, 3) := by decide +kernel
theorem d_Page_keepLine_48 : decode prog_6_method_9_code 48 = .ok (.return_, 1) := by decide +kernel
theorem d_Page_endLine_0 : decode prog_6_method_7_code 0 = .ok (.aload_n 0, 1) := by decide +kernel
theorem d_Page_endLine_1 : decode prog_6_method_7_code 1 = .ok (.getfield 14, 3) := by decide +kernel
theorem d_Page_endLine_4 : decode prog_6_method_7_code 4 = .ok (.invokevirtual 26, 3) := by decide +kernel
theorem d_Page_endLine_7 : decode prog_6_method_7_code 7 = .ok (.ifCond .le 21, 3) := by decide +kernel
theorem d_Page_endLine_10 : decode prog_6_method_7_code 10 = .ok (.aload_n 0, 1) := by decide +kernel
theorem d_Page_endLine_11 : decode prog_6_method_7_code 11 = .ok (.aload_n 0, 1) := by decide +kernel
theorem d_Page_endLine_12 : decode prog_6_method_7_code 12 = .ok (.getfield 14, 3) := by decide +kernel
theorem d_Page_endLine_15 : decode prog_6_method_7_code 15 = .ok (.invokevirtual 26, 3) := by decide +kernel
theorem d_Page_endLine_18 : decode prog_6_method_7_code 18 = .ok (.invokevirtual 37, 3) := by decide +kernel
theorem d_Page_endLine_21 : decode prog_6_method_7_code 21 = .ok (.aload_n 0, 1) := by decide +kernel
theorem d_Page_endLine_22 : decode prog_6_method_7_code 22 = .ok (.getfield 14, 3) := by decide +kernel
theorem d_Page_endLine_25 : decode prog_6_method_7_code 25 = .ok (.invokevirtual 43, 3) := by decide +kernel
theorem d_Page_endLine_28 : decode prog_6_method_7_code 28 = .ok (.return_, 1) := by decide +kernel
theorem d_Page_isKept_0 : decode prog_6_method_4_code 0 = .ok (.iload_n 1, 1) := by decide +kernel
theorem d_Page_isKept_1 : decode prog_6_method_4_code 1 = .ok (.ifCond .lt 21, 3) := by decide +kernel
theorem d_Page_isKept_4 : decode prog_6_method_4_code 4 = .ok (.iload_n 1, 1) := by decide +kernel
theorem d_Page_isKept_5 : decode prog_6_method_4_code 5 = .ok (.aload_n 0, 1) := by decide +kernel
theorem d_Page_isKept_6 : decode prog_6_method_4_code 6 = .ok (.getfield 22, 3) := by decide +kernel
theorem d_Page_isKept_9 : decode prog_6_method_4_code 9 = .ok (.if_icmp .ge 13, 3) := by decide +kernel
theorem d_Page_isKept_12 : decode prog_6_method_4_code 12 = .ok (.iload_n 1, 1) := by decide +kernel
theorem d_Page_isKept_13 : decode prog_6_method_4_code 13 = .ok (.bipush 24, 2) := by decide +kernel
theorem d_Page_isKept_15 : decode prog_6_method_4_code 15 = .ok (.if_icmp .ge 7, 3) := by decide +kernel
theorem d_Page_isKept_18 : decode prog_6_method_4_code 18 = .ok (.iconst 1, 1) := by decide +kernel
theorem d_Page_isKept_19 : decode prog_6_method_4_code 19 = .ok (.goto 4, 3) := by decide +kernel
theorem d_Page_isKept_22 : decode prog_6_method_4_code 22 = .ok (.iconst 0, 1) := by decide +kernel
theorem d_Page_isKept_23 : decode prog_6_method_4_code 23 = .ok (.ireturn, 1) := by decide +kernel
theorem d_Page_keptLine_0 : decode prog_6_method_5_code 0 = .ok (.aload_n 0, 1) := by decide +kernel
theorem d_Page_keptLine_1 : decode prog_6_method_5_code 1 = .ok (.getfield 18, 3) := by decide +kernel
theorem d_Page_keptLine_4 : decode prog_6_method_5_code 4 = .ok (.iload_n 1, 1) := by decide +kernel
theorem d_Page_keptLine_5 : decode prog_6_method_5_code 5 = .ok (.aaload, 1) := by decide +kernel
theorem d_Page_keptLine_6 : decode prog_6_method_5_code 6 = .ok (.areturn, 1) := by decide +kernel
theorem d_Page_lineCount_0 : decode prog_6_method_2_code 0 = .ok (.aload_n 0, 1) := by decide +kernel
theorem d_Page_lineCount_1 : decode prog_6_method_2_code 1 = .ok (.getfield 22, 3) := by decide +kernel
theorem d_Page_lineCount_4 : decode prog_6_method_2_code 4 = .ok (.ireturn, 1) := by decide +kernel
theorem d_Page_lengthAtHand_0 : decode prog_6_method_3_code 0 = .ok (.aload_n 0, 1) := by decide +kernel
theorem d_Page_lengthAtHand_1 : decode prog_6_method_3_code 1 = .ok (.getfield 14, 3) := by decide +kernel
theorem d_Page_lengthAtHand_4 : decode prog_6_method_3_code 4 = .ok (.invokevirtual 26, 3) := by decide +kernel
theorem d_Page_lengthAtHand_7 : decode prog_6_method_3_code 7 = .ok (.ireturn, 1) := by decide +kernel
theorem d_Machine_init_0 : decode prog_5_method_1_code 0 = .ok (.aload_n 0, 1) := by decide +kernel
theorem d_Machine_init_1 : decode prog_5_method_1_code 1 = .ok (.invokespecial 3, 3) := by decide +kernel
theorem d_Machine_init_4 : decode prog_5_method_1_code 4 = .ok (.aload_n 0, 1) := by decide +kernel
theorem d_Machine_init_5 : decode prog_5_method_1_code 5 = .ok (.aload_n 1, 1) := by decide +kernel
theorem d_Machine_init_6 : decode prog_5_method_1_code 6 = .ok (.putfield 9, 3) := by decide +kernel
theorem d_Machine_init_9 : decode prog_5_method_1_code 9 = .ok (.aload_n 0, 1) := by decide +kernel
theorem d_Machine_init_10 : decode prog_5_method_1_code 10 = .ok (.aload_n 2, 1) := by decide +kernel
theorem d_Machine_init_11 : decode prog_5_method_1_code 11 = .ok (.putfield 15, 3) := by decide +kernel
theorem d_Machine_init_14 : decode prog_5_method_1_code 14 = .ok (.aload_n 0, 1) := by decide +kernel
theorem d_Machine_init_15 : decode prog_5_method_1_code 15 = .ok (.aload_n 3, 1) := by decide +kernel
theorem d_Machine_init_16 : decode prog_5_method_1_code 16 = .ok (.putfield 19, 3) := by decide +kernel
theorem d_Machine_init_19 : decode prog_5_method_1_code 19 = .ok (.aload_n 0, 1) := by decide +kernel
theorem d_Machine_init_20 : decode prog_5_method_1_code 20 = .ok (.aload 4, 2) := by decide +kernel
theorem d_Machine_init_22 : decode prog_5_method_1_code 22 = .ok (.putfield 23, 3) := by decide +kernel
theorem d_Machine_init_25 : decode prog_5_method_1_code 25 = .ok (.aload_n 0, 1) := by decide +kernel
theorem d_Machine_init_26 : decode prog_5_method_1_code 26 = .ok (.aload 5, 2) := by decide +kernel
theorem d_Machine_init_28 : decode prog_5_method_1_code 28 = .ok (.putfield 27, 3) := by decide +kernel
theorem d_Machine_init_31 : decode prog_5_method_1_code 31 = .ok (.aload_n 0, 1) := by decide +kernel
theorem d_Machine_init_32 : decode prog_5_method_1_code 32 = .ok (.new 31, 3) := by decide +kernel
theorem d_Machine_init_35 : decode prog_5_method_1_code 35 = .ok (.dup, 1) := by decide +kernel
theorem d_Machine_init_36 : decode prog_5_method_1_code 36 = .ok (.invokespecial 33, 3) := by decide +kernel
theorem d_Machine_init_39 : decode prog_5_method_1_code 39 = .ok (.putfield 34, 3) := by decide +kernel
theorem d_Machine_init_42 : decode prog_5_method_1_code 42 = .ok (.aload_n 0, 1) := by decide +kernel
theorem d_Machine_init_43 : decode prog_5_method_1_code 43 = .ok (.sipush 144, 3) := by decide +kernel
theorem d_Machine_init_46 : decode prog_5_method_1_code 46 = .ok (.newarray .int, 2) := by decide +kernel
theorem d_Machine_init_48 : decode prog_5_method_1_code 48 = .ok (.putfield 38, 3) := by decide +kernel
theorem d_Machine_init_51 : decode prog_5_method_1_code 51 = .ok (.aload_n 0, 1) := by decide +kernel
theorem d_Machine_init_52 : decode prog_5_method_1_code 52 = .ok (.sipush 144, 3) := by decide +kernel
theorem d_Machine_init_55 : decode prog_5_method_1_code 55 = .ok (.newarray .long, 2) := by decide +kernel
theorem d_Machine_init_57 : decode prog_5_method_1_code 57 = .ok (.putfield 41, 3) := by decide +kernel
theorem d_Machine_init_60 : decode prog_5_method_1_code 60 = .ok (.aload_n 0, 1) := by decide +kernel
theorem d_Machine_init_61 : decode prog_5_method_1_code 61 = .ok (.bipush 6, 2) := by decide +kernel
theorem d_Machine_init_63 : decode prog_5_method_1_code 63 = .ok (.newarray .int, 2) := by decide +kernel
theorem d_Machine_init_65 : decode prog_5_method_1_code 65 = .ok (.putfield 45, 3) := by decide +kernel
theorem d_Machine_init_68 : decode prog_5_method_1_code 68 = .ok (.aload_n 0, 1) := by decide +kernel
theorem d_Machine_init_69 : decode prog_5_method_1_code 69 = .ok (.iconst 4, 1) := by decide +kernel
theorem d_Machine_init_70 : decode prog_5_method_1_code 70 = .ok (.newarray .int, 2) := by decide +kernel
theorem d_Machine_init_72 : decode prog_5_method_1_code 72 = .ok (.putfield 48, 3) := by decide +kernel
theorem d_Machine_init_75 : decode prog_5_method_1_code 75 = .ok (.aload_n 0, 1) := by decide +kernel
theorem d_Machine_init_76 : decode prog_5_method_1_code 76 = .ok (.new 51, 3) := by decide +kernel
theorem d_Machine_init_79 : decode prog_5_method_1_code 79 = .ok (.dup, 1) := by decide +kernel
theorem d_Machine_init_80 : decode prog_5_method_1_code 80 = .ok (.bipush 60, 2) := by decide +kernel
theorem d_Machine_init_82 : decode prog_5_method_1_code 82 = .ok (.invokespecial 53, 3) := by decide +kernel
theorem d_Machine_init_85 : decode prog_5_method_1_code 85 = .ok (.putfield 56, 3) := by decide +kernel
theorem d_Machine_init_88 : decode prog_5_method_1_code 88 = .ok (.aload_n 0, 1) := by decide +kernel
theorem d_Machine_init_89 : decode prog_5_method_1_code 89 = .ok (.new 51, 3) := by decide +kernel
theorem d_Machine_init_92 : decode prog_5_method_1_code 92 = .ok (.dup, 1) := by decide +kernel
theorem d_Machine_init_93 : decode prog_5_method_1_code 93 = .ok (.bipush 60, 2) := by decide +kernel
theorem d_Machine_init_95 : decode prog_5_method_1_code 95 = .ok (.invokespecial 53, 3) := by decide +kernel
theorem d_Machine_init_98 : decode prog_5_method_1_code 98 = .ok (.putfield 60, 3) := by decide +kernel
theorem d_Machine_init_101 : decode prog_5_method_1_code 101 = .ok (.aload_n 0, 1) := by decide +kernel
theorem d_Machine_init_102 : decode prog_5_method_1_code 102 = .ok (.new 51, 3) := by decide +kernel
theorem d_Machine_init_105 : decode prog_5_method_1_code 105 = .ok (.dup, 1) := by decide +kernel
theorem d_Machine_init_106 : decode prog_5_method_1_code 106 = .ok (.bipush 60, 2) := by decide +kernel
theorem d_Machine_init_108 : decode prog_5_method_1_code 108 = .ok (.invokespecial 53, 3) := by decide +kernel
theorem d_Machine_init_111 : decode prog_5_method_1_code 111 = .ok (.putfield 63, 3) := by decide +kernel
theorem d_Machine_init_114 : decode prog_5_method_1_code 114 = .ok (.aload_n 0, 1) := by decide +kernel
theorem d_Machine_init_115 : decode prog_5_method_1_code 115 = .ok (.new 66, 3) := by decide +kernel
theorem d_Machine_init_118 : decode prog_5_method_1_code 118 = .ok (.dup, 1) := by decide +kernel
theorem d_Machine_init_119 : decode prog_5_method_1_code 119 = .ok (.invokespecial 68, 3) := by decide +kernel
theorem d_Machine_init_122 : decode prog_5_method_1_code 122 = .ok (.putfield 69, 3) := by decide +kernel
theorem d_Machine_init_125 : decode prog_5_method_1_code 125 = .ok (.aload_n 0, 1) := by decide +kernel
theorem d_Machine_init_126 : decode prog_5_method_1_code 126 = .ok (.new 66, 3) := by decide +kernel
theorem d_Machine_init_129 : decode prog_5_method_1_code 129 = .ok (.dup, 1) := by decide +kernel
theorem d_Machine_init_130 : decode prog_5_method_1_code 130 = .ok (.invokespecial 68, 3) := by decide +kernel
theorem d_Machine_init_133 : decode prog_5_method_1_code 133 = .ok (.putfield 73, 3) := by decide +kernel
theorem d_Machine_init_136 : decode prog_5_method_1_code 136 = .ok (.return_, 1) := by decide +kernel
theorem d_Machine_isFunction_0 : decode prog_5_method_2_code 0 = .ok (.iload_n 0, 1) := by decide +kernel
theorem d_Machine_isFunction_1 : decode prog_5_method_2_code 1 = .ok (.ifCond .lt 13, 3) := by decide +kernel
theorem d_Machine_isFunction_4 : decode prog_5_method_2_code 4 = .ok (.iload_n 0, 1) := by decide +kernel
theorem d_Machine_isFunction_5 : decode prog_5_method_2_code 5 = .ok (.bipush 6, 2) := by decide +kernel
theorem d_Machine_isFunction_7 : decode prog_5_method_2_code 7 = .ok (.if_icmp .ge 7, 3) := by decide +kernel
theorem d_Machine_isFunction_10 : decode prog_5_method_2_code 10 = .ok (.iconst 1, 1) := by decide +kernel
theorem d_Machine_isFunction_11 : decode prog_5_method_2_code 11 = .ok (.goto 4, 3) := by decide +kernel
theorem d_Machine_isFunction_14 : decode prog_5_method_2_code 14 = .ok (.iconst 0, 1) := by decide +kernel
theorem d_Machine_isFunction_15 : decode prog_5_method_2_code 15 = .ok (.ireturn, 1) := by decide +kernel
theorem d_Machine_isOperation_0 : decode prog_5_method_3_code 0 = .ok (.iload_n 0, 1) := by decide +kernel
theorem d_Machine_isOperation_1 : decode prog_5_method_3_code 1 = .ok (.ifCond .lt 13, 3) := by decide +kernel
theorem d_Machine_isOperation_4 : decode prog_5_method_3_code 4 = .ok (.iload_n 0, 1) := by decide +kernel
theorem d_Machine_isOperation_5 : decode prog_5_method_3_code 5 = .ok (.bipush 30, 2) := by decide +kernel
theorem d_Machine_isOperation_7 : decode prog_5_method_3_code 7 = .ok (.if_icmp .ge 7, 3) := by decide +kernel
theorem d_Machine_isOperation_10 : decode prog_5_method_3_code 10 = .ok (.iconst 1, 1) := by decide +kernel
theorem d_Machine_isOperation_11 : decode prog_5_method_3_code 11 = .ok (.goto 4, 3) := by decide +kernel
theorem d_Machine_isOperation_14 : decode prog_5_method_3_code 14 = .ok (.iconst 0, 1) := by decide +kernel
theorem d_Machine_isOperation_15 : decode prog_5_method_3_code 15 = .ok (.ireturn, 1) := by decide +kernel
theorem d_Machine_isFull_0 : decode prog_5_method_4_code 0 = .ok (.aload_n 0, 1) := by decide +kernel
theorem d_Machine_isFull_1 : decode prog_5_method_4_code 1 = .ok (.getfield 45, 3) := by decide +kernel
theorem d_Machine_isFull_4 : decode prog_5_method_4_code 4 = .ok (.iload_n 1, 1) := by decide +kernel
theorem d_Machine_isFull_5 : decode prog_5_method_4_code 5 = .ok (.iaload, 1) := by decide +kernel
theorem d_Machine_isFull_6 : decode prog_5_method_4_code 6 = .ok (.bipush 24, 2) := by decide +kernel
theorem d_Machine_isFull_8 : decode prog_5_method_4_code 8 = .ok (.if_icmp .lt 7, 3) := by decide +kernel
theorem d_Machine_isFull_11 : decode prog_5_method_4_code 11 = .ok (.iconst 1, 1) := by decide +kernel
theorem d_Machine_isFull_12 : decode prog_5_method_4_code 12 = .ok (.goto 4, 3) := by decide +kernel
theorem d_Machine_isFull_15 : decode prog_5_method_4_code 15 = .ok (.iconst 0, 1) := by decide +kernel
theorem d_Machine_isFull_16 : decode prog_5_method_4_code 16 = .ok (.ireturn, 1) := by decide +kernel
theorem d_Machine_addOperation_0 : decode prog_5_method_5_code 0 = .ok (.iload_n 1, 1) := by decide +kernel
theorem d_Machine_addOperation_1 : decode prog_5_method_5_code 1 = .ok (.bipush 24, 2) := by decide +kernel
