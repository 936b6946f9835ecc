/-! decode rows, printed by a program -/
theorem d_Value_setToNumber_7 : decode prog_12_method_2_code 7 = .ok (.putfield 24, 3) := by decide +kernel
theorem d_Value_setToNumber_10 : decode prog_12_method_2_code 10 = .ok (.aload_n 0, 1) := by decide +kernel
theorem d_Value_setToNumber_11 : decode prog_12_method_2_code 11 = .ok (.getfield 14, 3) := by decide +kernel
theorem d_Value_setToNumber_14 : decode prog_12_method_2_code 14 = .ok (.invokevirtual 27, 3) := by decide +kernel
theorem d_Value_setToNumber_17 : decode prog_12_method_2_code 17 = .ok (.return_, 1) := by decide +kernel
theorem d_Value_setToMissing_0 : decode prog_12_method_4_code 0 = .ok (.aload_n 0, 1) := by decide +kernel
theorem d_Value_setToMissing_1 : decode prog_12_method_4_code 1 = .ok (.iconst 2, 1) := by decide +kernel
theorem d_Value_setToMissing_2 : decode prog_12_method_4_code 2 = .ok (.putfield 20, 3) := by decide +kernel
theorem d_Value_setToMissing_5 : decode prog_12_method_4_code 5 = .ok (.aload_n 0, 1) := by decide +kernel
theorem d_Value_setToMissing_6 : decode prog_12_method_4_code 6 = .ok (.iconst 0, 1) := by decide +kernel
theorem d_Value_setToMissing_7 : decode prog_12_method_4_code 7 = .ok (.putfield 24, 3) := by decide +kernel
theorem d_Value_setToMissing_10 : decode prog_12_method_4_code 10 = .ok (.aload_n 0, 1) := by decide +kernel
theorem d_Value_setToMissing_11 : decode prog_12_method_4_code 11 = .ok (.getfield 14, 3) := by decide +kernel
theorem d_Value_setToMissing_14 : decode prog_12_method_4_code 14 = .ok (.invokevirtual 27, 3) := by decide +kernel
theorem d_Value_setToMissing_17 : decode prog_12_method_4_code 17 = .ok (.return_, 1) := by decide +kernel
theorem d_Value_setToText_0 : decode prog_12_method_3_code 0 = .ok (.aload_n 0, 1) := by decide +kernel
theorem d_Value_setToText_1 : decode prog_12_method_3_code 1 = .ok (.iconst 1, 1) := by decide +kernel
theorem d_Value_setToText_2 : decode prog_12_method_3_code 2 = .ok (.putfield 20, 3) := by decide +kernel
theorem d_Value_setToText_5 : decode prog_12_method_3_code 5 = .ok (.aload_n 0, 1) := by decide +kernel
theorem d_Value_setToText_6 : decode prog_12_method_3_code 6 = .ok (.iconst 0, 1) := by decide +kernel
theorem d_Value_setToText_7 : decode prog_12_method_3_code 7 = .ok (.putfield 24, 3) := by decide +kernel
theorem d_Value_setToText_10 : decode prog_12_method_3_code 10 = .ok (.aload_n 0, 1) := by decide +kernel
theorem d_Value_setToText_11 : decode prog_12_method_3_code 11 = .ok (.getfield 14, 3) := by decide +kernel
theorem d_Value_setToText_14 : decode prog_12_method_3_code 14 = .ok (.aload_n 1, 1) := by decide +kernel
theorem d_Value_setToText_15 : decode prog_12_method_3_code 15 = .ok (.invokevirtual 30, 3) := by decide +kernel
theorem d_Value_setToText_18 : decode prog_12_method_3_code 18 = .ok (.return_, 1) := by decide +kernel
theorem d_Value_setTo_0 : decode prog_12_method_5_code 0 = .ok (.aload_n 0, 1) := by decide +kernel
theorem d_Value_setTo_1 : decode prog_12_method_5_code 1 = .ok (.aload_n 1, 1) := by decide +kernel
theorem d_Value_setTo_2 : decode prog_12_method_5_code 2 = .ok (.getfield 20, 3) := by decide +kernel
theorem d_Value_setTo_5 : decode prog_12_method_5_code 5 = .ok (.putfield 20, 3) := by decide +kernel
theorem d_Value_setTo_8 : decode prog_12_method_5_code 8 = .ok (.aload_n 0, 1) := by decide +kernel
theorem d_Value_setTo_9 : decode prog_12_method_5_code 9 = .ok (.aload_n 1, 1) := by decide +kernel
theorem d_Value_setTo_10 : decode prog_12_method_5_code 10 = .ok (.getfield 24, 3) := by decide +kernel
theorem d_Value_setTo_13 : decode prog_12_method_5_code 13 = .ok (.putfield 24, 3) := by decide +kernel
theorem d_Value_setTo_16 : decode prog_12_method_5_code 16 = .ok (.aload_n 0, 1) := by decide +kernel
theorem d_Value_setTo_17 : decode prog_12_method_5_code 17 = .ok (.getfield 14, 3) := by decide +kernel
theorem d_Value_setTo_20 : decode prog_12_method_5_code 20 = .ok (.aload_n 1, 1) := by decide +kernel
theorem d_Value_setTo_21 : decode prog_12_method_5_code 21 = .ok (.getfield 14, 3) := by decide +kernel
theorem d_Value_setTo_24 : decode prog_12_method_5_code 24 = .ok (.invokevirtual 30, 3) := by decide +kernel
theorem d_Value_setTo_27 : decode prog_12_method_5_code 27 = .ok (.return_, 1) := by decide +kernel
theorem d_Value_sameAs_0 : decode prog_12_method_7_code 0 = .ok (.aload_n 0, 1) := by decide +kernel
theorem d_Value_sameAs_1 : decode prog_12_method_7_code 1 = .ok (.invokevirtual 34, 3) := by decide +kernel
theorem d_Value_sameAs_4 : decode prog_12_method_7_code 4 = .ok (.ifCond .ne 10, 3) := by decide +kernel
theorem d_Value_sameAs_7 : decode prog_12_method_7_code 7 = .ok (.aload_n 1, 1) := by decide +kernel
theorem d_Value_sameAs_8 : decode prog_12_method_7_code 8 = .ok (.invokevirtual 34, 3) := by decide +kernel
theorem d_Value_sameAs_11 : decode prog_12_method_7_code 11 = .ok (.ifCond .eq 31, 3) := by decide +kernel
theorem d_Value_sameAs_14 : decode prog_12_method_7_code 14 = .ok (.aload_n 0, 1) := by decide +kernel
theorem d_Value_sameAs_15 : decode prog_12_method_7_code 15 = .ok (.getfield 20, 3) := by decide +kernel
theorem d_Value_sameAs_18 : decode prog_12_method_7_code 18 = .ok (.aload_n 1, 1) := by decide +kernel
theorem d_Value_sameAs_19 : decode prog_12_method_7_code 19 = .ok (.getfield 20, 3) := by decide +kernel
theorem d_Value_sameAs_22 : decode prog_12_method_7_code 22 = .ok (.if_icmp .ne 18, 3) := by decide +kernel
theorem d_Value_sameAs_25 : decode prog_12_method_7_code 25 = .ok (.aload_n 0, 1) := by decide +kernel
theorem d_Value_sameAs_26 : decode prog_12_method_7_code 26 = .ok (.getfield 24, 3) := by decide +kernel
theorem d_Value_sameAs_29 : decode prog_12_method_7_code 29 = .ok (.aload_n 1, 1) := by decide +kernel
theorem d_Value_sameAs_30 : decode prog_12_method_7_code 30 = .ok (.getfield 24, 3) := by decide +kernel
theorem d_Value_sameAs_33 : decode prog_12_method_7_code 33 = .ok (.if_icmp .ne 7, 3) := by decide +kernel
theorem d_Value_sameAs_36 : decode prog_12_method_7_code 36 = .ok (.iconst 1, 1) := by decide +kernel
theorem d_Value_sameAs_37 : decode prog_12_method_7_code 37 = .ok (.goto 4, 3) := by decide +kernel
theorem d_Value_sameAs_40 : decode prog_12_method_7_code 40 = .ok (.iconst 0, 1) := by decide +kernel
theorem d_Value_sameAs_41 : decode prog_12_method_7_code 41 = .ok (.ireturn, 1) := by decide +kernel
theorem d_Value_sameAs_42 : decode prog_12_method_7_code 42 = .ok (.aload_n 0, 1) := by decide +kernel
theorem d_Value_sameAs_43 : decode prog_12_method_7_code 43 = .ok (.getfield 14, 3) := by decide +kernel
theorem d_Value_sameAs_46 : decode prog_12_method_7_code 46 = .ok (.aload_n 1, 1) := by decide +kernel
theorem d_Value_sameAs_47 : decode prog_12_method_7_code 47 = .ok (.getfield 14, 3) := by decide +kernel
theorem d_Value_sameAs_50 : decode prog_12_method_7_code 50 = .ok (.invokevirtual 38, 3) := by decide +kernel
theorem d_Value_sameAs_53 : decode prog_12_method_7_code 53 = .ok (.ifCond .ne 7, 3) := by decide +kernel
theorem d_Value_sameAs_56 : decode prog_12_method_7_code 56 = .ok (.iconst 1, 1) := by decide +kernel
theorem d_Value_sameAs_57 : decode prog_12_method_7_code 57 = .ok (.goto 4, 3) := by decide +kernel
theorem d_Value_sameAs_60 : decode prog_12_method_7_code 60 = .ok (.iconst 0, 1) := by decide +kernel
theorem d_Value_sameAs_61 : decode prog_12_method_7_code 61 = .ok (.ireturn, 1) := by decide +kernel
theorem d_Value_isNumber_0 : decode prog_12_method_6_code 0 = .ok (.aload_n 0, 1) := by decide +kernel
theorem d_Value_isNumber_1 : decode prog_12_method_6_code 1 = .ok (.getfield 20, 3) := by decide +kernel
theorem d_Value_isNumber_4 : decode prog_12_method_6_code 4 = .ok (.ifCond .ne 7, 3) := by decide +kernel
theorem d_Value_isNumber_7 : decode prog_12_method_6_code 7 = .ok (.iconst 1, 1) := by decide +kernel
theorem d_Value_isNumber_8 : decode prog_12_method_6_code 8 = .ok (.goto 4, 3) := by decide +kernel
theorem d_Value_isNumber_11 : decode prog_12_method_6_code 11 = .ok (.iconst 0, 1) := by decide +kernel
theorem d_Value_isNumber_12 : decode prog_12_method_6_code 12 = .ok (.ireturn, 1) := by decide +kernel
theorem d_Value_isNothing_0 : decode prog_12_method_8_code 0 = .ok (.aload_n 0, 1) := by decide +kernel
theorem d_Value_isNothing_1 : decode prog_12_method_8_code 1 = .ok (.invokevirtual 34, 3) := by decide +kernel
theorem d_Value_isNothing_4 : decode prog_12_method_8_code 4 = .ok (.ifCond .ne 17, 3) := by decide +kernel
theorem d_Value_isNothing_7 : decode prog_12_method_8_code 7 = .ok (.aload_n 0, 1) := by decide +kernel
theorem d_Value_isNothing_8 : decode prog_12_method_8_code 8 = .ok (.getfield 14, 3) := by decide +kernel
theorem d_Value_isNothing_11 : decode prog_12_method_8_code 11 = .ok (.invokevirtual 42, 3) := by decide +kernel
theorem d_Value_isNothing_14 : decode prog_12_method_8_code 14 = .ok (.ifCond .eq 7, 3) := by decide +kernel
theorem d_Value_isNothing_17 : decode prog_12_method_8_code 17 = .ok (.iconst 1, 1) := by decide +kernel
theorem d_Value_isNothing_18 : decode prog_12_method_8_code 18 = .ok (.goto 4, 3) := by decide +kernel
theorem d_Value_isNothing_21 : decode prog_12_method_8_code 21 = .ok (.iconst 0, 1) := by decide +kernel
theorem d_Value_isNothing_22 : decode prog_12_method_8_code 22 = .ok (.ireturn, 1) := by decide +kernel
theorem d_Entry_init_0 : decode prog_4_method_1_code 0 = .ok (.aload_n 0, 1) := by decide +kernel
theorem d_Entry_init_1 : decode prog_4_method_1_code 1 = .ok (.invokespecial 3, 3) := by decide +kernel
theorem d_Entry_init_4 : decode prog_4_method_1_code 4 = .ok (.aload_n 0, 1) := by decide +kernel
theorem d_Entry_init_5 : decode prog_4_method_1_code 5 = .ok (.bipush 6, 2) := by decide +kernel
theorem d_Entry_init_7 : decode prog_4_method_1_code 7 = .ok (.newarray .long, 2) := by decide +kernel
theorem d_Entry_init_9 : decode prog_4_method_1_code 9 = .ok (.putfield 11, 3) := by decide +kernel
theorem d_Entry_init_12 : decode prog_4_method_1_code 12 = .ok (.aload_n 0, 1) := by decide +kernel
theorem d_Entry_init_13 : decode prog_4_method_1_code 13 = .ok (.bipush 6, 2) := by decide +kernel
theorem d_Entry_init_15 : decode prog_4_method_1_code 15 = .ok (.anewarray 15, 3) := by decide +kernel
theorem d_Entry_init_18 : decode prog_4_method_1_code 18 = .ok (.putfield 17, 3) := by decide +kernel
theorem d_Entry_init_21 : decode prog_4_method_1_code 21 = .ok (.iconst 0, 1) := by decide +kernel
theorem d_Entry_init_22 : decode prog_4_method_1_code 22 = .ok (.istore_n 1, 1) := by decide +kernel
theorem d_Entry_init_23 : decode prog_4_method_1_code 23 = .ok (.iload_n 1, 1) := by decide +kernel
theorem d_Entry_init_24 : decode prog_4_method_1_code 24 = .ok (.bipush 6, 2) := by decide +kernel
theorem d_Entry_init_26 : decode prog_4_method_1_code 26 = .ok (.if_icmp .ge 24, 3) := by decide +kernel
theorem d_Entry_init_29 : decode prog_4_method_1_code 29 = .ok (.aload_n 0, 1) := by decide +kernel
theorem d_Entry_init_30 : decode prog_4_method_1_code 30 = .ok (.getfield 17, 3) := by decide +kernel
theorem d_Entry_init_33 : decode prog_4_method_1_code 33 = .ok (.iload_n 1, 1) := by decide +kernel
theorem d_Entry_init_34 : decode prog_4_method_1_code 34 = .ok (.new 15, 3) := by decide +kernel
theorem d_Entry_init_37 : decode prog_4_method_1_code 37 = .ok (.dup, 1) := by decide +kernel
theorem d_Entry_init_38 : decode prog_4_method_1_code 38 = .ok (.bipush 60, 2) := by decide +kernel
theorem d_Entry_init_40 : decode prog_4_method_1_code 40 = .ok (.invokespecial 21, 3) := by decide +kernel
theorem d_Entry_init_43 : decode prog_4_method_1_code 43 = .ok (.aastore, 1) := by decide +kernel
theorem d_Entry_init_44 : decode prog_4_method_1_code 44 = .ok (.iinc 1 1, 3) := by decide +kernel
theorem d_Entry_init_47 : decode prog_4_method_1_code 47 = .ok (.goto (-24), 3) := by decide +kernel
theorem d_Entry_init_50 : decode prog_4_method_1_code 50 = .ok (.aload_n 0, 1) := by decide +kernel
theorem d_Entry_init_51 : decode prog_4_method_1_code 51 = .ok (.new 15, 3) := by decide +kernel
theorem d_Entry_init_54 : decode prog_4_method_1_code 54 = .ok (.dup, 1) := by decide +kernel
theorem d_Entry_init_55 : decode prog_4_method_1_code 55 = .ok (.bipush 60, 2) := by decide +kernel
theorem d_Entry_init_57 : decode prog_4_method_1_code 57 = .ok (.invokespecial 21, 3) := by decide +kernel
theorem d_Entry_init_60 : decode prog_4_method_1_code 60 = .ok (.putfield 24, 3) := by decide +kernel
theorem d_Entry_init_63 : decode prog_4_method_1_code 63 = .ok (.return_, 1) := by decide +kernel
theorem d_Entry_begin_0 : decode prog_4_method_2_code 0 = .ok (.aload_n 0, 1) := by decide +kernel
theorem d_Entry_begin_1 : decode prog_4_method_2_code 1 = .ok (.lload_n 1, 1) := by decide +kernel
theorem d_Entry_begin_2 : decode prog_4_method_2_code 2 = .ok (.putfield 28, 3) := by decide +kernel
theorem d_Entry_begin_5 : decode prog_4_method_2_code 5 = .ok (.aload_n 0, 1) := by decide +kernel
theorem d_Entry_begin_6 : decode prog_4_method_2_code 6 = .ok (.lload_n 3, 1) := by decide +kernel
theorem d_Entry_begin_7 : decode prog_4_method_2_code 7 = .ok (.putfield 32, 3) := by decide +kernel
theorem d_Entry_begin_10 : decode prog_4_method_2_code 10 = .ok (.aload_n 0, 1) := by decide +kernel
theorem d_Entry_begin_11 : decode prog_4_method_2_code 11 = .ok (.lconst 0, 1) := by decide +kernel
theorem d_Entry_begin_12 : decode prog_4_method_2_code 12 = .ok (.putfield 35, 3) := by decide +kernel
theorem d_Entry_begin_15 : decode prog_4_method_2_code 15 = .ok (.aload_n 0, 1) := by decide +kernel
theorem d_Entry_begin_16 : decode prog_4_method_2_code 16 = .ok (.iconst 0, 1) := by decide +kernel
theorem d_Entry_begin_17 : decode prog_4_method_2_code 17 = .ok (.putfield 38, 3) := by decide +kernel
theorem d_Entry_begin_20 : decode prog_4_method_2_code 20 = .ok (.aload_n 0, 1) := by decide +kernel
theorem d_Entry_begin_21 : decode prog_4_method_2_code 21 = .ok (.getfield 24, 3) := by decide +kernel
theorem d_Entry_begin_24 : decode prog_4_method_2_code 24 = .ok (.invokevirtual 42, 3) := by decide +kernel
theorem d_Entry_begin_27 : decode prog_4_method_2_code 27 = .ok (.return_, 1) := by decide +kernel
theorem d_Entry_addField_0 : decode prog_4_method_3_code 0 = .ok (.aload_n 0, 1) := by decide +kernel
theorem d_Entry_addField_1 : decode prog_4_method_3_code 1 = .ok (.getfield 38, 3) := by decide +kernel
theorem d_Entry_addField_4 : decode prog_4_method_3_code 4 = .ok (.bipush 6, 2) := by decide +kernel
theorem d_Entry_addField_6 : decode prog_4_method_3_code 6 = .ok (.if_icmp .ge 11, 3) := by decide +kernel
theorem d_Entry_addField_9 : decode prog_4_method_3_code 9 = .ok (.aload_n 0, 1) := by decide +kernel
theorem d_Entry_addField_10 : decode prog_4_method_3_code 10 = .ok (.lload_n 1, 1) := by decide +kernel
theorem d_Entry_addField_11 : decode prog_4_method_3_code 11 = .ok (.invokevirtual 45, 3) := by decide +kernel
theorem d_Entry_addField_14 : decode prog_4_method_3_code 14 = .ok (.ifnull 4, 3) := by decide +kernel
theorem d_Entry_addField_17 : decode prog_4_method_3_code 17 = .ok (.return_, 1) := by decide +kernel
theorem d_Entry_addField_18 : decode prog_4_method_3_code 18 = .ok (.aload_n 0, 1) := by decide +kernel
theorem d_Entry_addField_19 : decode prog_4_method_3_code 19 = .ok (.getfield 11, 3) := by decide +kernel
theorem d_Entry_addField_22 : decode prog_4_method_3_code 22 = .ok (.aload_n 0, 1) := by decide +kernel
theorem d_Entry_addField_23 : decode prog_4_method_3_code 23 = .ok (.getfield 38, 3) := by decide +kernel
theorem d_Entry_addField_26 : decode prog_4_method_3_code 26 = .ok (.lload_n 1, 1) := by decide +kernel
theorem d_Entry_addField_27 : decode prog_4_method_3_code 27 = .ok (.lastore, 1) := by decide +kernel
theorem d_Entry_addField_28 : decode prog_4_method_3_code 28 = .ok (.aload_n 0, 1) := by decide +kernel
theorem d_Entry_addField_29 : decode prog_4_method_3_code 29 = .ok (.getfield 17, 3) := by decide +kernel
theorem d_Entry_addField_32 : decode prog_4_method_3_code 32 = .ok (.aload_n 0, 1) := by decide +kernel
theorem d_Entry_addField_33 : decode prog_4_method_3_code 33 = .ok (.getfield 38, 3) := by decide +kernel
theorem d_Entry_addField_36 : decode prog_4_method_3_code 36 = .ok (.aaload, 1) := by decide +kernel
theorem d_Entry_addField_37 : decode prog_4_method_3_code 37 = .ok (.aload_n 3, 1) := by decide +kernel
theorem d_Entry_addField_38 : decode prog_4_method_3_code 38 = .ok (.invokevirtual 49, 3) := by decide +kernel
theorem d_Entry_addField_41 : decode prog_4_method_3_code 41 = .ok (.aload_n 0, 1) := by decide +kernel
theorem d_Entry_addField_42 : decode prog_4_method_3_code 42 = .ok (.dup, 1) := by decide +kernel
theorem d_Entry_addField_43 : decode prog_4_method_3_code 43 = .ok (.getfield 38, 3) := by decide +kernel
theorem d_Entry_addField_46 : decode prog_4_method_3_code 46 = .ok (.iconst 1, 1) := by decide +kernel
theorem d_Entry_addField_47 : decode prog_4_method_3_code 47 = .ok (.iadd, 1) := by decide +kernel
theorem d_Entry_addField_48 : decode prog_4_method_3_code 48 = .ok (.putfield 38, 3) := by decide +kernel
theorem d_Entry_addField_51 : decode prog_4_method_3_code 51 = .ok (.lload_n 1, 1) := by decide +kernel
theorem d_Entry_addField_52 : decode prog_4_method_3_code 52 = .ok (.ldc2_w 53, 3) := by decide +kernel
theorem d_Entry_addField_55 : decode prog_4_method_3_code 55 = .ok (.lcmp, 1) := by decide +kernel
theorem d_Entry_addField_56 : decode prog_4_method_3_code 56 = .ok (.ifCond .ne 11, 3) := by decide +kernel
theorem d_Entry_addField_59 : decode prog_4_method_3_code 59 = .ok (.aload_n 0, 1) := by decide +kernel
theorem d_Entry_addField_60 : decode prog_4_method_3_code 60 = .ok (.aload_n 3, 1) := by decide +kernel
theorem d_Entry_addField_61 : decode prog_4_method_3_code 61 = .ok (.invokevirtual 55, 3) := by decide +kernel
theorem d_Entry_addField_64 : decode prog_4_method_3_code 64 = .ok (.putfield 35, 3) := by decide +kernel
theorem d_Entry_addField_67 : decode prog_4_method_3_code 67 = .ok (.return_, 1) := by decide +kernel
theorem d_Entry_ownField_0 : decode prog_4_method_4_code 0 = .ok (.iconst 0, 1) := by decide +kernel
theorem d_Entry_ownField_1 : decode prog_4_method_4_code 1 = .ok (.istore_n 3, 1) := by decide +kernel
theorem d_Entry_ownField_2 : decode prog_4_method_4_code 2 = .ok (.iload_n 3, 1) := by decide +kernel
theorem d_Entry_ownField_3 : decode prog_4_method_4_code 3 = .ok (.aload_n 0, 1) := by decide +kernel
theorem d_Entry_ownField_4 : decode prog_4_method_4_code 4 = .ok (.getfield 38, 3) := by decide +kernel
theorem d_Entry_ownField_7 : decode prog_4_method_4_code 7 = .ok (.if_icmp .ge 27, 3) := by decide +kernel
theorem d_Entry_ownField_10 : decode prog_4_method_4_code 10 = .ok (.aload_n 0, 1) := by decide +kernel
theorem d_Entry_ownField_11 : decode prog_4_method_4_code 11 = .ok (.getfield 11, 3) := by decide +kernel
theorem d_Entry_ownField_14 : decode prog_4_method_4_code 14 = .ok (.iload_n 3, 1) := by decide +kernel
theorem d_Entry_ownField_15 : decode prog_4_method_4_code 15 = .ok (.laload, 1) := by decide +kernel
theorem d_Entry_ownField_16 : decode prog_4_method_4_code 16 = .ok (.lload_n 1, 1) := by decide +kernel
theorem d_Entry_ownField_17 : decode prog_4_method_4_code 17 = .ok (.lcmp, 1) := by decide +kernel
theorem d_Entry_ownField_18 : decode prog_4_method_4_code 18 = .ok (.ifCond .ne 10, 3) := by decide +kernel
theorem d_Entry_ownField_21 : decode prog_4_method_4_code 21 = .ok (.aload_n 0, 1) := by decide +kernel
theorem d_Entry_ownField_22 : decode prog_4_method_4_code 22 = .ok (.getfield 17, 3) := by decide +kernel
theorem d_Entry_ownField_25 : decode prog_4_method_4_code 25 = .ok (.iload_n 3, 1) := by decide +kernel
theorem d_Entry_ownField_26 : decode prog_4_method_4_code 26 = .ok (.aaload, 1) := by decide +kernel
theorem d_Entry_ownField_27 : decode prog_4_method_4_code 27 = .ok (.areturn, 1) := by decide +kernel
theorem d_Entry_ownField_28 : decode prog_4_method_4_code 28 = .ok (.iinc 3 1, 3) := by decide +kernel
theorem d_Entry_ownField_31 : decode prog_4_method_4_code 31 = .ok (.goto (-29), 3) := by decide +kernel
theorem d_Entry_ownField_34 : decode prog_4_method_4_code 34 = .ok (.aconst_null, 1) := by decide +kernel
theorem d_Entry_ownField_35 : decode prog_4_method_4_code 35 = .ok (.areturn, 1) := by decide +kernel
theorem d_Shelf_init_0 : decode prog_9_method_1_code 0 = .ok (.aload_n 0, 1) := by decide +kernel
theorem d_Shelf_init_1 : decode prog_9_method_1_code 1 = .ok (.invokespecial 3, 3) := by decide +kernel
theorem d_Shelf_init_4 : decode prog_9_method_1_code 4 = .ok (.aload_n 0, 1) := by decide +kernel
theorem d_Shelf_init_5 : decode prog_9_method_1_code 5 = .ok (.aload_n 1, 1) := by decide +kernel
theorem d_Shelf_init_6 : decode prog_9_method_1_code 6 = .ok (.putfield 9, 3) := by decide +kernel
theorem d_Shelf_init_9 : decode prog_9_method_1_code 9 = .ok (.aload_n 0, 1) := by decide +kernel
theorem d_Shelf_init_10 : decode prog_9_method_1_code 10 = .ok (.bipush 9, 2) := by decide +kernel
theorem d_Shelf_init_12 : decode prog_9_method_1_code 12 = .ok (.anewarray 15, 3) := by decide +kernel
theorem d_Shelf_init_15 : decode prog_9_method_1_code 15 = .ok (.putfield 17, 3) := by decide +kernel
theorem d_Shelf_init_18 : decode prog_9_method_1_code 18 = .ok (.iconst 0, 1) := by decide +kernel
theorem d_Shelf_init_19 : decode prog_9_method_1_code 19 = .ok (.istore_n 2, 1) := by decide +kernel
theorem d_Shelf_init_20 : decode prog_9_method_1_code 20 = .ok (.iload_n 2, 1) := by decide +kernel
theorem d_Shelf_init_21 : decode prog_9_method_1_code 21 = .ok (.bipush 8, 2) := by decide +kernel
theorem d_Shelf_init_23 : decode prog_9_method_1_code 23 = .ok (.if_icmp .gt 22, 3) := by decide +kernel
theorem d_Shelf_init_26 : decode prog_9_method_1_code 26 = .ok (.aload_n 0, 1) := by decide +kernel
theorem d_Shelf_init_27 : decode prog_9_method_1_code 27 = .ok (.getfield 17, 3) := by decide +kernel
theorem d_Shelf_init_30 : decode prog_9_method_1_code 30 = .ok (.iload_n 2, 1) := by decide +kernel
theorem d_Shelf_init_31 : decode prog_9_method_1_code 31 = .ok (.new 15, 3) := by decide +kernel
theorem d_Shelf_init_34 : decode prog_9_method_1_code 34 = .ok (.dup, 1) := by decide +kernel
theorem d_Shelf_init_35 : decode prog_9_method_1_code 35 = .ok (.invokespecial 21, 3) := by decide +kernel
theorem d_Shelf_init_38 : decode prog_9_method_1_code 38 = .ok (.aastore, 1) := by decide +kernel
theorem d_Shelf_init_39 : decode prog_9_method_1_code 39 = .ok (.iinc 2 1, 3) := by decide +kernel
theorem d_Shelf_init_42 : decode prog_9_method_1_code 42 = .ok (.goto (-22), 3) := by decide +kernel
theorem d_Shelf_init_45 : decode prog_9_method_1_code 45 = .ok (.return_, 1) := by decide +kernel
theorem d_Shelf_dropAll_0 : decode prog_9_method_3_code 0 = .ok (.aload_n 0, 1) := by decide +kernel
theorem d_Shelf_dropAll_1 : decode prog_9_method_3_code 1 = .ok (.iconst 0, 1) := by decide +kernel
theorem d_Shelf_dropAll_2 : decode prog_9_method_3_code 2 = .ok (.putfield 22, 3) := by decide +kernel
theorem d_Shelf_dropAll_5 : decode prog_9_method_3_code 5 = .ok (.return_, 1) := by decide +kernel
theorem d_Shelf_draft_0 : decode prog_9_method_5_code 0 = .ok (.aload_n 0, 1) := by decide +kernel
theorem d_Shelf_draft_1 : decode prog_9_method_5_code 1 = .ok (.getfield 17, 3) := by decide +kernel
theorem d_Shelf_draft_4 : decode prog_9_method_5_code 4 = .ok (.aload_n 0, 1) := by decide +kernel
theorem d_Shelf_draft_5 : decode prog_9_method_5_code 5 = .ok (.getfield 22, 3) := by decide +kernel
theorem d_Shelf_draft_8 : decode prog_9_method_5_code 8 = .ok (.aaload, 1) := by decide +kernel
theorem d_Shelf_draft_9 : decode prog_9_method_5_code 9 = .ok (.areturn, 1) := by decide +kernel
theorem d_Shelf_keepDraft_0 : decode prog_9_method_6_code 0 = .ok (.aload_n 0, 1) := by decide +kernel
theorem d_Shelf_keepDraft_1 : decode prog_9_method_6_code 1 = .ok (.aload_n 0, 1) := by decide +kernel
theorem d_Shelf_keepDraft_2 : decode prog_9_method_6_code 2 = .ok (.invokevirtual 26, 3) := by decide +kernel
theorem d_Shelf_keepDraft_5 : decode prog_9_method_6_code 5 = .ok (.getfield 30, 3) := by decide +kernel
theorem d_Shelf_keepDraft_8 : decode prog_9_method_6_code 8 = .ok (.invokevirtual 34, 3) := by decide +kernel
theorem d_Shelf_keepDraft_11 : decode prog_9_method_6_code 11 = .ok (.ifnull 16, 3) := by decide +kernel
theorem d_Shelf_keepDraft_14 : decode prog_9_method_6_code 14 = .ok (.aload_n 0, 1) := by decide +kernel
theorem d_Shelf_keepDraft_15 : decode prog_9_method_6_code 15 = .ok (.getfield 9, 3) := by decide +kernel
theorem d_Shelf_keepDraft_18 : decode prog_9_method_6_code 18 = .ok (.iconst 4, 1) := by decide +kernel
theorem d_Shelf_keepDraft_19 : decode prog_9_method_6_code 19 = .ok (.dup2, 1) := by decide +kernel
theorem d_Shelf_keepDraft_20 : decode prog_9_method_6_code 20 = .ok (.iaload, 1) := by decide +kernel
theorem d_Shelf_keepDraft_21 : decode prog_9_method_6_code 21 = .ok (.iconst 1, 1) := by decide +kernel
theorem d_Shelf_keepDraft_22 : decode prog_9_method_6_code 22 = .ok (.iadd, 1) := by decide +kernel
theorem d_Shelf_keepDraft_23 : decode prog_9_method_6_code 23 = .ok (.iastore, 1) := by decide +kernel
theorem d_Shelf_keepDraft_24 : decode prog_9_method_6_code 24 = .ok (.goto 35, 3) := by decide +kernel
theorem d_Shelf_keepDraft_27 : decode prog_9_method_6_code 27 = .ok (.aload_n 0, 1) := by decide +kernel
theorem d_Shelf_keepDraft_28 : decode prog_9_method_6_code 28 = .ok (.getfield 22, 3) := by decide +kernel
theorem d_Shelf_keepDraft_31 : decode prog_9_method_6_code 31 = .ok (.bipush 8, 2) := by decide +kernel
theorem d_Shelf_keepDraft_33 : decode prog_9_method_6_code 33 = .ok (.if_icmp .lt 16, 3) := by decide +kernel
theorem d_Shelf_keepDraft_36 : decode prog_9_method_6_code 36 = .ok (.aload_n 0, 1) := by decide +kernel
theorem d_Shelf_keepDraft_37 : decode prog_9_method_6_code 37 = .ok (.getfield 9, 3) := by decide +kernel
theorem d_Shelf_keepDraft_40 : decode prog_9_method_6_code 40 = .ok (.iconst 5, 1) := by decide +kernel
theorem d_Shelf_keepDraft_41 : decode prog_9_method_6_code 41 = .ok (.dup2, 1) := by decide +kernel
theorem d_Shelf_keepDraft_42 : decode prog_9_method_6_code 42 = .ok (.iaload, 1) := by decide +kernel
theorem d_Shelf_keepDraft_43 : decode prog_9_method_6_code 43 = .ok (.iconst 1, 1) := by decide +kernel
theorem d_Shelf_keepDraft_44 : decode prog_9_method_6_code 44 = .ok (.iadd, 1) := by decide +kernel
theorem d_Shelf_keepDraft_45 : decode prog_9_method_6_code 45 = .ok (.iastore, 1) := by decide +kernel
theorem d_Shelf_keepDraft_46 : decode prog_9_method_6_code 46 = .ok (.goto 13, 3) := by decide +kernel
theorem d_Shelf_keepDraft_49 : decode prog_9_method_6_code 49 = .ok (.aload_n 0, 1) := by decide +kernel
theorem d_Shelf_keepDraft_50 : decode prog_9_method_6_code 50 = .ok (.dup, 1) := by decide +kernel
theorem d_Shelf_keepDraft_51 : decode prog_9_method_6_code 51 = .ok (.getfield 22, 3) := by decide +kernel
theorem d_Shelf_keepDraft_54 : decode prog_9_method_6_code 54 = .ok (.iconst 1, 1) := by decide +kernel
theorem d_Shelf_keepDraft_55 : decode prog_9_method_6_code 55 = .ok (.iadd, 1) := by decide +kernel
theorem d_Shelf_keepDraft_56 : decode prog_9_method_6_code 56 = .ok (.putfield 22, 3) := by decide +kernel
theorem d_Shelf_keepDraft_59 : decode prog_9_method_6_code 59 = .ok (.return_, 1) := by decide +kernel
theorem d_Shelf_find_0 : decode prog_9_method_7_code 0 = .ok (.iconst 0, 1) := by decide +kernel
theorem d_Shelf_find_1 : decode prog_9_method_7_code 1 = .ok (.istore_n 3, 1) := by decide +kernel
theorem d_Shelf_find_2 : decode prog_9_method_7_code 2 = .ok (.iload_n 3, 1) := by decide +kernel
theorem d_Shelf_find_3 : decode prog_9_method_7_code 3 = .ok (.aload_n 0, 1) := by decide +kernel
theorem d_Shelf_find_4 : decode prog_9_method_7_code 4 = .ok (.getfield 22, 3) := by decide +kernel
theorem d_Shelf_find_7 : decode prog_9_method_7_code 7 = .ok (.if_icmp .ge 30, 3) := by decide +kernel
theorem d_Shelf_find_10 : decode prog_9_method_7_code 10 = .ok (.aload_n 0, 1) := by decide +kernel
theorem d_Shelf_find_11 : decode prog_9_method_7_code 11 = .ok (.getfield 17, 3) := by decide +kernel
theorem d_Shelf_find_14 : decode prog_9_method_7_code 14 = .ok (.iload_n 3, 1) := by decide +kernel
theorem d_Shelf_find_15 : decode prog_9_method_7_code 15 = .ok (.aaload, 1) := by decide +kernel
theorem d_Shelf_find_16 : decode prog_9_method_7_code 16 = .ok (.getfield 30, 3) := by decide +kernel
theorem d_Shelf_find_19 : decode prog_9_method_7_code 19 = .ok (.lload_n 1, 1) := by decide +kernel
theorem d_Shelf_find_20 : decode prog_9_method_7_code 20 = .ok (.lcmp, 1) := by decide +kernel
theorem d_Shelf_find_21 : decode prog_9_method_7_code 21 = .ok (.ifCond .ne 10, 3) := by decide +kernel
theorem d_Shelf_find_24 : decode prog_9_method_7_code 24 = .ok (.aload_n 0, 1) := by decide +kernel
theorem d_Shelf_find_25 : decode prog_9_method_7_code 25 = .ok (.getfield 17, 3) := by decide +kernel
theorem d_Shelf_find_28 : decode prog_9_method_7_code 28 = .ok (.iload_n 3, 1) := by decide +kernel
theorem d_Shelf_find_29 : decode prog_9_method_7_code 29 = .ok (.aaload, 1) := by decide +kernel
theorem d_Shelf_find_30 : decode prog_9_method_7_code 30 = .ok (.areturn, 1) := by decide +kernel
theorem d_Shelf_find_31 : decode prog_9_method_7_code 31 = .ok (.iinc 3 1, 3) := by decide +kernel
theorem d_Shelf_find_34 : decode prog_9_method_7_code 34 = .ok (.goto (-32), 3) := by decide +kernel
theorem d_Shelf_find_37 : decode prog_9_method_7_code 37 = .ok (.aconst_null, 1) := by decide +kernel
theorem d_Shelf_find_38 : decode prog_9_method_7_code 38 = .ok (.areturn, 1) := by decide +kernel
theorem d_Shelf_size_0 : decode prog_9_method_2_code 0 = .ok (.aload_n 0, 1) := by decide +kernel
theorem d_Shelf_size_1 : decode prog_9_method_2_code 1 = .ok (.getfield 22, 3) := by decide +kernel
theorem d_Shelf_size_4 : decode prog_9_method_2_code 4 = .ok (.ireturn, 1) := by decide +kernel
theorem d_Shelf_entryAt_0 : decode prog_9_method_4_code 0 = .ok (.aload_n 0, 1) := by decide +kernel
theorem d_Shelf_entryAt_1 : decode prog_9_method_4_code 1 = .ok (.getfield 17, 3) := by decide +kernel
theorem d_Shelf_entryAt_4 : decode prog_9_method_4_code 4 = .ok (.iload_n 1, 1) := by decide +kernel
theorem d_Shelf_entryAt_5 : decode prog_9_method_4_code 5 = .ok (.aaload, 1) := by decide +kernel
theorem d_Shelf_entryAt_6 : decode prog_9_method_4_code 6 = .ok (.areturn, 1) := by decide +kernel
theorem d_Shelf_fieldOf_0 : decode prog_9_method_8_code 0 = .ok (.lload_n 2, 1) := by decide +kernel
theorem d_Shelf_fieldOf_1 : decode prog_9_method_8_code 1 = .ok (.lconst 0, 1) := by decide +kernel
theorem d_Shelf_fieldOf_2 : decode prog_9_method_8_code 2 = .ok (.lcmp, 1) := by decide +kernel
theorem d_Shelf_fieldOf_3 : decode prog_9_method_8_code 3 = .ok (.ifCond .ne 5, 3) := by decide +kernel
theorem d_Shelf_fieldOf_6 : decode prog_9_method_8_code 6 = .ok (.aconst_null, 1) := by decide +kernel
theorem d_Shelf_fieldOf_7 : decode prog_9_method_8_code 7 = .ok (.areturn, 1) := by decide +kernel
theorem d_Shelf_fieldOf_8 : decode prog_9_method_8_code 8 = .ok (.aload_n 1, 1) := by decide +kernel
theorem d_Shelf_fieldOf_9 : decode prog_9_method_8_code 9 = .ok (.lload_n 2, 1) := by decide +kernel
theorem d_Shelf_fieldOf_10 : decode prog_9_method_8_code 10 = .ok (.invokevirtual 38, 3) := by decide +kernel
theorem d_Shelf_fieldOf_13 : decode prog_9_method_8_code 13 = .ok (.astore 4, 2) := by decide +kernel
theorem d_Shelf_fieldOf_15 : decode prog_9_method_8_code 15 = .ok (.aload 4, 2) := by decide +kernel
theorem d_Shelf_fieldOf_17 : decode prog_9_method_8_code 17 = .ok (.ifnonnull 11, 3) := by decide +kernel
theorem d_Shelf_fieldOf_20 : decode prog_9_method_8_code 20 = .ok (.lload_n 2, 1) := by decide +kernel
theorem d_Shelf_fieldOf_21 : decode prog_9_method_8_code 21 = .ok (.ldc2_w 42, 3) := by decide +kernel
theorem d_Shelf_fieldOf_24 : decode prog_9_method_8_code 24 = .ok (.lcmp, 1) := by decide +kernel
theorem d_Shelf_fieldOf_25 : decode prog_9_method_8_code 25 = .ok (.ifCond .ne 6, 3) := by decide +kernel
theorem d_Shelf_fieldOf_28 : decode prog_9_method_8_code 28 = .ok (.aload 4, 2) := by decide +kernel
theorem d_Shelf_fieldOf_30 : decode prog_9_method_8_code 30 = .ok (.areturn, 1) := by decide +kernel
theorem d_Shelf_fieldOf_31 : decode prog_9_method_8_code 31 = .ok (.aload_n 0, 1) := by decide +kernel
theorem d_Shelf_fieldOf_32 : decode prog_9_method_8_code 32 = .ok (.aload_n 1, 1) := by decide +kernel
theorem d_Shelf_fieldOf_33 : decode prog_9_method_8_code 33 = .ok (.getfield 44, 3) := by decide +kernel
theorem d_Shelf_fieldOf_36 : decode prog_9_method_8_code 36 = .ok (.invokevirtual 34, 3) := by decide +kernel
theorem d_Shelf_fieldOf_39 : decode prog_9_method_8_code 39 = .ok (.astore 5, 2) := by decide +kernel
theorem d_Shelf_fieldOf_41 : decode prog_9_method_8_code 41 = .ok (.aload 5, 2) := by decide +kernel
theorem d_Shelf_fieldOf_43 : decode prog_9_method_8_code 43 = .ok (.ifnonnull 7, 3) := by decide +kernel
theorem d_Shelf_fieldOf_46 : decode prog_9_method_8_code 46 = .ok (.aconst_null, 1) := by decide +kernel
theorem d_Shelf_fieldOf_47 : decode prog_9_method_8_code 47 = .ok (.goto 9, 3) := by decide +kernel
theorem d_Shelf_fieldOf_50 : decode prog_9_method_8_code 50 = .ok (.aload 5, 2) := by decide +kernel
theorem d_Shelf_fieldOf_52 : decode prog_9_method_8_code 52 = .ok (.lload_n 2, 1) := by decide +kernel
theorem d_Shelf_fieldOf_53 : decode prog_9_method_8_code 53 = .ok (.invokevirtual 38, 3) := by decide +kernel
theorem d_Shelf_fieldOf_56 : decode prog_9_method_8_code 56 = .ok (.areturn, 1) := by decide +kernel
theorem d_Reader_init_0 : decode prog_8_method_1_code 0 = .ok (.aload_n 0, 1) := by decide +kernel
theorem d_Reader_init_1 : decode prog_8_method_1_code 1 = .ok (.invokespecial 3, 3) := by decide +kernel
theorem d_Reader_init_4 : decode prog_8_method_1_code 4 = .ok (.aload_n 0, 1) := by decide +kernel
theorem d_Reader_init_5 : decode prog_8_method_1_code 5 = .ok (.aload_n 1, 1) := by decide +kernel
theorem d_Reader_init_6 : decode prog_8_method_1_code 6 = .ok (.putfield 9, 3) := by decide +kernel
theorem d_Reader_init_9 : decode prog_8_method_1_code 9 = .ok (.aload_n 0, 1) := by decide +kernel
theorem d_Reader_init_10 : decode prog_8_method_1_code 10 = .ok (.aload_n 2, 1) := by decide +kernel
theorem d_Reader_init_11 : decode prog_8_method_1_code 11 = .ok (.putfield 15, 3) := by decide +kernel
theorem d_Reader_init_14 : decode prog_8_method_1_code 14 = .ok (.aload_n 0, 1) := by decide +kernel
theorem d_Reader_init_15 : decode prog_8_method_1_code 15 = .ok (.new 19, 3) := by decide +kernel
theorem d_Reader_init_18 : decode prog_8_method_1_code 18 = .ok (.dup, 1) := by decide +kernel
theorem d_Reader_init_19 : decode prog_8_method_1_code 19 = .ok (.sipush 320, 3) := by decide +kernel
theorem d_Reader_init_22 : decode prog_8_method_1_code 22 = .ok (.invokespecial 21, 3) := by decide +kernel
theorem d_Reader_init_25 : decode prog_8_method_1_code 25 = .ok (.putfield 24, 3) := by decide +kernel
theorem d_Reader_init_28 : decode prog_8_method_1_code 28 = .ok (.aload_n 0, 1) := by decide +kernel
theorem d_Reader_init_29 : decode prog_8_method_1_code 29 = .ok (.aload_n 0, 1) := by decide +kernel
theorem d_Reader_init_30 : decode prog_8_method_1_code 30 = .ok (.getfield 24, 3) := by decide +kernel
theorem d_Reader_init_33 : decode prog_8_method_1_code 33 = .ok (.putfield 28, 3) := by decide +kernel
theorem d_Reader_init_36 : decode prog_8_method_1_code 36 = .ok (.aload_n 0, 1) := by decide +kernel
theorem d_Reader_init_37 : decode prog_8_method_1_code 37 = .ok (.bipush 8, 2) := by decide +kernel
theorem d_Reader_init_39 : decode prog_8_method_1_code 39 = .ok (.newarray .long, 2) := by decide +kernel
theorem d_Reader_init_41 : decode prog_8_method_1_code 41 = .ok (.putfield 31, 3) := by decide +kernel
theorem d_Reader_init_44 : decode prog_8_method_1_code 44 = .ok (.aload_n 0, 1) := by decide +kernel
theorem d_Reader_init_45 : decode prog_8_method_1_code 45 = .ok (.bipush 8, 2) := by decide +kernel
theorem d_Reader_init_47 : decode prog_8_method_1_code 47 = .ok (.anewarray 19, 3) := by decide +kernel
theorem d_Reader_init_50 : decode prog_8_method_1_code 50 = .ok (.putfield 35, 3) := by decide +kernel
theorem d_Reader_init_53 : decode prog_8_method_1_code 53 = .ok (.iconst 0, 1) := by decide +kernel
theorem d_Reader_init_54 : decode prog_8_method_1_code 54 = .ok (.istore_n 3, 1) := by decide +kernel
theorem d_Reader_init_55 : decode prog_8_method_1_code 55 = .ok (.iload_n 3, 1) := by decide +kernel
theorem d_Reader_init_56 : decode prog_8_method_1_code 56 = .ok (.bipush 8, 2) := by decide +kernel
theorem d_Reader_init_58 : decode prog_8_method_1_code 58 = .ok (.if_icmp .ge 24, 3) := by decide +kernel
theorem d_Reader_init_61 : decode prog_8_method_1_code 61 = .ok (.aload_n 0, 1) := by decide +kernel
theorem d_Reader_init_62 : decode prog_8_method_1_code 62 = .ok (.getfield 35, 3) := by decide +kernel
theorem d_Reader_init_65 : decode prog_8_method_1_code 65 = .ok (.iload_n 3, 1) := by decide +kernel
theorem d_Reader_init_66 : decode prog_8_method_1_code 66 = .ok (.new 19, 3) := by decide +kernel
theorem d_Reader_init_69 : decode prog_8_method_1_code 69 = .ok (.dup, 1) := by decide +kernel
theorem d_Reader_init_70 : decode prog_8_method_1_code 70 = .ok (.bipush 60, 2) := by decide +kernel
theorem d_Reader_init_72 : decode prog_8_method_1_code 72 = .ok (.invokespecial 21, 3) := by decide +kernel
theorem d_Reader_init_75 : decode prog_8_method_1_code 75 = .ok (.aastore, 1) := by decide +kernel
theorem d_Reader_init_76 : decode prog_8_method_1_code 76 = .ok (.iinc 3 1, 3) := by decide +kernel
theorem d_Reader_init_79 : decode prog_8_method_1_code 79 = .ok (.goto (-24), 3) := by decide +kernel
theorem d_Reader_init_82 : decode prog_8_method_1_code 82 = .ok (.aload_n 0, 1) := by decide +kernel
theorem d_Reader_init_83 : decode prog_8_method_1_code 83 = .ok (.new 19, 3) := by decide +kernel
theorem d_Reader_init_86 : decode prog_8_method_1_code 86 = .ok (.dup, 1) := by decide +kernel
theorem d_Reader_init_87 : decode prog_8_method_1_code 87 = .ok (.bipush 60, 2) := by decide +kernel
theorem d_Reader_init_89 : decode prog_8_method_1_code 89 = .ok (.invokespecial 21, 3) := by decide +kernel
theorem d_Reader_init_92 : decode prog_8_method_1_code 92 = .ok (.putfield 39, 3) := by decide +kernel
theorem d_Reader_init_95 : decode prog_8_method_1_code 95 = .ok (.return_, 1) := by decide +kernel
theorem d_Reader_dropSource_0 : decode prog_8_method_5_code 0 = .ok (.aload_n 0, 1) := by decide +kernel
theorem d_Reader_dropSource_1 : decode prog_8_method_5_code 1 = .ok (.getfield 24, 3) := by decide +kernel
theorem d_Reader_dropSource_4 : decode prog_8_method_5_code 4 = .ok (.invokevirtual 50, 3) := by decide +kernel
theorem d_Reader_dropSource_7 : decode prog_8_method_5_code 7 = .ok (.istore_n 1, 1) := by decide +kernel
theorem d_Reader_dropSource_8 : decode prog_8_method_5_code 8 = .ok (.aload_n 0, 1) := by decide +kernel
theorem d_Reader_dropSource_9 : decode prog_8_method_5_code 9 = .ok (.getfield 24, 3) := by decide +kernel
theorem d_Reader_dropSource_12 : decode prog_8_method_5_code 12 = .ok (.invokevirtual 58, 3) := by decide +kernel
theorem d_Reader_dropSource_15 : decode prog_8_method_5_code 15 = .ok (.iload_n 1, 1) := by decide +kernel
theorem d_Reader_dropSource_16 : decode prog_8_method_5_code 16 = .ok (.ireturn, 1) := by decide +kernel
theorem d_Reader_begin_0 : decode prog_8_method_6_code 0 = .ok (.aload_n 0, 1) := by decide +kernel
theorem d_Reader_begin_1 : decode prog_8_method_6_code 1 = .ok (.getfield 9, 3) := by decide +kernel
theorem d_Reader_begin_4 : decode prog_8_method_6_code 4 = .ok (.invokevirtual 61, 3) := by decide +kernel
theorem d_Reader_begin_7 : decode prog_8_method_6_code 7 = .ok (.aload_n 0, 1) := by decide +kernel
theorem d_Reader_begin_8 : decode prog_8_method_6_code 8 = .ok (.iconst 0, 1) := by decide +kernel
theorem d_Reader_begin_9 : decode prog_8_method_6_code 9 = .ok (.putfield 66, 3) := by decide +kernel
theorem d_Reader_begin_12 : decode prog_8_method_6_code 12 = .ok (.aload_n 0, 1) := by decide +kernel
theorem d_Reader_begin_13 : decode prog_8_method_6_code 13 = .ok (.iconst 0, 1) := by decide +kernel
theorem d_Reader_begin_14 : decode prog_8_method_6_code 14 = .ok (.putfield 70, 3) := by decide +kernel
theorem d_Reader_begin_17 : decode prog_8_method_6_code 17 = .ok (.aload_n 0, 1) := by decide +kernel
theorem d_Reader_begin_18 : decode prog_8_method_6_code 18 = .ok (.iconst 0, 1) := by decide +kernel
theorem d_Reader_begin_19 : decode prog_8_method_6_code 19 = .ok (.putfield 73, 3) := by decide +kernel
theorem d_Reader_begin_22 : decode prog_8_method_6_code 22 = .ok (.return_, 1) := by decide +kernel
theorem d_Reader_findItem_0 : decode prog_8_method_7_code 0 = .ok (.aload_n 0, 1) := by decide +kernel
theorem d_Reader_findItem_1 : decode prog_8_method_7_code 1 = .ok (.getfield 73, 3) := by decide +kernel
theorem d_Reader_findItem_4 : decode prog_8_method_7_code 4 = .ok (.bipush 8, 2) := by decide +kernel
theorem d_Reader_findItem_6 : decode prog_8_method_7_code 6 = .ok (.if_icmp .lt 5, 3) := by decide +kernel
theorem d_Reader_findItem_9 : decode prog_8_method_7_code 9 = .ok (.iconst 0, 1) := by decide +kernel
theorem d_Reader_findItem_10 : decode prog_8_method_7_code 10 = .ok (.ireturn, 1) := by decide +kernel
theorem d_Reader_findItem_11 : decode prog_8_method_7_code 11 = .ok (.aload_n 0, 1) := by decide +kernel
theorem d_Reader_findItem_12 : decode prog_8_method_7_code 12 = .ok (.getfield 70, 3) := by decide +kernel
theorem d_Reader_findItem_15 : decode prog_8_method_7_code 15 = .ok (.aload_n 0, 1) := by decide +kernel
theorem d_Reader_findItem_16 : decode prog_8_method_7_code 16 = .ok (.getfield 24, 3) := by decide +kernel
theorem d_Reader_findItem_19 : decode prog_8_method_7_code 19 = .ok (.invokevirtual 50, 3) := by decide +kernel
theorem d_Reader_findItem_22 : decode prog_8_method_7_code 22 = .ok (.if_icmp .ge 44, 3) := by decide +kernel
theorem d_Reader_findItem_25 : decode prog_8_method_7_code 25 = .ok (.aload_n 0, 1) := by decide +kernel
theorem d_Reader_findItem_26 : decode prog_8_method_7_code 26 = .ok (.getfield 24, 3) := by decide +kernel
theorem d_Reader_findItem_29 : decode prog_8_method_7_code 29 = .ok (.aload_n 0, 1) := by decide +kernel
theorem d_Reader_findItem_30 : decode prog_8_method_7_code 30 = .ok (.getfield 70, 3) := by decide +kernel
theorem d_Reader_findItem_33 : decode prog_8_method_7_code 33 = .ok (.invokevirtual 76, 3) := by decide +kernel
theorem d_Reader_findItem_36 : decode prog_8_method_7_code 36 = .ok (.bipush 64, 2) := by decide +kernel
theorem d_Reader_findItem_38 : decode prog_8_method_7_code 38 = .ok (.if_icmp .ne 7, 3) := by decide +kernel
theorem d_Reader_findItem_41 : decode prog_8_method_7_code 41 = .ok (.iconst 1, 1) := by decide +kernel
theorem d_Reader_findItem_42 : decode prog_8_method_7_code 42 = .ok (.goto 4, 3) := by decide +kernel
theorem d_Reader_findItem_45 : decode prog_8_method_7_code 45 = .ok (.iconst 0, 1) := by decide +kernel
theorem d_Reader_findItem_46 : decode prog_8_method_7_code 46 = .ok (.istore_n 1, 1) := by decide +kernel
theorem d_Reader_findItem_47 : decode prog_8_method_7_code 47 = .ok (.aload_n 0, 1) := by decide +kernel
theorem d_Reader_findItem_48 : decode prog_8_method_7_code 48 = .ok (.dup, 1) := by decide +kernel
theorem d_Reader_findItem_49 : decode prog_8_method_7_code 49 = .ok (.getfield 70, 3) := by decide +kernel
theorem d_Reader_findItem_52 : decode prog_8_method_7_code 52 = .ok (.iconst 1, 1) := by decide +kernel
theorem d_Reader_findItem_53 : decode prog_8_method_7_code 53 = .ok (.iadd, 1) := by decide +kernel
theorem d_Reader_findItem_54 : decode prog_8_method_7_code 54 = .ok (.putfield 70, 3) := by decide +kernel
theorem d_Reader_findItem_57 : decode prog_8_method_7_code 57 = .ok (.iload_n 1, 1) := by decide +kernel
theorem d_Reader_findItem_58 : decode prog_8_method_7_code 58 = .ok (.ifCond .eq 5, 3) := by decide +kernel
theorem d_Reader_findItem_61 : decode prog_8_method_7_code 61 = .ok (.iconst 1, 1) := by decide +kernel
theorem d_Reader_findItem_62 : decode prog_8_method_7_code 62 = .ok (.ireturn, 1) := by decide +kernel
theorem d_Reader_findItem_63 : decode prog_8_method_7_code 63 = .ok (.goto (-52), 3) := by decide +kernel
theorem d_Reader_findItem_66 : decode prog_8_method_7_code 66 = .ok (.iconst 0, 1) := by decide +kernel
theorem d_Reader_findItem_67 : decode prog_8_method_7_code 67 = .ok (.ireturn, 1) := by decide +kernel
theorem d_Reader_takeItem_0 : decode prog_8_method_9_code 0 = .ok (.aload_n 0, 1) := by decide +kernel
theorem d_Reader_takeItem_1 : decode prog_8_method_9_code 1 = .ok (.invokevirtual 80, 3) := by decide +kernel
theorem d_Reader_takeItem_4 : decode prog_8_method_9_code 4 = .ok (.lstore_n 1, 1) := by decide +kernel
theorem d_Reader_takeItem_5 : decode prog_8_method_9_code 5 = .ok (.lload_n 1, 1) := by decide +kernel
theorem d_Reader_takeItem_6 : decode prog_8_method_9_code 6 = .ok (.lconst 0, 1) := by decide +kernel
theorem d_Reader_takeItem_7 : decode prog_8_method_9_code 7 = .ok (.lcmp, 1) := by decide +kernel
theorem d_Reader_takeItem_8 : decode prog_8_method_9_code 8 = .ok (.ifCond .eq 12, 3) := by decide +kernel
theorem d_Reader_takeItem_11 : decode prog_8_method_9_code 11 = .ok (.aload_n 0, 1) := by decide +kernel
theorem d_Reader_takeItem_12 : decode prog_8_method_9_code 12 = .ok (.bipush 123, 2) := by decide +kernel
theorem d_Reader_takeItem_14 : decode prog_8_method_9_code 14 = .ok (.invokevirtual 84, 3) := by decide +kernel
theorem d_Reader_takeItem_17 : decode prog_8_method_9_code 17 = .ok (.ifCond .ne 5, 3) := by decide +kernel
theorem d_Reader_takeItem_20 : decode prog_8_method_9_code 20 = .ok (.iconst 0, 1) := by decide +kernel
theorem d_Reader_takeItem_21 : decode prog_8_method_9_code 21 = .ok (.ireturn, 1) := by decide +kernel
theorem d_Reader_takeItem_22 : decode prog_8_method_9_code 22 = .ok (.lload_n 1, 1) := by decide +kernel
theorem d_Reader_takeItem_23 : decode prog_8_method_9_code 23 = .ok (.ldc2_w 88, 3) := by decide +kernel
theorem d_Reader_takeItem_26 : decode prog_8_method_9_code 26 = .ok (.lcmp, 1) := by decide +kernel
theorem d_Reader_takeItem_27 : decode prog_8_method_9_code 27 = .ok (.ifCond .ne 5, 3) := by decide +kernel
theorem d_Reader_takeItem_30 : decode prog_8_method_9_code 30 = .ok (.iconst 1, 1) := by decide +kernel
theorem d_Reader_takeItem_31 : decode prog_8_method_9_code 31 = .ok (.ireturn, 1) := by decide +kernel
theorem d_Reader_takeItem_32 : decode prog_8_method_9_code 32 = .ok (.lload_n 1, 1) := by decide +kernel
theorem d_Reader_takeItem_33 : decode prog_8_method_9_code 33 = .ok (.ldc2_w 90, 3) := by decide +kernel
theorem d_Reader_takeItem_36 : decode prog_8_method_9_code 36 = .ok (.lcmp, 1) := by decide +kernel
theorem d_Reader_takeItem_37 : decode prog_8_method_9_code 37 = .ok (.ifCond .ne 10, 3) := by decide +kernel
theorem d_Reader_takeItem_40 : decode prog_8_method_9_code 40 = .ok (.aload_n 0, 1) := by decide +kernel
theorem d_Reader_takeItem_41 : decode prog_8_method_9_code 41 = .ok (.invokevirtual 92, 3) := by decide +kernel
theorem d_Reader_takeItem_44 : decode prog_8_method_9_code 44 = .ok (.goto 8, 3) := by decide +kernel
theorem d_Reader_takeItem_47 : decode prog_8_method_9_code 47 = .ok (.aload_n 0, 1) := by decide +kernel
theorem d_Reader_takeItem_48 : decode prog_8_method_9_code 48 = .ok (.lload_n 1, 1) := by decide +kernel
theorem d_Reader_takeItem_49 : decode prog_8_method_9_code 49 = .ok (.invokevirtual 96, 3) := by decide +kernel
theorem d_Reader_takeItem_52 : decode prog_8_method_9_code 52 = .ok (.ireturn, 1) := by decide +kernel
theorem d_Reader_takeWord_0 : decode prog_8_method_19_code 0 = .ok (.aload_n 0, 1) := by decide +kernel
theorem d_Reader_takeWord_1 : decode prog_8_method_19_code 1 = .ok (.invokevirtual 137, 3) := by decide +kernel
theorem d_Reader_takeWord_4 : decode prog_8_method_19_code 4 = .ok (.lconst 0, 1) := by decide +kernel
theorem d_Reader_takeWord_5 : decode prog_8_method_19_code 5 = .ok (.lstore_n 1, 1) := by decide +kernel
theorem d_Reader_takeWord_6 : decode prog_8_method_19_code 6 = .ok (.iconst 0, 1) := by decide +kernel
theorem d_Reader_takeWord_7 : decode prog_8_method_19_code 7 = .ok (.istore_n 3, 1) := by decide +kernel
theorem d_Reader_takeWord_8 : decode prog_8_method_19_code 8 = .ok (.iload_n 3, 1) := by decide +kernel
theorem d_Reader_takeWord_9 : decode prog_8_method_19_code 9 = .ok (.bipush 8, 2) := by decide +kernel
theorem d_Reader_takeWord_11 : decode prog_8_method_19_code 11 = .ok (.if_icmp .ge 59, 3) := by decide +kernel
theorem d_Reader_takeWord_14 : decode prog_8_method_19_code 14 = .ok (.aload_n 0, 1) := by decide +kernel
theorem d_Reader_takeWord_15 : decode prog_8_method_19_code 15 = .ok (.getfield 24, 3) := by decide +kernel
theorem d_Reader_takeWord_18 : decode prog_8_method_19_code 18 = .ok (.aload_n 0, 1) := by decide +kernel
theorem d_Reader_takeWord_19 : decode prog_8_method_19_code 19 = .ok (.getfield 70, 3) := by decide +kernel
theorem d_Reader_takeWord_22 : decode prog_8_method_19_code 22 = .ok (.invokevirtual 76, 3) := by decide +kernel
theorem d_Reader_takeWord_25 : decode prog_8_method_19_code 25 = .ok (.invokestatic 173, 3) := by decide +kernel
theorem d_Reader_takeWord_28 : decode prog_8_method_19_code 28 = .ok (.ifCond .eq 42, 3) := by decide +kernel
theorem d_Reader_takeWord_31 : decode prog_8_method_19_code 31 = .ok (.lload_n 1, 1) := by decide +kernel
theorem d_Reader_takeWord_32 : decode prog_8_method_19_code 32 = .ok (.aload_n 0, 1) := by decide +kernel
theorem d_Reader_takeWord_33 : decode prog_8_method_19_code 33 = .ok (.getfield 24, 3) := by decide +kernel
theorem d_Reader_takeWord_36 : decode prog_8_method_19_code 36 = .ok (.aload_n 0, 1) := by decide +kernel
theorem d_Reader_takeWord_37 : decode prog_8_method_19_code 37 = .ok (.getfield 70, 3) := by decide +kernel
theorem d_Reader_takeWord_40 : decode prog_8_method_19_code 40 = .ok (.invokevirtual 76, 3) := by decide +kernel
theorem d_Reader_takeWord_43 : decode prog_8_method_19_code 43 = .ok (.invokestatic 176, 3) := by decide +kernel
theorem d_Reader_takeWord_46 : decode prog_8_method_19_code 46 = .ok (.i2l, 1) := by decide +kernel
theorem d_Reader_takeWord_47 : decode prog_8_method_19_code 47 = .ok (.bipush 8, 2) := by decide +kernel
theorem d_Reader_takeWord_49 : decode prog_8_method_19_code 49 = .ok (.iload_n 3, 1) := by decide +kernel
theorem d_Reader_takeWord_50 : decode prog_8_method_19_code 50 = .ok (.imul, 1) := by decide +kernel
theorem d_Reader_takeWord_51 : decode prog_8_method_19_code 51 = .ok (.lshl, 1) := by decide +kernel
theorem d_Reader_takeWord_52 : decode prog_8_method_19_code 52 = .ok (.lor, 1) := by decide +kernel
theorem d_Reader_takeWord_53 : decode prog_8_method_19_code 53 = .ok (.lstore_n 1, 1) := by decide +kernel
theorem d_Reader_takeWord_54 : decode prog_8_method_19_code 54 = .ok (.aload_n 0, 1) := by decide +kernel
theorem d_Reader_takeWord_55 : decode prog_8_method_19_code 55 = .ok (.dup, 1) := by decide +kernel
theorem d_Reader_takeWord_56 : decode prog_8_method_19_code 56 = .ok (.getfield 70, 3) := by decide +kernel
theorem d_Reader_takeWord_59 : decode prog_8_method_19_code 59 = .ok (.iconst 1, 1) := by decide +kernel
theorem d_Reader_takeWord_60 : decode prog_8_method_19_code 60 = .ok (.iadd, 1) := by decide +kernel
theorem d_Reader_takeWord_61 : decode prog_8_method_19_code 61 = .ok (.putfield 70, 3) := by decide +kernel
theorem d_Reader_takeWord_64 : decode prog_8_method_19_code 64 = .ok (.iinc 3 1, 3) := by decide +kernel
theorem d_Reader_takeWord_67 : decode prog_8_method_19_code 67 = .ok (.goto (-59), 3) := by decide +kernel
theorem d_Reader_takeWord_70 : decode prog_8_method_19_code 70 = .ok (.lload_n 1, 1) := by decide +kernel
theorem d_Reader_takeWord_71 : decode prog_8_method_19_code 71 = .ok (.lreturn, 1) := by decide +kernel
theorem d_Reader_passBlanks_0 : decode prog_8_method_21_code 0 = .ok (.aload_n 0, 1) := by decide +kernel
theorem d_Reader_passBlanks_1 : decode prog_8_method_21_code 1 = .ok (.getfield 70, 3) := by decide +kernel
theorem d_Reader_passBlanks_4 : decode prog_8_method_21_code 4 = .ok (.aload_n 0, 1) := by decide +kernel
theorem d_Reader_passBlanks_5 : decode prog_8_method_21_code 5 = .ok (.getfield 24, 3) := by decide +kernel
theorem d_Reader_passBlanks_8 : decode prog_8_method_21_code 8 = .ok (.invokevirtual 50, 3) := by decide +kernel
theorem d_Reader_passBlanks_11 : decode prog_8_method_21_code 11 = .ok (.if_icmp .ge 33, 3) := by decide +kernel
theorem d_Reader_passBlanks_14 : decode prog_8_method_21_code 14 = .ok (.aload_n 0, 1) := by decide +kernel
theorem d_Reader_passBlanks_15 : decode prog_8_method_21_code 15 = .ok (.getfield 24, 3) := by decide +kernel
theorem d_Reader_passBlanks_18 : decode prog_8_method_21_code 18 = .ok (.aload_n 0, 1) := by decide +kernel
theorem d_Reader_passBlanks_19 : decode prog_8_method_21_code 19 = .ok (.getfield 70, 3) := by decide +kernel
theorem d_Reader_passBlanks_22 : decode prog_8_method_21_code 22 = .ok (.invokevirtual 76, 3) := by decide +kernel
theorem d_Reader_passBlanks_25 : decode prog_8_method_21_code 25 = .ok (.invokestatic 180, 3) := by decide +kernel
theorem d_Reader_passBlanks_28 : decode prog_8_method_21_code 28 = .ok (.ifCond .eq 16, 3) := by decide +kernel
theorem d_Reader_passBlanks_31 : decode prog_8_method_21_code 31 = .ok (.aload_n 0, 1) := by decide +kernel
theorem d_Reader_passBlanks_32 : decode prog_8_method_21_code 32 = .ok (.dup, 1) := by decide +kernel
theorem d_Reader_passBlanks_33 : decode prog_8_method_21_code 33 = .ok (.getfield 70, 3) := by decide +kernel
theorem d_Reader_passBlanks_36 : decode prog_8_method_21_code 36 = .ok (.iconst 1, 1) := by decide +kernel
theorem d_Reader_passBlanks_37 : decode prog_8_method_21_code 37 = .ok (.iadd, 1) := by decide +kernel
theorem d_Reader_passBlanks_38 : decode prog_8_method_21_code 38 = .ok (.putfield 70, 3) := by decide +kernel
theorem d_Reader_passBlanks_41 : decode prog_8_method_21_code 41 = .ok (.goto (-41), 3) := by decide +kernel
theorem d_Reader_passBlanks_44 : decode prog_8_method_21_code 44 = .ok (.return_, 1) := by decide +kernel
theorem d_Reader_takeSign_0 : decode prog_8_method_20_code 0 = .ok (.aload_n 0, 1) := by decide +kernel
theorem d_Reader_takeSign_1 : decode prog_8_method_20_code 1 = .ok (.invokevirtual 137, 3) := by decide +kernel
theorem d_Reader_takeSign_4 : decode prog_8_method_20_code 4 = .ok (.aload_n 0, 1) := by decide +kernel
theorem d_Reader_takeSign_5 : decode prog_8_method_20_code 5 = .ok (.getfield 24, 3) := by decide +kernel
theorem d_Reader_takeSign_8 : decode prog_8_method_20_code 8 = .ok (.aload_n 0, 1) := by decide +kernel
theorem d_Reader_takeSign_9 : decode prog_8_method_20_code 9 = .ok (.getfield 70, 3) := by decide +kernel
theorem d_Reader_takeSign_12 : decode prog_8_method_20_code 12 = .ok (.invokevirtual 76, 3) := by decide +kernel
theorem d_Reader_takeSign_15 : decode prog_8_method_20_code 15 = .ok (.iload_n 1, 1) := by decide +kernel
theorem d_Reader_takeSign_16 : decode prog_8_method_20_code 16 = .ok (.if_icmp .eq 5, 3) := by decide +kernel
theorem d_Reader_takeSign_19 : decode prog_8_method_20_code 19 = .ok (.iconst 0, 1) := by decide +kernel
theorem d_Reader_takeSign_20 : decode prog_8_method_20_code 20 = .ok (.ireturn, 1) := by decide +kernel
theorem d_Reader_takeSign_21 : decode prog_8_method_20_code 21 = .ok (.aload_n 0, 1) := by decide +kernel
theorem d_Reader_takeSign_22 : decode prog_8_method_20_code 22 = .ok (.dup, 1) := by decide +kernel
theorem d_Reader_takeSign_23 : decode prog_8_method_20_code 23 = .ok (.getfield 70, 3) := by decide +kernel
theorem d_Reader_takeSign_26 : decode prog_8_method_20_code 26 = .ok (.iconst 1, 1) := by decide +kernel
theorem d_Reader_takeSign_27 : decode prog_8_method_20_code 27 = .ok (.iadd, 1) := by decide +kernel
theorem d_Reader_takeSign_28 : decode prog_8_method_20_code 28 = .ok (.putfield 70, 3) := by decide +kernel
theorem d_Reader_takeSign_31 : decode prog_8_method_20_code 31 = .ok (.iconst 1, 1) := by decide +kernel
theorem d_Reader_takeSign_32 : decode prog_8_method_20_code 32 = .ok (.ireturn, 1) := by decide +kernel
theorem d_Reader_takeString_0 : decode prog_8_method_10_code 0 = .ok (.aload_n 0, 1) := by decide +kernel
theorem d_Reader_takeString_1 : decode prog_8_method_10_code 1 = .ok (.invokevirtual 80, 3) := by decide +kernel
theorem d_Reader_takeString_4 : decode prog_8_method_10_code 4 = .ok (.lstore_n 1, 1) := by decide +kernel
theorem d_Reader_takeString_5 : decode prog_8_method_10_code 5 = .ok (.lload_n 1, 1) := by decide +kernel
theorem d_Reader_takeString_6 : decode prog_8_method_10_code 6 = .ok (.lconst 0, 1) := by decide +kernel
theorem d_Reader_takeString_7 : decode prog_8_method_10_code 7 = .ok (.lcmp, 1) := by decide +kernel
theorem d_Reader_takeString_8 : decode prog_8_method_10_code 8 = .ok (.ifCond .eq 28, 3) := by decide +kernel
theorem d_Reader_takeString_11 : decode prog_8_method_10_code 11 = .ok (.aload_n 0, 1) := by decide +kernel
theorem d_Reader_takeString_12 : decode prog_8_method_10_code 12 = .ok (.bipush 61, 2) := by decide +kernel
theorem d_Reader_takeString_14 : decode prog_8_method_10_code 14 = .ok (.invokevirtual 84, 3) := by decide +kernel
theorem d_Reader_takeString_17 : decode prog_8_method_10_code 17 = .ok (.ifCond .eq 19, 3) := by decide +kernel
theorem d_Reader_takeString_20 : decode prog_8_method_10_code 20 = .ok (.aload_n 0, 1) := by decide +kernel
theorem d_Reader_takeString_21 : decode prog_8_method_10_code 21 = .ok (.invokevirtual 100, 3) := by decide +kernel
theorem d_Reader_takeString_24 : decode prog_8_method_10_code 24 = .ok (.ifCond .eq 12, 3) := by decide +kernel
theorem d_Reader_takeString_27 : decode prog_8_method_10_code 27 = .ok (.aload_n 0, 1) := by decide +kernel
theorem d_Reader_takeString_28 : decode prog_8_method_10_code 28 = .ok (.bipush 125, 2) := by decide +kernel
theorem d_Reader_takeString_30 : decode prog_8_method_10_code 30 = .ok (.invokevirtual 84, 3) := by decide +kernel
theorem d_Reader_takeString_33 : decode prog_8_method_10_code 33 = .ok (.ifCond .ne 5, 3) := by decide +kernel
theorem d_Reader_takeString_36 : decode prog_8_method_10_code 36 = .ok (.iconst 0, 1) := by decide +kernel
theorem d_Reader_takeString_37 : decode prog_8_method_10_code 37 = .ok (.ireturn, 1) := by decide +kernel
theorem d_Reader_takeString_38 : decode prog_8_method_10_code 38 = .ok (.aload_n 0, 1) := by decide +kernel
theorem d_Reader_takeString_39 : decode prog_8_method_10_code 39 = .ok (.lload_n 1, 1) := by decide +kernel
theorem d_Reader_takeString_40 : decode prog_8_method_10_code 40 = .ok (.invokevirtual 103, 3) := by decide +kernel
theorem d_Reader_takeString_43 : decode prog_8_method_10_code 43 = .ok (.iconst 1, 1) := by decide +kernel
theorem d_Reader_takeString_44 : decode prog_8_method_10_code 44 = .ok (.ireturn, 1) := by decide +kernel
theorem d_Reader_takeValue_0 : decode prog_8_method_12_code 0 = .ok (.aload_n 0, 1) := by decide +kernel
theorem d_Reader_takeValue_1 : decode prog_8_method_12_code 1 = .ok (.getfield 39, 3) := by decide +kernel
theorem d_Reader_takeValue_4 : decode prog_8_method_12_code 4 = .ok (.invokevirtual 58, 3) := by decide +kernel
theorem d_Reader_takeValue_7 : decode prog_8_method_12_code 7 = .ok (.aload_n 0, 1) := by decide +kernel
theorem d_Reader_takeValue_8 : decode prog_8_method_12_code 8 = .ok (.iconst 0, 1) := by decide +kernel
theorem d_Reader_takeValue_9 : decode prog_8_method_12_code 9 = .ok (.putfield 124, 3) := by decide +kernel
theorem d_Reader_takeValue_12 : decode prog_8_method_12_code 12 = .ok (.aload_n 0, 1) := by decide +kernel
theorem d_Reader_takeValue_13 : decode prog_8_method_12_code 13 = .ok (.iconst 0, 1) := by decide +kernel
theorem d_Reader_takeValue_14 : decode prog_8_method_12_code 14 = .ok (.putfield 128, 3) := by decide +kernel
theorem d_Reader_takeValue_17 : decode prog_8_method_12_code 17 = .ok (.iconst 1, 1) := by decide +kernel
theorem d_Reader_takeValue_18 : decode prog_8_method_12_code 18 = .ok (.istore_n 1, 1) := by decide +kernel
theorem d_Reader_takeValue_19 : decode prog_8_method_12_code 19 = .ok (.iconst 0, 1) := by decide +kernel
theorem d_Reader_takeValue_20 : decode prog_8_method_12_code 20 = .ok (.istore_n 2, 1) := by decide +kernel
theorem d_Reader_takeValue_21 : decode prog_8_method_12_code 21 = .ok (.iload_n 2, 1) := by decide +kernel
theorem d_Reader_takeValue_22 : decode prog_8_method_12_code 22 = .ok (.sipush 320, 3) := by decide +kernel
theorem d_Reader_takeValue_25 : decode prog_8_method_12_code 25 = .ok (.if_icmp .ge 33, 3) := by decide +kernel
theorem d_Reader_takeValue_28 : decode prog_8_method_12_code 28 = .ok (.iload_n 1, 1) := by decide +kernel
theorem d_Reader_takeValue_29 : decode prog_8_method_12_code 29 = .ok (.ifCond .eq 29, 3) := by decide +kernel
theorem d_Reader_takeValue_32 : decode prog_8_method_12_code 32 = .ok (.aload_n 0, 1) := by decide +kernel
theorem d_Reader_takeValue_33 : decode prog_8_method_12_code 33 = .ok (.invokevirtual 131, 3) := by decide +kernel
theorem d_Reader_takeValue_36 : decode prog_8_method_12_code 36 = .ok (.ifCond .ne 5, 3) := by decide +kernel
theorem d_Reader_takeValue_39 : decode prog_8_method_12_code 39 = .ok (.iconst 0, 1) := by decide +kernel
theorem d_Reader_takeValue_40 : decode prog_8_method_12_code 40 = .ok (.ireturn, 1) := by decide +kernel
theorem d_Reader_takeValue_41 : decode prog_8_method_12_code 41 = .ok (.aload_n 0, 1) := by decide +kernel
theorem d_Reader_takeValue_42 : decode prog_8_method_12_code 42 = .ok (.invokevirtual 134, 3) := by decide +kernel
theorem d_Reader_takeValue_45 : decode prog_8_method_12_code 45 = .ok (.aload_n 0, 1) := by decide +kernel
theorem d_Reader_takeValue_46 : decode prog_8_method_12_code 46 = .ok (.bipush 35, 2) := by decide +kernel
theorem d_Reader_takeValue_48 : decode prog_8_method_12_code 48 = .ok (.invokevirtual 84, 3) := by decide +kernel
theorem d_Reader_takeValue_51 : decode prog_8_method_12_code 51 = .ok (.istore_n 1, 1) := by decide +kernel
theorem d_Reader_takeValue_52 : decode prog_8_method_12_code 52 = .ok (.iinc 2 1, 3) := by decide +kernel
theorem d_Reader_takeValue_55 : decode prog_8_method_12_code 55 = .ok (.goto (-34), 3) := by decide +kernel
theorem d_Reader_takeValue_58 : decode prog_8_method_12_code 58 = .ok (.aload_n 0, 1) := by decide +kernel
theorem d_Reader_takeValue_59 : decode prog_8_method_12_code 59 = .ok (.getfield 128, 3) := by decide +kernel
theorem d_Reader_takeValue_62 : decode prog_8_method_12_code 62 = .ok (.ifCond .eq 13, 3) := by decide +kernel
theorem d_Reader_takeValue_65 : decode prog_8_method_12_code 65 = .ok (.aload_n 0, 1) := by decide +kernel
theorem d_Reader_takeValue_66 : decode prog_8_method_12_code 66 = .ok (.getfield 15, 3) := by decide +kernel
theorem d_Reader_takeValue_69 : decode prog_8_method_12_code 69 = .ok (.iconst 3, 1) := by decide +kernel
theorem d_Reader_takeValue_70 : decode prog_8_method_12_code 70 = .ok (.dup2, 1) := by decide +kernel
theorem d_Reader_takeValue_71 : decode prog_8_method_12_code 71 = .ok (.iaload, 1) := by decide +kernel
theorem d_Reader_takeValue_72 : decode prog_8_method_12_code 72 = .ok (.iconst 1, 1) := by decide +kernel
theorem d_Reader_takeValue_73 : decode prog_8_method_12_code 73 = .ok (.iadd, 1) := by decide +kernel
theorem d_Reader_takeValue_74 : decode prog_8_method_12_code 74 = .ok (.iastore, 1) := by decide +kernel
theorem d_Reader_takeValue_75 : decode prog_8_method_12_code 75 = .ok (.iconst 1, 1) := by decide +kernel
theorem d_Reader_takeValue_76 : decode prog_8_method_12_code 76 = .ok (.ireturn, 1) := by decide +kernel
theorem d_Reader_takePiece_0 : decode prog_8_method_13_code 0 = .ok (.aload_n 0, 1) := by decide +kernel
theorem d_Reader_takePiece_1 : decode prog_8_method_13_code 1 = .ok (.invokevirtual 137, 3) := by decide +kernel
theorem d_Reader_takePiece_4 : decode prog_8_method_13_code 4 = .ok (.aload_n 0, 1) := by decide +kernel
theorem d_Reader_takePiece_5 : decode prog_8_method_13_code 5 = .ok (.getfield 24, 3) := by decide +kernel
theorem d_Reader_takePiece_8 : decode prog_8_method_13_code 8 = .ok (.aload_n 0, 1) := by decide +kernel
theorem d_Reader_takePiece_9 : decode prog_8_method_13_code 9 = .ok (.getfield 70, 3) := by decide +kernel
theorem d_Reader_takePiece_12 : decode prog_8_method_13_code 12 = .ok (.invokevirtual 76, 3) := by decide +kernel
theorem d_Reader_takePiece_15 : decode prog_8_method_13_code 15 = .ok (.istore_n 1, 1) := by decide +kernel
theorem d_Reader_takePiece_16 : decode prog_8_method_13_code 16 = .ok (.iload_n 1, 1) := by decide +kernel
theorem d_Reader_takePiece_17 : decode prog_8_method_13_code 17 = .ok (.bipush 123, 2) := by decide +kernel
theorem d_Reader_takePiece_19 : decode prog_8_method_13_code 19 = .ok (.if_icmp .ne 8, 3) := by decide +kernel
theorem d_Reader_takePiece_22 : decode prog_8_method_13_code 22 = .ok (.aload_n 0, 1) := by decide +kernel
theorem d_Reader_takePiece_23 : decode prog_8_method_13_code 23 = .ok (.invokevirtual 140, 3) := by decide +kernel
theorem d_Reader_takePiece_26 : decode prog_8_method_13_code 26 = .ok (.ireturn, 1) := by decide +kernel
theorem d_Reader_takePiece_27 : decode prog_8_method_13_code 27 = .ok (.iload_n 1, 1) := by decide +kernel
theorem d_Reader_takePiece_28 : decode prog_8_method_13_code 28 = .ok (.bipush 34, 2) := by decide +kernel
theorem d_Reader_takePiece_30 : decode prog_8_method_13_code 30 = .ok (.if_icmp .ne 8, 3) := by decide +kernel
theorem d_Reader_takePiece_33 : decode prog_8_method_13_code 33 = .ok (.aload_n 0, 1) := by decide +kernel
theorem d_Reader_takePiece_34 : decode prog_8_method_13_code 34 = .ok (.invokevirtual 143, 3) := by decide +kernel
theorem d_Reader_takePiece_37 : decode prog_8_method_13_code 37 = .ok (.ireturn, 1) := by decide +kernel
theorem d_Reader_takePiece_38 : decode prog_8_method_13_code 38 = .ok (.iload_n 1, 1) := by decide +kernel
theorem d_Reader_takePiece_39 : decode prog_8_method_13_code 39 = .ok (.invokestatic 146, 3) := by decide +kernel
theorem d_Reader_takePiece_42 : decode prog_8_method_13_code 42 = .ok (.ifCond .eq 9, 3) := by decide +kernel
theorem d_Reader_takePiece_45 : decode prog_8_method_13_code 45 = .ok (.aload_n 0, 1) := by decide +kernel
theorem d_Reader_takePiece_46 : decode prog_8_method_13_code 46 = .ok (.invokevirtual 149, 3) := by decide +kernel
theorem d_Reader_takePiece_49 : decode prog_8_method_13_code 49 = .ok (.iconst 1, 1) := by decide +kernel
theorem d_Reader_takePiece_50 : decode prog_8_method_13_code 50 = .ok (.ireturn, 1) := by decide +kernel
theorem d_Reader_takePiece_51 : decode prog_8_method_13_code 51 = .ok (.aload_n 0, 1) := by decide +kernel
theorem d_Reader_takePiece_52 : decode prog_8_method_13_code 52 = .ok (.invokevirtual 80, 3) := by decide +kernel
theorem d_Reader_takePiece_55 : decode prog_8_method_13_code 55 = .ok (.lstore_n 2, 1) := by decide +kernel
theorem d_Reader_takePiece_56 : decode prog_8_method_13_code 56 = .ok (.lload_n 2, 1) := by decide +kernel
theorem d_Reader_takePiece_57 : decode prog_8_method_13_code 57 = .ok (.lconst 0, 1) := by decide +kernel
theorem d_Reader_takePiece_58 : decode prog_8_method_13_code 58 = .ok (.lcmp, 1) := by decide +kernel
theorem d_Reader_takePiece_59 : decode prog_8_method_13_code 59 = .ok (.ifCond .ne 5, 3) := by decide +kernel
theorem d_Reader_takePiece_62 : decode prog_8_method_13_code 62 = .ok (.iconst 0, 1) := by decide +kernel
theorem d_Reader_takePiece_63 : decode prog_8_method_13_code 63 = .ok (.ireturn, 1) := by decide +kernel
theorem d_Reader_takePiece_64 : decode prog_8_method_13_code 64 = .ok (.aload_n 0, 1) := by decide +kernel
theorem d_Reader_takePiece_65 : decode prog_8_method_13_code 65 = .ok (.lload_n 2, 1) := by decide +kernel
theorem d_Reader_takePiece_66 : decode prog_8_method_13_code 66 = .ok (.invokevirtual 152, 3) := by decide +kernel
theorem d_Reader_takePiece_69 : decode prog_8_method_13_code 69 = .ok (.iconst 1, 1) := by decide +kernel
theorem d_Reader_takePiece_70 : decode prog_8_method_13_code 70 = .ok (.ireturn, 1) := by decide +kernel
theorem d_Reader_takeBraced_0 : decode prog_8_method_14_code 0 = .ok (.iconst 0, 1) := by decide +kernel
theorem d_Reader_takeBraced_1 : decode prog_8_method_14_code 1 = .ok (.istore_n 1, 1) := by decide +kernel
theorem d_Reader_takeBraced_2 : decode prog_8_method_14_code 2 = .ok (.aload_n 0, 1) := by decide +kernel
theorem d_Reader_takeBraced_3 : decode prog_8_method_14_code 3 = .ok (.getfield 70, 3) := by decide +kernel
theorem d_Reader_takeBraced_6 : decode prog_8_method_14_code 6 = .ok (.istore_n 2, 1) := by decide +kernel
theorem d_Reader_takeBraced_7 : decode prog_8_method_14_code 7 = .ok (.iload_n 2, 1) := by decide +kernel
theorem d_Reader_takeBraced_8 : decode prog_8_method_14_code 8 = .ok (.aload_n 0, 1) := by decide +kernel
theorem d_Reader_takeBraced_9 : decode prog_8_method_14_code 9 = .ok (.getfield 24, 3) := by decide +kernel
theorem d_Reader_takeBraced_12 : decode prog_8_method_14_code 12 = .ok (.invokevirtual 50, 3) := by decide +kernel
theorem d_Reader_takeBraced_15 : decode prog_8_method_14_code 15 = .ok (.if_icmp .ge 46, 3) := by decide +kernel
theorem d_Reader_takeBraced_18 : decode prog_8_method_14_code 18 = .ok (.iload_n 1, 1) := by decide +kernel
theorem d_Reader_takeBraced_19 : decode prog_8_method_14_code 19 = .ok (.aload_n 0, 1) := by decide +kernel
theorem d_Reader_takeBraced_20 : decode prog_8_method_14_code 20 = .ok (.getfield 24, 3) := by decide +kernel
theorem d_Reader_takeBraced_23 : decode prog_8_method_14_code 23 = .ok (.iload_n 2, 1) := by decide +kernel
theorem d_Reader_takeBraced_24 : decode prog_8_method_14_code 24 = .ok (.invokevirtual 76, 3) := by decide +kernel
theorem d_Reader_takeBraced_27 : decode prog_8_method_14_code 27 = .ok (.invokestatic 155, 3) := by decide +kernel
theorem d_Reader_takeBraced_30 : decode prog_8_method_14_code 30 = .ok (.istore_n 1, 1) := by decide +kernel
theorem d_Reader_takeBraced_31 : decode prog_8_method_14_code 31 = .ok (.iload_n 1, 1) := by decide +kernel
theorem d_Reader_takeBraced_32 : decode prog_8_method_14_code 32 = .ok (.ifCond .ne 23, 3) := by decide +kernel
theorem d_Reader_takeBraced_35 : decode prog_8_method_14_code 35 = .ok (.aload_n 0, 1) := by decide +kernel
theorem d_Reader_takeBraced_36 : decode prog_8_method_14_code 36 = .ok (.aload_n 0, 1) := by decide +kernel
theorem d_Reader_takeBraced_37 : decode prog_8_method_14_code 37 = .ok (.getfield 70, 3) := by decide +kernel
theorem d_Reader_takeBraced_40 : decode prog_8_method_14_code 40 = .ok (.iconst 1, 1) := by decide +kernel
theorem d_Reader_takeBraced_41 : decode prog_8_method_14_code 41 = .ok (.iadd, 1) := by decide +kernel
theorem d_Reader_takeBraced_42 : decode prog_8_method_14_code 42 = .ok (.iload_n 2, 1) := by decide +kernel
theorem d_Reader_takeBraced_43 : decode prog_8_method_14_code 43 = .ok (.invokevirtual 159, 3) := by decide +kernel
theorem d_Reader_takeBraced_46 : decode prog_8_method_14_code 46 = .ok (.aload_n 0, 1) := by decide +kernel
theorem d_Reader_takeBraced_47 : decode prog_8_method_14_code 47 = .ok (.iload_n 2, 1) := by decide +kernel
theorem d_Reader_takeBraced_48 : decode prog_8_method_14_code 48 = .ok (.iconst 1, 1) := by decide +kernel
theorem d_Reader_takeBraced_49 : decode prog_8_method_14_code 49 = .ok (.iadd, 1) := by decide +kernel
theorem d_Reader_takeBraced_50 : decode prog_8_method_14_code 50 = .ok (.putfield 70, 3) := by decide +kernel
theorem d_Reader_takeBraced_53 : decode prog_8_method_14_code 53 = .ok (.iconst 1, 1) := by decide +kernel
theorem d_Reader_takeBraced_54 : decode prog_8_method_14_code 54 = .ok (.ireturn, 1) := by decide +kernel
theorem d_Reader_takeBraced_55 : decode prog_8_method_14_code 55 = .ok (.iinc 2 1, 3) := by decide +kernel
theorem d_Reader_takeBraced_58 : decode prog_8_method_14_code 58 = .ok (.goto (-51), 3) := by decide +kernel
theorem d_Reader_takeBraced_61 : decode prog_8_method_14_code 61 = .ok (.aload_n 0, 1) := by decide +kernel
theorem d_Reader_takeBraced_62 : decode prog_8_method_14_code 62 = .ok (.aload_n 0, 1) := by decide +kernel
theorem d_Reader_takeBraced_63 : decode prog_8_method_14_code 63 = .ok (.getfield 24, 3) := by decide +kernel
theorem d_Reader_takeBraced_66 : decode prog_8_method_14_code 66 = .ok (.invokevirtual 50, 3) := by decide +kernel
theorem d_Reader_takeBraced_69 : decode prog_8_method_14_code 69 = .ok (.putfield 70, 3) := by decide +kernel
theorem d_Reader_takeBraced_72 : decode prog_8_method_14_code 72 = .ok (.iconst 0, 1) := by decide +kernel
theorem d_Reader_takeBraced_73 : decode prog_8_method_14_code 73 = .ok (.ireturn, 1) := by decide +kernel
theorem d_Reader_setPiece_0 : decode prog_8_method_18_code 0 = .ok (.aload_n 0, 1) := by decide +kernel
theorem d_Reader_setPiece_1 : decode prog_8_method_18_code 1 = .ok (.aload_n 0, 1) := by decide +kernel
theorem d_Reader_setPiece_2 : decode prog_8_method_18_code 2 = .ok (.getfield 24, 3) := by decide +kernel
theorem d_Reader_setPiece_5 : decode prog_8_method_18_code 5 = .ok (.putfield 28, 3) := by decide +kernel
theorem d_Reader_setPiece_8 : decode prog_8_method_18_code 8 = .ok (.aload_n 0, 1) := by decide +kernel
theorem d_Reader_setPiece_9 : decode prog_8_method_18_code 9 = .ok (.iload_n 1, 1) := by decide +kernel
theorem d_Reader_setPiece_10 : decode prog_8_method_18_code 10 = .ok (.putfield 170, 3) := by decide +kernel
theorem d_Reader_setPiece_13 : decode prog_8_method_18_code 13 = .ok (.aload_n 0, 1) := by decide +kernel
theorem d_Reader_setPiece_14 : decode prog_8_method_18_code 14 = .ok (.iload_n 2, 1) := by decide +kernel
theorem d_Reader_setPiece_15 : decode prog_8_method_18_code 15 = .ok (.putfield 167, 3) := by decide +kernel
theorem d_Reader_setPiece_18 : decode prog_8_method_18_code 18 = .ok (.return_, 1) := by decide +kernel
theorem d_Reader_takeQuoted_0 : decode prog_8_method_15_code 0 = .ok (.iconst 0, 1) := by decide +kernel
theorem d_Reader_takeQuoted_1 : decode prog_8_method_15_code 1 = .ok (.istore_n 1, 1) := by decide +kernel
theorem d_Reader_takeQuoted_2 : decode prog_8_method_15_code 2 = .ok (.aload_n 0, 1) := by decide +kernel
theorem d_Reader_takeQuoted_3 : decode prog_8_method_15_code 3 = .ok (.getfield 70, 3) := by decide +kernel
theorem d_Reader_takeQuoted_6 : decode prog_8_method_15_code 6 = .ok (.iconst 1, 1) := by decide +kernel
theorem d_Reader_takeQuoted_7 : decode prog_8_method_15_code 7 = .ok (.iadd, 1) := by decide +kernel
theorem d_Reader_takeQuoted_8 : decode prog_8_method_15_code 8 = .ok (.istore_n 2, 1) := by decide +kernel
theorem d_Reader_takeQuoted_9 : decode prog_8_method_15_code 9 = .ok (.iload_n 2, 1) := by decide +kernel
theorem d_Reader_takeQuoted_10 : decode prog_8_method_15_code 10 = .ok (.aload_n 0, 1) := by decide +kernel
theorem d_Reader_takeQuoted_11 : decode prog_8_method_15_code 11 = .ok (.getfield 24, 3) := by decide +kernel
theorem d_Reader_takeQuoted_14 : decode prog_8_method_15_code 14 = .ok (.invokevirtual 50, 3) := by decide +kernel
theorem d_Reader_takeQuoted_17 : decode prog_8_method_15_code 17 = .ok (.if_icmp .ge 71, 3) := by decide +kernel
theorem d_Reader_takeQuoted_20 : decode prog_8_method_15_code 20 = .ok (.aload_n 0, 1) := by decide +kernel
theorem d_Reader_takeQuoted_21 : decode prog_8_method_15_code 21 = .ok (.getfield 24, 3) := by decide +kernel
theorem d_Reader_takeQuoted_24 : decode prog_8_method_15_code 24 = .ok (.iload_n 2, 1) := by decide +kernel
theorem d_Reader_takeQuoted_25 : decode prog_8_method_15_code 25 = .ok (.invokevirtual 76, 3) := by decide +kernel
theorem d_Reader_takeQuoted_28 : decode prog_8_method_15_code 28 = .ok (.istore_n 3, 1) := by decide +kernel
theorem d_Reader_takeQuoted_29 : decode prog_8_method_15_code 29 = .ok (.iload_n 1, 1) := by decide +kernel
theorem d_Reader_takeQuoted_30 : decode prog_8_method_15_code 30 = .ok (.ifCond .ne 29, 3) := by decide +kernel
theorem d_Reader_takeQuoted_33 : decode prog_8_method_15_code 33 = .ok (.iload_n 3, 1) := by decide +kernel
theorem d_Reader_takeQuoted_34 : decode prog_8_method_15_code 34 = .ok (.bipush 34, 2) := by decide +kernel
theorem d_Reader_takeQuoted_36 : decode prog_8_method_15_code 36 = .ok (.if_icmp .ne 23, 3) := by decide +kernel
theorem d_Reader_takeQuoted_39 : decode prog_8_method_15_code 39 = .ok (.aload_n 0, 1) := by decide +kernel
theorem d_Reader_takeQuoted_40 : decode prog_8_method_15_code 40 = .ok (.aload_n 0, 1) := by decide +kernel
theorem d_Reader_takeQuoted_41 : decode prog_8_method_15_code 41 = .ok (.getfield 70, 3) := by decide +kernel
theorem d_Reader_takeQuoted_44 : decode prog_8_method_15_code 44 = .ok (.iconst 1, 1) := by decide +kernel
theorem d_Reader_takeQuoted_45 : decode prog_8_method_15_code 45 = .ok (.iadd, 1) := by decide +kernel
theorem d_Reader_takeQuoted_46 : decode prog_8_method_15_code 46 = .ok (.iload_n 2, 1) := by decide +kernel
theorem d_Reader_takeQuoted_47 : decode prog_8_method_15_code 47 = .ok (.invokevirtual 159, 3) := by decide +kernel
theorem d_Reader_takeQuoted_50 : decode prog_8_method_15_code 50 = .ok (.aload_n 0, 1) := by decide +kernel
theorem d_Reader_takeQuoted_51 : decode prog_8_method_15_code 51 = .ok (.iload_n 2, 1) := by decide +kernel
theorem d_Reader_takeQuoted_52 : decode prog_8_method_15_code 52 = .ok (.iconst 1, 1) := by decide +kernel
theorem d_Reader_takeQuoted_53 : decode prog_8_method_15_code 53 = .ok (.iadd, 1) := by decide +kernel
theorem d_Reader_takeQuoted_54 : decode prog_8_method_15_code 54 = .ok (.putfield 70, 3) := by decide +kernel
theorem d_Reader_takeQuoted_57 : decode prog_8_method_15_code 57 = .ok (.iconst 1, 1) := by decide +kernel
theorem d_Reader_takeQuoted_58 : decode prog_8_method_15_code 58 = .ok (.ireturn, 1) := by decide +kernel
theorem d_Reader_takeQuoted_59 : decode prog_8_method_15_code 59 = .ok (.iload_n 1, 1) := by decide +kernel
theorem d_Reader_takeQuoted_60 : decode prog_8_method_15_code 60 = .ok (.ifCond .ne 16, 3) := by decide +kernel
theorem d_Reader_takeQuoted_63 : decode prog_8_method_15_code 63 = .ok (.iload_n 3, 1) := by decide +kernel
theorem d_Reader_takeQuoted_64 : decode prog_8_method_15_code 64 = .ok (.bipush 125, 2) := by decide +kernel
theorem d_Reader_takeQuoted_66 : decode prog_8_method_15_code 66 = .ok (.if_icmp .ne 10, 3) := by decide +kernel
theorem d_Reader_takeQuoted_69 : decode prog_8_method_15_code 69 = .ok (.aload_n 0, 1) := by decide +kernel
theorem d_Reader_takeQuoted_70 : decode prog_8_method_15_code 70 = .ok (.iload_n 2, 1) := by decide +kernel
theorem d_Reader_takeQuoted_71 : decode prog_8_method_15_code 71 = .ok (.putfield 70, 3) := by decide +kernel
theorem d_Reader_takeQuoted_74 : decode prog_8_method_15_code 74 = .ok (.iconst 0, 1) := by decide +kernel
theorem d_Reader_takeQuoted_75 : decode prog_8_method_15_code 75 = .ok (.ireturn, 1) := by decide +kernel
theorem d_Reader_takeQuoted_76 : decode prog_8_method_15_code 76 = .ok (.iload_n 1, 1) := by decide +kernel
theorem d_Reader_takeQuoted_77 : decode prog_8_method_15_code 77 = .ok (.iload_n 3, 1) := by decide +kernel
theorem d_Reader_takeQuoted_78 : decode prog_8_method_15_code 78 = .ok (.invokestatic 155, 3) := by decide +kernel
theorem d_Reader_takeQuoted_81 : decode prog_8_method_15_code 81 = .ok (.istore_n 1, 1) := by decide +kernel
theorem d_Reader_takeQuoted_82 : decode prog_8_method_15_code 82 = .ok (.iinc 2 1, 3) := by decide +kernel
theorem d_Reader_takeQuoted_85 : decode prog_8_method_15_code 85 = .ok (.goto (-76), 3) := by decide +kernel
theorem d_Reader_takeQuoted_88 : decode prog_8_method_15_code 88 = .ok (.aload_n 0, 1) := by decide +kernel
theorem d_Reader_takeQuoted_89 : decode prog_8_method_15_code 89 = .ok (.aload_n 0, 1) := by decide +kernel
theorem d_Reader_takeQuoted_90 : decode prog_8_method_15_code 90 = .ok (.getfield 24, 3) := by decide +kernel
theorem d_Reader_takeQuoted_93 : decode prog_8_method_15_code 93 = .ok (.invokevirtual 50, 3) := by decide +kernel
theorem d_Reader_takeQuoted_96 : decode prog_8_method_15_code 96 = .ok (.putfield 70, 3) := by decide +kernel
theorem d_Reader_takeQuoted_99 : decode prog_8_method_15_code 99 = .ok (.iconst 0, 1) := by decide +kernel
theorem d_Reader_takeQuoted_100 : decode prog_8_method_15_code 100 = .ok (.ireturn, 1) := by decide +kernel
theorem d_Reader_takeDigits_0 : decode prog_8_method_16_code 0 = .ok (.aload_n 0, 1) := by decide +kernel
theorem d_Reader_takeDigits_1 : decode prog_8_method_16_code 1 = .ok (.getfield 70, 3) := by decide +kernel
theorem d_Reader_takeDigits_4 : decode prog_8_method_16_code 4 = .ok (.istore_n 1, 1) := by decide +kernel
theorem d_Reader_takeDigits_5 : decode prog_8_method_16_code 5 = .ok (.iconst 0, 1) := by decide +kernel
theorem d_Reader_takeDigits_6 : decode prog_8_method_16_code 6 = .ok (.istore_n 2, 1) := by decide +kernel
theorem d_Reader_takeDigits_7 : decode prog_8_method_16_code 7 = .ok (.iload_n 2, 1) := by decide +kernel
theorem d_Reader_takeDigits_8 : decode prog_8_method_16_code 8 = .ok (.bipush 9, 2) := by decide +kernel
theorem d_Reader_takeDigits_10 : decode prog_8_method_16_code 10 = .ok (.if_icmp .ge 36, 3) := by decide +kernel
theorem d_Reader_takeDigits_13 : decode prog_8_method_16_code 13 = .ok (.aload_n 0, 1) := by decide +kernel
theorem d_Reader_takeDigits_14 : decode prog_8_method_16_code 14 = .ok (.getfield 24, 3) := by decide +kernel
theorem d_Reader_takeDigits_17 : decode prog_8_method_16_code 17 = .ok (.aload_n 0, 1) := by decide +kernel
theorem d_Reader_takeDigits_18 : decode prog_8_method_16_code 18 = .ok (.getfield 70, 3) := by decide +kernel
theorem d_Reader_takeDigits_21 : decode prog_8_method_16_code 21 = .ok (.invokevirtual 76, 3) := by decide +kernel
theorem d_Reader_takeDigits_24 : decode prog_8_method_16_code 24 = .ok (.invokestatic 146, 3) := by decide +kernel
theorem d_Reader_takeDigits_27 : decode prog_8_method_16_code 27 = .ok (.ifCond .eq 19, 3) := by decide +kernel
theorem d_Reader_takeDigits_30 : decode prog_8_method_16_code 30 = .ok (.aload_n 0, 1) := by decide +kernel
theorem d_Reader_takeDigits_31 : decode prog_8_method_16_code 31 = .ok (.dup, 1) := by decide +kernel
theorem d_Reader_takeDigits_32 : decode prog_8_method_16_code 32 = .ok (.getfield 70, 3) := by decide +kernel
theorem d_Reader_takeDigits_35 : decode prog_8_method_16_code 35 = .ok (.iconst 1, 1) := by decide +kernel
theorem d_Reader_takeDigits_36 : decode prog_8_method_16_code 36 = .ok (.iadd, 1) := by decide +kernel
theorem d_Reader_takeDigits_37 : decode prog_8_method_16_code 37 = .ok (.putfield 70, 3) := by decide +kernel
theorem d_Reader_takeDigits_40 : decode prog_8_method_16_code 40 = .ok (.iinc 2 1, 3) := by decide +kernel
theorem d_Reader_takeDigits_43 : decode prog_8_method_16_code 43 = .ok (.goto (-36), 3) := by decide +kernel
theorem d_Reader_takeDigits_46 : decode prog_8_method_16_code 46 = .ok (.aload_n 0, 1) := by decide +kernel
theorem d_Reader_takeDigits_47 : decode prog_8_method_16_code 47 = .ok (.iload_n 1, 1) := by decide +kernel
theorem d_Reader_takeDigits_48 : decode prog_8_method_16_code 48 = .ok (.aload_n 0, 1) := by decide +kernel
theorem d_Reader_takeDigits_49 : decode prog_8_method_16_code 49 = .ok (.getfield 70, 3) := by decide +kernel
theorem d_Reader_takeDigits_52 : decode prog_8_method_16_code 52 = .ok (.invokevirtual 159, 3) := by decide +kernel
theorem d_Reader_takeDigits_55 : decode prog_8_method_16_code 55 = .ok (.return_, 1) := by decide +kernel
theorem d_Reader_takeMeaning_0 : decode prog_8_method_17_code 0 = .ok (.aload_n 0, 1) := by decide +kernel
theorem d_Reader_takeMeaning_1 : decode prog_8_method_17_code 1 = .ok (.iconst 0, 1) := by decide +kernel
theorem d_Reader_takeMeaning_2 : decode prog_8_method_17_code 2 = .ok (.iconst 0, 1) := by decide +kernel
theorem d_Reader_takeMeaning_3 : decode prog_8_method_17_code 3 = .ok (.invokevirtual 159, 3) := by decide +kernel
theorem d_Reader_takeMeaning_6 : decode prog_8_method_17_code 6 = .ok (.aload_n 0, 1) := by decide +kernel
theorem d_Reader_takeMeaning_7 : decode prog_8_method_17_code 7 = .ok (.lload_n 1, 1) := by decide +kernel
theorem d_Reader_takeMeaning_8 : decode prog_8_method_17_code 8 = .ok (.invokevirtual 163, 3) := by decide +kernel
theorem d_Reader_takeMeaning_11 : decode prog_8_method_17_code 11 = .ok (.istore_n 3, 1) := by decide +kernel
theorem d_Reader_takeMeaning_12 : decode prog_8_method_17_code 12 = .ok (.iload_n 3, 1) := by decide +kernel
theorem d_Reader_takeMeaning_13 : decode prog_8_method_17_code 13 = .ok (.ifCond .ge 14, 3) := by decide +kernel
theorem d_Reader_takeMeaning_16 : decode prog_8_method_17_code 16 = .ok (.aload_n 0, 1) := by decide +kernel
theorem d_Reader_takeMeaning_17 : decode prog_8_method_17_code 17 = .ok (.getfield 15, 3) := by decide +kernel
theorem d_Reader_takeMeaning_20 : decode prog_8_method_17_code 20 = .ok (.iconst 2, 1) := by decide +kernel
theorem d_Reader_takeMeaning_21 : decode prog_8_method_17_code 21 = .ok (.dup2, 1) := by decide +kernel
theorem d_Reader_takeMeaning_22 : decode prog_8_method_17_code 22 = .ok (.iaload, 1) := by decide +kernel
theorem d_Reader_takeMeaning_23 : decode prog_8_method_17_code 23 = .ok (.iconst 1, 1) := by decide +kernel
theorem d_Reader_takeMeaning_24 : decode prog_8_method_17_code 24 = .ok (.iadd, 1) := by decide +kernel
theorem d_Reader_takeMeaning_25 : decode prog_8_method_17_code 25 = .ok (.iastore, 1) := by decide +kernel
theorem d_Reader_takeMeaning_26 : decode prog_8_method_17_code 26 = .ok (.return_, 1) := by decide +kernel
theorem d_Reader_takeMeaning_27 : decode prog_8_method_17_code 27 = .ok (.aload_n 0, 1) := by decide +kernel
theorem d_Reader_takeMeaning_28 : decode prog_8_method_17_code 28 = .ok (.aload_n 0, 1) := by decide +kernel
theorem d_Reader_takeMeaning_29 : decode prog_8_method_17_code 29 = .ok (.getfield 35, 3) := by decide +kernel
theorem d_Reader_takeMeaning_32 : decode prog_8_method_17_code 32 = .ok (.iload_n 3, 1) := by decide +kernel
theorem d_Reader_takeMeaning_33 : decode prog_8_method_17_code 33 = .ok (.aaload, 1) := by decide +kernel
theorem d_Reader_takeMeaning_34 : decode prog_8_method_17_code 34 = .ok (.putfield 28, 3) := by decide +kernel
theorem d_Reader_takeMeaning_37 : decode prog_8_method_17_code 37 = .ok (.aload_n 0, 1) := by decide +kernel
theorem d_Reader_takeMeaning_38 : decode prog_8_method_17_code 38 = .ok (.aload_n 0, 1) := by decide +kernel
theorem d_Reader_takeMeaning_39 : decode prog_8_method_17_code 39 = .ok (.getfield 28, 3) := by decide +kernel
theorem d_Reader_takeMeaning_42 : decode prog_8_method_17_code 42 = .ok (.invokevirtual 50, 3) := by decide +kernel
theorem d_Reader_takeMeaning_45 : decode prog_8_method_17_code 45 = .ok (.putfield 167, 3) := by decide +kernel
theorem d_Reader_takeMeaning_48 : decode prog_8_method_17_code 48 = .ok (.return_, 1) := by decide +kernel
theorem d_Reader_findString_0 : decode prog_8_method_24_code 0 = .ok (.iconst 0, 1) := by decide +kernel
theorem d_Reader_findString_1 : decode prog_8_method_24_code 1 = .ok (.istore_n 3, 1) := by decide +kernel
theorem d_Reader_findString_2 : decode prog_8_method_24_code 2 = .ok (.iload_n 3, 1) := by decide +kernel
theorem d_Reader_findString_3 : decode prog_8_method_24_code 3 = .ok (.aload_n 0, 1) := by decide +kernel
theorem d_Reader_findString_4 : decode prog_8_method_24_code 4 = .ok (.getfield 66, 3) := by decide +kernel
theorem d_Reader_findString_7 : decode prog_8_method_24_code 7 = .ok (.if_icmp .ge 22, 3) := by decide +kernel
theorem d_Reader_findString_10 : decode prog_8_method_24_code 10 = .ok (.aload_n 0, 1) := by decide +kernel
theorem d_Reader_findString_11 : decode prog_8_method_24_code 11 = .ok (.getfield 31, 3) := by decide +kernel
theorem d_Reader_findString_14 : decode prog_8_method_24_code 14 = .ok (.iload_n 3, 1) := by decide +kernel
theorem d_Reader_findString_15 : decode prog_8_method_24_code 15 = .ok (.laload, 1) := by decide +kernel
theorem d_Reader_findString_16 : decode prog_8_method_24_code 16 = .ok (.lload_n 1, 1) := by decide +kernel
theorem d_Reader_findString_17 : decode prog_8_method_24_code 17 = .ok (.lcmp, 1) := by decide +kernel
theorem d_Reader_findString_18 : decode prog_8_method_24_code 18 = .ok (.ifCond .ne 5, 3) := by decide +kernel
theorem d_Reader_findString_21 : decode prog_8_method_24_code 21 = .ok (.iload_n 3, 1) := by decide +kernel
theorem d_Reader_findString_22 : decode prog_8_method_24_code 22 = .ok (.ireturn, 1) := by decide +kernel
theorem d_Reader_findString_23 : decode prog_8_method_24_code 23 = .ok (.iinc 3 1, 3) := by decide +kernel
theorem d_Reader_findString_26 : decode prog_8_method_24_code 26 = .ok (.goto (-24), 3) := by decide +kernel
theorem d_Reader_findString_29 : decode prog_8_method_24_code 29 = .ok (.iconst (-1), 1) := by decide +kernel
theorem d_Reader_findString_30 : decode prog_8_method_24_code 30 = .ok (.ireturn, 1) := by decide +kernel
theorem d_Reader_addPiece_0 : decode prog_8_method_22_code 0 = .ok (.aload_n 0, 1) := by decide +kernel
theorem d_Reader_addPiece_1 : decode prog_8_method_22_code 1 = .ok (.getfield 170, 3) := by decide +kernel
theorem d_Reader_addPiece_4 : decode prog_8_method_22_code 4 = .ok (.istore_n 1, 1) := by decide +kernel
theorem d_Reader_addPiece_5 : decode prog_8_method_22_code 5 = .ok (.iload_n 1, 1) := by decide +kernel
theorem d_Reader_addPiece_6 : decode prog_8_method_22_code 6 = .ok (.aload_n 0, 1) := by decide +kernel
theorem d_Reader_addPiece_7 : decode prog_8_method_22_code 7 = .ok (.getfield 167, 3) := by decide +kernel
theorem d_Reader_addPiece_10 : decode prog_8_method_22_code 10 = .ok (.if_icmp .ge 21, 3) := by decide +kernel
theorem d_Reader_addPiece_13 : decode prog_8_method_22_code 13 = .ok (.aload_n 0, 1) := by decide +kernel
theorem d_Reader_addPiece_14 : decode prog_8_method_22_code 14 = .ok (.aload_n 0, 1) := by decide +kernel
theorem d_Reader_addPiece_15 : decode prog_8_method_22_code 15 = .ok (.getfield 28, 3) := by decide +kernel
theorem d_Reader_addPiece_18 : decode prog_8_method_22_code 18 = .ok (.iload_n 1, 1) := by decide +kernel
theorem d_Reader_addPiece_19 : decode prog_8_method_22_code 19 = .ok (.invokevirtual 76, 3) := by decide +kernel
theorem d_Reader_addPiece_22 : decode prog_8_method_22_code 22 = .ok (.invokevirtual 183, 3) := by decide +kernel
theorem d_Reader_addPiece_25 : decode prog_8_method_22_code 25 = .ok (.iinc 1 1, 3) := by decide +kernel
theorem d_Reader_addPiece_28 : decode prog_8_method_22_code 28 = .ok (.goto (-23), 3) := by decide +kernel
theorem d_Reader_addPiece_31 : decode prog_8_method_22_code 31 = .ok (.return_, 1) := by decide +kernel
theorem d_Reader_addToValue_0 : decode prog_8_method_23_code 0 = .ok (.iload_n 1, 1) := by decide +kernel
theorem d_Reader_addToValue_1 : decode prog_8_method_23_code 1 = .ok (.invokestatic 180, 3) := by decide +kernel
theorem d_Reader_addToValue_4 : decode prog_8_method_23_code 4 = .ok (.ifCond .eq 9, 3) := by decide +kernel
theorem d_Reader_addToValue_7 : decode prog_8_method_23_code 7 = .ok (.aload_n 0, 1) := by decide +kernel
theorem d_Reader_addToValue_8 : decode prog_8_method_23_code 8 = .ok (.iconst 1, 1) := by decide +kernel
theorem d_Reader_addToValue_9 : decode prog_8_method_23_code 9 = .ok (.putfield 124, 3) := by decide +kernel
theorem d_Reader_addToValue_12 : decode prog_8_method_23_code 12 = .ok (.return_, 1) := by decide +kernel
theorem d_Reader_addToValue_13 : decode prog_8_method_23_code 13 = .ok (.aload_n 0, 1) := by decide +kernel
theorem d_Reader_addToValue_14 : decode prog_8_method_23_code 14 = .ok (.getfield 124, 3) := by decide +kernel
theorem d_Reader_addToValue_17 : decode prog_8_method_23_code 17 = .ok (.ifCond .eq 22, 3) := by decide +kernel
theorem d_Reader_addToValue_20 : decode prog_8_method_23_code 20 = .ok (.aload_n 0, 1) := by decide +kernel
theorem d_Reader_addToValue_21 : decode prog_8_method_23_code 21 = .ok (.getfield 39, 3) := by decide +kernel
theorem d_Reader_addToValue_24 : decode prog_8_method_23_code 24 = .ok (.invokevirtual 50, 3) := by decide +kernel
theorem d_Reader_addToValue_27 : decode prog_8_method_23_code 27 = .ok (.ifCond .le 12, 3) := by decide +kernel
theorem d_Reader_addToValue_30 : decode prog_8_method_23_code 30 = .ok (.aload_n 0, 1) := by decide +kernel
theorem d_Reader_addToValue_31 : decode prog_8_method_23_code 31 = .ok (.getfield 39, 3) := by decide +kernel
theorem d_Reader_addToValue_34 : decode prog_8_method_23_code 34 = .ok (.bipush 32, 2) := by decide +kernel
theorem d_Reader_addToValue_36 : decode prog_8_method_23_code 36 = .ok (.invokevirtual 54, 3) := by decide +kernel
theorem d_Reader_addToValue_39 : decode prog_8_method_23_code 39 = .ok (.aload_n 0, 1) := by decide +kernel
theorem d_Reader_addToValue_40 : decode prog_8_method_23_code 40 = .ok (.iconst 0, 1) := by decide +kernel
theorem d_Reader_addToValue_41 : decode prog_8_method_23_code 41 = .ok (.putfield 124, 3) := by decide +kernel
theorem d_Reader_addToValue_44 : decode prog_8_method_23_code 44 = .ok (.aload_n 0, 1) := by decide +kernel
theorem d_Reader_addToValue_45 : decode prog_8_method_23_code 45 = .ok (.aload_n 0, 1) := by decide +kernel
theorem d_Reader_addToValue_46 : decode prog_8_method_23_code 46 = .ok (.getfield 128, 3) := by decide +kernel
theorem d_Reader_addToValue_49 : decode prog_8_method_23_code 49 = .ok (.ifCond .ne 13, 3) := by decide +kernel
theorem d_Reader_addToValue_52 : decode prog_8_method_23_code 52 = .ok (.aload_n 0, 1) := by decide +kernel
theorem d_Reader_addToValue_53 : decode prog_8_method_23_code 53 = .ok (.getfield 39, 3) := by decide +kernel
theorem d_Reader_addToValue_56 : decode prog_8_method_23_code 56 = .ok (.invokevirtual 186, 3) := by decide +kernel
theorem d_Reader_addToValue_59 : decode prog_8_method_23_code 59 = .ok (.ifCond .eq 7, 3) := by decide +kernel
theorem d_Reader_addToValue_62 : decode prog_8_method_23_code 62 = .ok (.iconst 1, 1) := by decide +kernel
theorem d_Reader_addToValue_63 : decode prog_8_method_23_code 63 = .ok (.goto 4, 3) := by decide +kernel
theorem d_Reader_addToValue_66 : decode prog_8_method_23_code 66 = .ok (.iconst 0, 1) := by decide +kernel
theorem d_Reader_addToValue_67 : decode prog_8_method_23_code 67 = .ok (.putfield 128, 3) := by decide +kernel
theorem d_Reader_addToValue_70 : decode prog_8_method_23_code 70 = .ok (.aload_n 0, 1) := by decide +kernel
theorem d_Reader_addToValue_71 : decode prog_8_method_23_code 71 = .ok (.getfield 39, 3) := by decide +kernel
theorem d_Reader_addToValue_74 : decode prog_8_method_23_code 74 = .ok (.iload_n 1, 1) := by decide +kernel
theorem d_Reader_addToValue_75 : decode prog_8_method_23_code 75 = .ok (.invokevirtual 54, 3) := by decide +kernel
theorem d_Reader_addToValue_78 : decode prog_8_method_23_code 78 = .ok (.return_, 1) := by decide +kernel
theorem d_Reader_keepString_0 : decode prog_8_method_25_code 0 = .ok (.aload_n 0, 1) := by decide +kernel
theorem d_Reader_keepString_1 : decode prog_8_method_25_code 1 = .ok (.lload_n 1, 1) := by decide +kernel
theorem d_Reader_keepString_2 : decode prog_8_method_25_code 2 = .ok (.invokevirtual 163, 3) := by decide +kernel
