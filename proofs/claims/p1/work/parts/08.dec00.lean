/-! decode rows, printed by a program -/
theorem d_Text_init_0 : decode prog_11_method_1_code 0 = .ok (.aload_n 0, 1) := by decide +kernel
theorem d_Text_init_1 : decode prog_11_method_1_code 1 = .ok (.invokespecial 3, 3) := by decide +kernel
theorem d_Text_init_4 : decode prog_11_method_1_code 4 = .ok (.aload_n 0, 1) := by decide +kernel
theorem d_Text_init_5 : decode prog_11_method_1_code 5 = .ok (.iload_n 1, 1) := by decide +kernel
theorem d_Text_init_6 : decode prog_11_method_1_code 6 = .ok (.newarray .char, 2) := by decide +kernel
theorem d_Text_init_8 : decode prog_11_method_1_code 8 = .ok (.putfield 9, 3) := by decide +kernel
theorem d_Text_init_11 : decode prog_11_method_1_code 11 = .ok (.return_, 1) := by decide +kernel
theorem d_Text_size_0 : decode prog_11_method_2_code 0 = .ok (.aload_n 0, 1) := by decide +kernel
theorem d_Text_size_1 : decode prog_11_method_2_code 1 = .ok (.getfield 15, 3) := by decide +kernel
theorem d_Text_size_4 : decode prog_11_method_2_code 4 = .ok (.ireturn, 1) := by decide +kernel
theorem d_Text_reset_0 : decode prog_11_method_6_code 0 = .ok (.aload_n 0, 1) := by decide +kernel
theorem d_Text_reset_1 : decode prog_11_method_6_code 1 = .ok (.iconst 0, 1) := by decide +kernel
theorem d_Text_reset_2 : decode prog_11_method_6_code 2 = .ok (.putfield 15, 3) := by decide +kernel
theorem d_Text_reset_5 : decode prog_11_method_6_code 5 = .ok (.return_, 1) := by decide +kernel
theorem d_Text_at_0 : decode prog_11_method_4_code 0 = .ok (.iload_n 1, 1) := by decide +kernel
theorem d_Text_at_1 : decode prog_11_method_4_code 1 = .ok (.ifCond .lt 20, 3) := by decide +kernel
theorem d_Text_at_4 : decode prog_11_method_4_code 4 = .ok (.iload_n 1, 1) := by decide +kernel
theorem d_Text_at_5 : decode prog_11_method_4_code 5 = .ok (.aload_n 0, 1) := by decide +kernel
theorem d_Text_at_6 : decode prog_11_method_4_code 6 = .ok (.getfield 15, 3) := by decide +kernel
theorem d_Text_at_9 : decode prog_11_method_4_code 9 = .ok (.if_icmp .ge 12, 3) := by decide +kernel
theorem d_Text_at_12 : decode prog_11_method_4_code 12 = .ok (.aload_n 0, 1) := by decide +kernel
theorem d_Text_at_13 : decode prog_11_method_4_code 13 = .ok (.getfield 9, 3) := by decide +kernel
theorem d_Text_at_16 : decode prog_11_method_4_code 16 = .ok (.iload_n 1, 1) := by decide +kernel
theorem d_Text_at_17 : decode prog_11_method_4_code 17 = .ok (.caload, 1) := by decide +kernel
theorem d_Text_at_18 : decode prog_11_method_4_code 18 = .ok (.goto 4, 3) := by decide +kernel
theorem d_Text_at_21 : decode prog_11_method_4_code 21 = .ok (.iconst 0, 1) := by decide +kernel
theorem d_Text_at_22 : decode prog_11_method_4_code 22 = .ok (.ireturn, 1) := by decide +kernel
theorem d_Text_add_0 : decode prog_11_method_7_code 0 = .ok (.aload_n 0, 1) := by decide +kernel
theorem d_Text_add_1 : decode prog_11_method_7_code 1 = .ok (.getfield 15, 3) := by decide +kernel
theorem d_Text_add_4 : decode prog_11_method_7_code 4 = .ok (.aload_n 0, 1) := by decide +kernel
theorem d_Text_add_5 : decode prog_11_method_7_code 5 = .ok (.getfield 9, 3) := by decide +kernel
theorem d_Text_add_8 : decode prog_11_method_7_code 8 = .ok (.arraylength, 1) := by decide +kernel
theorem d_Text_add_9 : decode prog_11_method_7_code 9 = .ok (.if_icmp .ge 23, 3) := by decide +kernel
theorem d_Text_add_12 : decode prog_11_method_7_code 12 = .ok (.aload_n 0, 1) := by decide +kernel
theorem d_Text_add_13 : decode prog_11_method_7_code 13 = .ok (.getfield 9, 3) := by decide +kernel
theorem d_Text_add_16 : decode prog_11_method_7_code 16 = .ok (.aload_n 0, 1) := by decide +kernel
theorem d_Text_add_17 : decode prog_11_method_7_code 17 = .ok (.getfield 15, 3) := by decide +kernel
theorem d_Text_add_20 : decode prog_11_method_7_code 20 = .ok (.iload_n 1, 1) := by decide +kernel
theorem d_Text_add_21 : decode prog_11_method_7_code 21 = .ok (.castore, 1) := by decide +kernel
theorem d_Text_add_22 : decode prog_11_method_7_code 22 = .ok (.aload_n 0, 1) := by decide +kernel
theorem d_Text_add_23 : decode prog_11_method_7_code 23 = .ok (.dup, 1) := by decide +kernel
theorem d_Text_add_24 : decode prog_11_method_7_code 24 = .ok (.getfield 15, 3) := by decide +kernel
theorem d_Text_add_27 : decode prog_11_method_7_code 27 = .ok (.iconst 1, 1) := by decide +kernel
theorem d_Text_add_28 : decode prog_11_method_7_code 28 = .ok (.iadd, 1) := by decide +kernel
theorem d_Text_add_29 : decode prog_11_method_7_code 29 = .ok (.putfield 15, 3) := by decide +kernel
theorem d_Text_add_32 : decode prog_11_method_7_code 32 = .ok (.return_, 1) := by decide +kernel
theorem d_Text_isFull_0 : decode prog_11_method_5_code 0 = .ok (.aload_n 0, 1) := by decide +kernel
theorem d_Text_isFull_1 : decode prog_11_method_5_code 1 = .ok (.getfield 15, 3) := by decide +kernel
theorem d_Text_isFull_4 : decode prog_11_method_5_code 4 = .ok (.aload_n 0, 1) := by decide +kernel
theorem d_Text_isFull_5 : decode prog_11_method_5_code 5 = .ok (.getfield 9, 3) := by decide +kernel
theorem d_Text_isFull_8 : decode prog_11_method_5_code 8 = .ok (.arraylength, 1) := by decide +kernel
theorem d_Text_isFull_9 : decode prog_11_method_5_code 9 = .ok (.if_icmp .lt 7, 3) := by decide +kernel
theorem d_Text_isFull_12 : decode prog_11_method_5_code 12 = .ok (.iconst 1, 1) := by decide +kernel
theorem d_Text_isFull_13 : decode prog_11_method_5_code 13 = .ok (.goto 4, 3) := by decide +kernel
theorem d_Text_isFull_16 : decode prog_11_method_5_code 16 = .ok (.iconst 0, 1) := by decide +kernel
theorem d_Text_isFull_17 : decode prog_11_method_5_code 17 = .ok (.ireturn, 1) := by decide +kernel
theorem d_Text_setTo_0 : decode prog_11_method_9_code 0 = .ok (.aload_n 0, 1) := by decide +kernel
theorem d_Text_setTo_1 : decode prog_11_method_9_code 1 = .ok (.aload_n 1, 1) := by decide +kernel
theorem d_Text_setTo_2 : decode prog_11_method_9_code 2 = .ok (.getfield 15, 3) := by decide +kernel
theorem d_Text_setTo_5 : decode prog_11_method_9_code 5 = .ok (.aload_n 0, 1) := by decide +kernel
theorem d_Text_setTo_6 : decode prog_11_method_9_code 6 = .ok (.getfield 9, 3) := by decide +kernel
theorem d_Text_setTo_9 : decode prog_11_method_9_code 9 = .ok (.arraylength, 1) := by decide +kernel
theorem d_Text_setTo_10 : decode prog_11_method_9_code 10 = .ok (.invokestatic 25, 3) := by decide +kernel
theorem d_Text_setTo_13 : decode prog_11_method_9_code 13 = .ok (.putfield 15, 3) := by decide +kernel
theorem d_Text_setTo_16 : decode prog_11_method_9_code 16 = .ok (.aload_n 1, 1) := by decide +kernel
theorem d_Text_setTo_17 : decode prog_11_method_9_code 17 = .ok (.getfield 9, 3) := by decide +kernel
theorem d_Text_setTo_20 : decode prog_11_method_9_code 20 = .ok (.iconst 0, 1) := by decide +kernel
theorem d_Text_setTo_21 : decode prog_11_method_9_code 21 = .ok (.aload_n 0, 1) := by decide +kernel
theorem d_Text_setTo_22 : decode prog_11_method_9_code 22 = .ok (.getfield 9, 3) := by decide +kernel
theorem d_Text_setTo_25 : decode prog_11_method_9_code 25 = .ok (.iconst 0, 1) := by decide +kernel
theorem d_Text_setTo_26 : decode prog_11_method_9_code 26 = .ok (.aload_n 0, 1) := by decide +kernel
theorem d_Text_setTo_27 : decode prog_11_method_9_code 27 = .ok (.getfield 15, 3) := by decide +kernel
theorem d_Text_setTo_30 : decode prog_11_method_9_code 30 = .ok (.invokestatic 28, 3) := by decide +kernel
theorem d_Text_setTo_33 : decode prog_11_method_9_code 33 = .ok (.return_, 1) := by decide +kernel
theorem d_Text_asWord_0 : decode prog_11_method_14_code 0 = .ok (.aload_n 0, 1) := by decide +kernel
theorem d_Text_asWord_1 : decode prog_11_method_14_code 1 = .ok (.getfield 15, 3) := by decide +kernel
theorem d_Text_asWord_4 : decode prog_11_method_14_code 4 = .ok (.bipush 8, 2) := by decide +kernel
theorem d_Text_asWord_6 : decode prog_11_method_14_code 6 = .ok (.if_icmp .le 5, 3) := by decide +kernel
theorem d_Text_asWord_9 : decode prog_11_method_14_code 9 = .ok (.lconst 0, 1) := by decide +kernel
theorem d_Text_asWord_10 : decode prog_11_method_14_code 10 = .ok (.lreturn, 1) := by decide +kernel
theorem d_Text_asWord_11 : decode prog_11_method_14_code 11 = .ok (.lconst 0, 1) := by decide +kernel
theorem d_Text_asWord_12 : decode prog_11_method_14_code 12 = .ok (.lstore_n 1, 1) := by decide +kernel
theorem d_Text_asWord_13 : decode prog_11_method_14_code 13 = .ok (.iconst 0, 1) := by decide +kernel
theorem d_Text_asWord_14 : decode prog_11_method_14_code 14 = .ok (.istore_n 3, 1) := by decide +kernel
theorem d_Text_asWord_15 : decode prog_11_method_14_code 15 = .ok (.iload_n 3, 1) := by decide +kernel
theorem d_Text_asWord_16 : decode prog_11_method_14_code 16 = .ok (.aload_n 0, 1) := by decide +kernel
theorem d_Text_asWord_17 : decode prog_11_method_14_code 17 = .ok (.getfield 15, 3) := by decide +kernel
theorem d_Text_asWord_20 : decode prog_11_method_14_code 20 = .ok (.if_icmp .ge 41, 3) := by decide +kernel
theorem d_Text_asWord_23 : decode prog_11_method_14_code 23 = .ok (.aload_n 0, 1) := by decide +kernel
theorem d_Text_asWord_24 : decode prog_11_method_14_code 24 = .ok (.getfield 9, 3) := by decide +kernel
theorem d_Text_asWord_27 : decode prog_11_method_14_code 27 = .ok (.iload_n 3, 1) := by decide +kernel
theorem d_Text_asWord_28 : decode prog_11_method_14_code 28 = .ok (.caload, 1) := by decide +kernel
theorem d_Text_asWord_29 : decode prog_11_method_14_code 29 = .ok (.invokestatic 50, 3) := by decide +kernel
theorem d_Text_asWord_32 : decode prog_11_method_14_code 32 = .ok (.ifCond .ne 5, 3) := by decide +kernel
theorem d_Text_asWord_35 : decode prog_11_method_14_code 35 = .ok (.lconst 0, 1) := by decide +kernel
theorem d_Text_asWord_36 : decode prog_11_method_14_code 36 = .ok (.lreturn, 1) := by decide +kernel
theorem d_Text_asWord_37 : decode prog_11_method_14_code 37 = .ok (.lload_n 1, 1) := by decide +kernel
theorem d_Text_asWord_38 : decode prog_11_method_14_code 38 = .ok (.aload_n 0, 1) := by decide +kernel
theorem d_Text_asWord_39 : decode prog_11_method_14_code 39 = .ok (.getfield 9, 3) := by decide +kernel
theorem d_Text_asWord_42 : decode prog_11_method_14_code 42 = .ok (.iload_n 3, 1) := by decide +kernel
theorem d_Text_asWord_43 : decode prog_11_method_14_code 43 = .ok (.caload, 1) := by decide +kernel
theorem d_Text_asWord_44 : decode prog_11_method_14_code 44 = .ok (.invokestatic 53, 3) := by decide +kernel
theorem d_Text_asWord_47 : decode prog_11_method_14_code 47 = .ok (.i2l, 1) := by decide +kernel
theorem d_Text_asWord_48 : decode prog_11_method_14_code 48 = .ok (.bipush 8, 2) := by decide +kernel
theorem d_Text_asWord_50 : decode prog_11_method_14_code 50 = .ok (.iload_n 3, 1) := by decide +kernel
theorem d_Text_asWord_51 : decode prog_11_method_14_code 51 = .ok (.imul, 1) := by decide +kernel
theorem d_Text_asWord_52 : decode prog_11_method_14_code 52 = .ok (.lshl, 1) := by decide +kernel
theorem d_Text_asWord_53 : decode prog_11_method_14_code 53 = .ok (.lor, 1) := by decide +kernel
theorem d_Text_asWord_54 : decode prog_11_method_14_code 54 = .ok (.lstore_n 1, 1) := by decide +kernel
theorem d_Text_asWord_55 : decode prog_11_method_14_code 55 = .ok (.iinc 3 1, 3) := by decide +kernel
theorem d_Text_asWord_58 : decode prog_11_method_14_code 58 = .ok (.goto (-43), 3) := by decide +kernel
theorem d_Text_asWord_61 : decode prog_11_method_14_code 61 = .ok (.lload_n 1, 1) := by decide +kernel
theorem d_Text_asWord_62 : decode prog_11_method_14_code 62 = .ok (.lreturn, 1) := by decide +kernel
theorem d_Text_against_0 : decode prog_11_method_13_code 0 = .ok (.aload_n 0, 1) := by decide +kernel
theorem d_Text_against_1 : decode prog_11_method_13_code 1 = .ok (.getfield 15, 3) := by decide +kernel
theorem d_Text_against_4 : decode prog_11_method_13_code 4 = .ok (.aload_n 1, 1) := by decide +kernel
theorem d_Text_against_5 : decode prog_11_method_13_code 5 = .ok (.getfield 15, 3) := by decide +kernel
theorem d_Text_against_8 : decode prog_11_method_13_code 8 = .ok (.invokestatic 25, 3) := by decide +kernel
theorem d_Text_against_11 : decode prog_11_method_13_code 11 = .ok (.istore_n 2, 1) := by decide +kernel
theorem d_Text_against_12 : decode prog_11_method_13_code 12 = .ok (.iconst 0, 1) := by decide +kernel
theorem d_Text_against_13 : decode prog_11_method_13_code 13 = .ok (.istore_n 3, 1) := by decide +kernel
theorem d_Text_against_14 : decode prog_11_method_13_code 14 = .ok (.iload_n 3, 1) := by decide +kernel
theorem d_Text_against_15 : decode prog_11_method_13_code 15 = .ok (.iload_n 2, 1) := by decide +kernel
theorem d_Text_against_16 : decode prog_11_method_13_code 16 = .ok (.if_icmp .ge 38, 3) := by decide +kernel
theorem d_Text_against_19 : decode prog_11_method_13_code 19 = .ok (.aload_n 0, 1) := by decide +kernel
theorem d_Text_against_20 : decode prog_11_method_13_code 20 = .ok (.getfield 9, 3) := by decide +kernel
theorem d_Text_against_23 : decode prog_11_method_13_code 23 = .ok (.iload_n 3, 1) := by decide +kernel
theorem d_Text_against_24 : decode prog_11_method_13_code 24 = .ok (.caload, 1) := by decide +kernel
theorem d_Text_against_25 : decode prog_11_method_13_code 25 = .ok (.aload_n 1, 1) := by decide +kernel
theorem d_Text_against_26 : decode prog_11_method_13_code 26 = .ok (.getfield 9, 3) := by decide +kernel
theorem d_Text_against_29 : decode prog_11_method_13_code 29 = .ok (.iload_n 3, 1) := by decide +kernel
theorem d_Text_against_30 : decode prog_11_method_13_code 30 = .ok (.caload, 1) := by decide +kernel
theorem d_Text_against_31 : decode prog_11_method_13_code 31 = .ok (.if_icmp .eq 17, 3) := by decide +kernel
theorem d_Text_against_34 : decode prog_11_method_13_code 34 = .ok (.aload_n 0, 1) := by decide +kernel
theorem d_Text_against_35 : decode prog_11_method_13_code 35 = .ok (.getfield 9, 3) := by decide +kernel
theorem d_Text_against_38 : decode prog_11_method_13_code 38 = .ok (.iload_n 3, 1) := by decide +kernel
theorem d_Text_against_39 : decode prog_11_method_13_code 39 = .ok (.caload, 1) := by decide +kernel
theorem d_Text_against_40 : decode prog_11_method_13_code 40 = .ok (.aload_n 1, 1) := by decide +kernel
theorem d_Text_against_41 : decode prog_11_method_13_code 41 = .ok (.getfield 9, 3) := by decide +kernel
theorem d_Text_against_44 : decode prog_11_method_13_code 44 = .ok (.iload_n 3, 1) := by decide +kernel
theorem d_Text_against_45 : decode prog_11_method_13_code 45 = .ok (.caload, 1) := by decide +kernel
theorem d_Text_against_46 : decode prog_11_method_13_code 46 = .ok (.isub, 1) := by decide +kernel
theorem d_Text_against_47 : decode prog_11_method_13_code 47 = .ok (.ireturn, 1) := by decide +kernel
theorem d_Text_against_48 : decode prog_11_method_13_code 48 = .ok (.iinc 3 1, 3) := by decide +kernel
theorem d_Text_against_51 : decode prog_11_method_13_code 51 = .ok (.goto (-37), 3) := by decide +kernel
theorem d_Text_against_54 : decode prog_11_method_13_code 54 = .ok (.aload_n 0, 1) := by decide +kernel
theorem d_Text_against_55 : decode prog_11_method_13_code 55 = .ok (.getfield 15, 3) := by decide +kernel
theorem d_Text_against_58 : decode prog_11_method_13_code 58 = .ok (.aload_n 1, 1) := by decide +kernel
theorem d_Text_against_59 : decode prog_11_method_13_code 59 = .ok (.getfield 15, 3) := by decide +kernel
theorem d_Text_against_62 : decode prog_11_method_13_code 62 = .ok (.isub, 1) := by decide +kernel
theorem d_Text_against_63 : decode prog_11_method_13_code 63 = .ok (.ireturn, 1) := by decide +kernel
theorem d_Text_has_0 : decode prog_11_method_3_code 0 = .ok (.iload_n 1, 1) := by decide +kernel
theorem d_Text_has_1 : decode prog_11_method_3_code 1 = .ok (.ifCond .lt 15, 3) := by decide +kernel
theorem d_Text_has_4 : decode prog_11_method_3_code 4 = .ok (.iload_n 1, 1) := by decide +kernel
theorem d_Text_has_5 : decode prog_11_method_3_code 5 = .ok (.aload_n 0, 1) := by decide +kernel
theorem d_Text_has_6 : decode prog_11_method_3_code 6 = .ok (.getfield 15, 3) := by decide +kernel
theorem d_Text_has_9 : decode prog_11_method_3_code 9 = .ok (.if_icmp .ge 7, 3) := by decide +kernel
theorem d_Text_has_12 : decode prog_11_method_3_code 12 = .ok (.iconst 1, 1) := by decide +kernel
theorem d_Text_has_13 : decode prog_11_method_3_code 13 = .ok (.goto 4, 3) := by decide +kernel
theorem d_Text_has_16 : decode prog_11_method_3_code 16 = .ok (.iconst 0, 1) := by decide +kernel
theorem d_Text_has_17 : decode prog_11_method_3_code 17 = .ok (.ireturn, 1) := by decide +kernel
theorem d_Text_setToBytes_0 : decode prog_11_method_10_code 0 = .ok (.aload_n 0, 1) := by decide +kernel
theorem d_Text_setToBytes_1 : decode prog_11_method_10_code 1 = .ok (.iconst 0, 1) := by decide +kernel
theorem d_Text_setToBytes_2 : decode prog_11_method_10_code 2 = .ok (.putfield 15, 3) := by decide +kernel
theorem d_Text_setToBytes_5 : decode prog_11_method_10_code 5 = .ok (.iconst 0, 1) := by decide +kernel
theorem d_Text_setToBytes_6 : decode prog_11_method_10_code 6 = .ok (.istore_n 3, 1) := by decide +kernel
theorem d_Text_setToBytes_7 : decode prog_11_method_10_code 7 = .ok (.iload_n 3, 1) := by decide +kernel
theorem d_Text_setToBytes_8 : decode prog_11_method_10_code 8 = .ok (.bipush 8, 2) := by decide +kernel
theorem d_Text_setToBytes_10 : decode prog_11_method_10_code 10 = .ok (.if_icmp .ge 31, 3) := by decide +kernel
theorem d_Text_setToBytes_13 : decode prog_11_method_10_code 13 = .ok (.lload_n 1, 1) := by decide +kernel
theorem d_Text_setToBytes_14 : decode prog_11_method_10_code 14 = .ok (.iload_n 3, 1) := by decide +kernel
theorem d_Text_setToBytes_15 : decode prog_11_method_10_code 15 = .ok (.invokestatic 34, 3) := by decide +kernel
theorem d_Text_setToBytes_18 : decode prog_11_method_10_code 18 = .ok (.istore 4, 2) := by decide +kernel
theorem d_Text_setToBytes_20 : decode prog_11_method_10_code 20 = .ok (.iload 4, 2) := by decide +kernel
theorem d_Text_setToBytes_22 : decode prog_11_method_10_code 22 = .ok (.invokestatic 38, 3) := by decide +kernel
theorem d_Text_setToBytes_25 : decode prog_11_method_10_code 25 = .ok (.ifCond .ne 4, 3) := by decide +kernel
theorem d_Text_setToBytes_28 : decode prog_11_method_10_code 28 = .ok (.return_, 1) := by decide +kernel
theorem d_Text_setToBytes_29 : decode prog_11_method_10_code 29 = .ok (.aload_n 0, 1) := by decide +kernel
theorem d_Text_setToBytes_30 : decode prog_11_method_10_code 30 = .ok (.iload 4, 2) := by decide +kernel
theorem d_Text_setToBytes_32 : decode prog_11_method_10_code 32 = .ok (.invokevirtual 42, 3) := by decide +kernel
theorem d_Text_setToBytes_35 : decode prog_11_method_10_code 35 = .ok (.iinc 3 1, 3) := by decide +kernel
theorem d_Text_setToBytes_38 : decode prog_11_method_10_code 38 = .ok (.goto (-31), 3) := by decide +kernel
theorem d_Text_setToBytes_41 : decode prog_11_method_10_code 41 = .ok (.return_, 1) := by decide +kernel
theorem d_Text_addPart_0 : decode prog_11_method_8_code 0 = .ok (.iload_n 2, 1) := by decide +kernel
theorem d_Text_addPart_1 : decode prog_11_method_8_code 1 = .ok (.iconst 0, 1) := by decide +kernel
theorem d_Text_addPart_2 : decode prog_11_method_8_code 2 = .ok (.invokestatic 19, 3) := by decide +kernel
theorem d_Text_addPart_5 : decode prog_11_method_8_code 5 = .ok (.istore 4, 2) := by decide +kernel
theorem d_Text_addPart_7 : decode prog_11_method_8_code 7 = .ok (.iload_n 3, 1) := by decide +kernel
theorem d_Text_addPart_8 : decode prog_11_method_8_code 8 = .ok (.aload_n 1, 1) := by decide +kernel
theorem d_Text_addPart_9 : decode prog_11_method_8_code 9 = .ok (.getfield 15, 3) := by decide +kernel
theorem d_Text_addPart_12 : decode prog_11_method_8_code 12 = .ok (.invokestatic 25, 3) := by decide +kernel
theorem d_Text_addPart_15 : decode prog_11_method_8_code 15 = .ok (.istore 5, 2) := by decide +kernel
theorem d_Text_addPart_17 : decode prog_11_method_8_code 17 = .ok (.iload 5, 2) := by decide +kernel
theorem d_Text_addPart_19 : decode prog_11_method_8_code 19 = .ok (.iload 4, 2) := by decide +kernel
theorem d_Text_addPart_21 : decode prog_11_method_8_code 21 = .ok (.isub, 1) := by decide +kernel
theorem d_Text_addPart_22 : decode prog_11_method_8_code 22 = .ok (.aload_n 0, 1) := by decide +kernel
theorem d_Text_addPart_23 : decode prog_11_method_8_code 23 = .ok (.getfield 9, 3) := by decide +kernel
theorem d_Text_addPart_26 : decode prog_11_method_8_code 26 = .ok (.arraylength, 1) := by decide +kernel
theorem d_Text_addPart_27 : decode prog_11_method_8_code 27 = .ok (.aload_n 0, 1) := by decide +kernel
theorem d_Text_addPart_28 : decode prog_11_method_8_code 28 = .ok (.getfield 15, 3) := by decide +kernel
theorem d_Text_addPart_31 : decode prog_11_method_8_code 31 = .ok (.isub, 1) := by decide +kernel
theorem d_Text_addPart_32 : decode prog_11_method_8_code 32 = .ok (.invokestatic 25, 3) := by decide +kernel
theorem d_Text_addPart_35 : decode prog_11_method_8_code 35 = .ok (.istore 6, 2) := by decide +kernel
theorem d_Text_addPart_37 : decode prog_11_method_8_code 37 = .ok (.iload 6, 2) := by decide +kernel
theorem d_Text_addPart_39 : decode prog_11_method_8_code 39 = .ok (.ifCond .le 33, 3) := by decide +kernel
theorem d_Text_addPart_42 : decode prog_11_method_8_code 42 = .ok (.aload_n 1, 1) := by decide +kernel
theorem d_Text_addPart_43 : decode prog_11_method_8_code 43 = .ok (.getfield 9, 3) := by decide +kernel
theorem d_Text_addPart_46 : decode prog_11_method_8_code 46 = .ok (.iload 4, 2) := by decide +kernel
theorem d_Text_addPart_48 : decode prog_11_method_8_code 48 = .ok (.aload_n 0, 1) := by decide +kernel
theorem d_Text_addPart_49 : decode prog_11_method_8_code 49 = .ok (.getfield 9, 3) := by decide +kernel
theorem d_Text_addPart_52 : decode prog_11_method_8_code 52 = .ok (.aload_n 0, 1) := by decide +kernel
theorem d_Text_addPart_53 : decode prog_11_method_8_code 53 = .ok (.getfield 15, 3) := by decide +kernel
theorem d_Text_addPart_56 : decode prog_11_method_8_code 56 = .ok (.iload 6, 2) := by decide +kernel
theorem d_Text_addPart_58 : decode prog_11_method_8_code 58 = .ok (.invokestatic 28, 3) := by decide +kernel
theorem d_Text_addPart_61 : decode prog_11_method_8_code 61 = .ok (.aload_n 0, 1) := by decide +kernel
theorem d_Text_addPart_62 : decode prog_11_method_8_code 62 = .ok (.dup, 1) := by decide +kernel
theorem d_Text_addPart_63 : decode prog_11_method_8_code 63 = .ok (.getfield 15, 3) := by decide +kernel
theorem d_Text_addPart_66 : decode prog_11_method_8_code 66 = .ok (.iload 6, 2) := by decide +kernel
theorem d_Text_addPart_68 : decode prog_11_method_8_code 68 = .ok (.iadd, 1) := by decide +kernel
theorem d_Text_addPart_69 : decode prog_11_method_8_code 69 = .ok (.putfield 15, 3) := by decide +kernel
theorem d_Text_addPart_72 : decode prog_11_method_8_code 72 = .ok (.return_, 1) := by decide +kernel
theorem d_Text_isBlankAlone_0 : decode prog_11_method_12_code 0 = .ok (.iconst 0, 1) := by decide +kernel
theorem d_Text_isBlankAlone_1 : decode prog_11_method_12_code 1 = .ok (.istore_n 1, 1) := by decide +kernel
theorem d_Text_isBlankAlone_2 : decode prog_11_method_12_code 2 = .ok (.iload_n 1, 1) := by decide +kernel
theorem d_Text_isBlankAlone_3 : decode prog_11_method_12_code 3 = .ok (.aload_n 0, 1) := by decide +kernel
theorem d_Text_isBlankAlone_4 : decode prog_11_method_12_code 4 = .ok (.getfield 15, 3) := by decide +kernel
theorem d_Text_isBlankAlone_7 : decode prog_11_method_12_code 7 = .ok (.if_icmp .ge 23, 3) := by decide +kernel
theorem d_Text_isBlankAlone_10 : decode prog_11_method_12_code 10 = .ok (.aload_n 0, 1) := by decide +kernel
theorem d_Text_isBlankAlone_11 : decode prog_11_method_12_code 11 = .ok (.getfield 9, 3) := by decide +kernel
theorem d_Text_isBlankAlone_14 : decode prog_11_method_12_code 14 = .ok (.iload_n 1, 1) := by decide +kernel
theorem d_Text_isBlankAlone_15 : decode prog_11_method_12_code 15 = .ok (.caload, 1) := by decide +kernel
theorem d_Text_isBlankAlone_16 : decode prog_11_method_12_code 16 = .ok (.invokestatic 46, 3) := by decide +kernel
theorem d_Text_isBlankAlone_19 : decode prog_11_method_12_code 19 = .ok (.ifCond .ne 5, 3) := by decide +kernel
theorem d_Text_isBlankAlone_22 : decode prog_11_method_12_code 22 = .ok (.iconst 0, 1) := by decide +kernel
theorem d_Text_isBlankAlone_23 : decode prog_11_method_12_code 23 = .ok (.ireturn, 1) := by decide +kernel
theorem d_Text_isBlankAlone_24 : decode prog_11_method_12_code 24 = .ok (.iinc 1 1, 3) := by decide +kernel
theorem d_Text_isBlankAlone_27 : decode prog_11_method_12_code 27 = .ok (.goto (-25), 3) := by decide +kernel
theorem d_Text_isBlankAlone_30 : decode prog_11_method_12_code 30 = .ok (.iconst 1, 1) := by decide +kernel
theorem d_Text_isBlankAlone_31 : decode prog_11_method_12_code 31 = .ok (.ireturn, 1) := by decide +kernel
theorem d_Text_indentFrom_0 : decode prog_11_method_11_code 0 = .ok (.iload_n 1, 1) := by decide +kernel
theorem d_Text_indentFrom_1 : decode prog_11_method_11_code 1 = .ok (.iconst 1, 1) := by decide +kernel
theorem d_Text_indentFrom_2 : decode prog_11_method_11_code 2 = .ok (.if_icmp .lt 11, 3) := by decide +kernel
theorem d_Text_indentFrom_5 : decode prog_11_method_11_code 5 = .ok (.iload_n 1, 1) := by decide +kernel
theorem d_Text_indentFrom_6 : decode prog_11_method_11_code 6 = .ok (.aload_n 0, 1) := by decide +kernel
theorem d_Text_indentFrom_7 : decode prog_11_method_11_code 7 = .ok (.getfield 15, 3) := by decide +kernel
theorem d_Text_indentFrom_10 : decode prog_11_method_11_code 10 = .ok (.if_icmp .lt 4, 3) := by decide +kernel
theorem d_Text_indentFrom_13 : decode prog_11_method_11_code 13 = .ok (.return_, 1) := by decide +kernel
theorem d_Text_indentFrom_14 : decode prog_11_method_11_code 14 = .ok (.aload_n 0, 1) := by decide +kernel
theorem d_Text_indentFrom_15 : decode prog_11_method_11_code 15 = .ok (.getfield 15, 3) := by decide +kernel
theorem d_Text_indentFrom_18 : decode prog_11_method_11_code 18 = .ok (.iload_n 1, 1) := by decide +kernel
theorem d_Text_indentFrom_19 : decode prog_11_method_11_code 19 = .ok (.isub, 1) := by decide +kernel
theorem d_Text_indentFrom_20 : decode prog_11_method_11_code 20 = .ok (.iconst 1, 1) := by decide +kernel
theorem d_Text_indentFrom_21 : decode prog_11_method_11_code 21 = .ok (.isub, 1) := by decide +kernel
theorem d_Text_indentFrom_22 : decode prog_11_method_11_code 22 = .ok (.istore_n 2, 1) := by decide +kernel
theorem d_Text_indentFrom_23 : decode prog_11_method_11_code 23 = .ok (.aload_n 0, 1) := by decide +kernel
theorem d_Text_indentFrom_24 : decode prog_11_method_11_code 24 = .ok (.getfield 9, 3) := by decide +kernel
theorem d_Text_indentFrom_27 : decode prog_11_method_11_code 27 = .ok (.iload_n 1, 1) := by decide +kernel
theorem d_Text_indentFrom_28 : decode prog_11_method_11_code 28 = .ok (.iconst 1, 1) := by decide +kernel
theorem d_Text_indentFrom_29 : decode prog_11_method_11_code 29 = .ok (.iadd, 1) := by decide +kernel
theorem d_Text_indentFrom_30 : decode prog_11_method_11_code 30 = .ok (.aload_n 0, 1) := by decide +kernel
theorem d_Text_indentFrom_31 : decode prog_11_method_11_code 31 = .ok (.getfield 9, 3) := by decide +kernel
theorem d_Text_indentFrom_34 : decode prog_11_method_11_code 34 = .ok (.iconst 2, 1) := by decide +kernel
theorem d_Text_indentFrom_35 : decode prog_11_method_11_code 35 = .ok (.iload_n 2, 1) := by decide +kernel
theorem d_Text_indentFrom_36 : decode prog_11_method_11_code 36 = .ok (.invokestatic 28, 3) := by decide +kernel
theorem d_Text_indentFrom_39 : decode prog_11_method_11_code 39 = .ok (.aload_n 0, 1) := by decide +kernel
theorem d_Text_indentFrom_40 : decode prog_11_method_11_code 40 = .ok (.getfield 9, 3) := by decide +kernel
theorem d_Text_indentFrom_43 : decode prog_11_method_11_code 43 = .ok (.iconst 0, 1) := by decide +kernel
theorem d_Text_indentFrom_44 : decode prog_11_method_11_code 44 = .ok (.bipush 32, 2) := by decide +kernel
theorem d_Text_indentFrom_46 : decode prog_11_method_11_code 46 = .ok (.castore, 1) := by decide +kernel
theorem d_Text_indentFrom_47 : decode prog_11_method_11_code 47 = .ok (.aload_n 0, 1) := by decide +kernel
theorem d_Text_indentFrom_48 : decode prog_11_method_11_code 48 = .ok (.getfield 9, 3) := by decide +kernel
theorem d_Text_indentFrom_51 : decode prog_11_method_11_code 51 = .ok (.iconst 1, 1) := by decide +kernel
theorem d_Text_indentFrom_52 : decode prog_11_method_11_code 52 = .ok (.bipush 32, 2) := by decide +kernel
theorem d_Text_indentFrom_54 : decode prog_11_method_11_code 54 = .ok (.castore, 1) := by decide +kernel
theorem d_Text_indentFrom_55 : decode prog_11_method_11_code 55 = .ok (.aload_n 0, 1) := by decide +kernel
theorem d_Text_indentFrom_56 : decode prog_11_method_11_code 56 = .ok (.iload_n 2, 1) := by decide +kernel
theorem d_Text_indentFrom_57 : decode prog_11_method_11_code 57 = .ok (.iconst 2, 1) := by decide +kernel
theorem d_Text_indentFrom_58 : decode prog_11_method_11_code 58 = .ok (.iadd, 1) := by decide +kernel
theorem d_Text_indentFrom_59 : decode prog_11_method_11_code 59 = .ok (.putfield 15, 3) := by decide +kernel
theorem d_Text_indentFrom_62 : decode prog_11_method_11_code 62 = .ok (.return_, 1) := by decide +kernel
theorem d_CiteForge_init_0 : decode prog_1_method_1_code 0 = .ok (.aload_n 0, 1) := by decide +kernel
theorem d_CiteForge_init_1 : decode prog_1_method_1_code 1 = .ok (.invokespecial 1, 3) := by decide +kernel
theorem d_CiteForge_init_4 : decode prog_1_method_1_code 4 = .ok (.aload_n 0, 1) := by decide +kernel
theorem d_CiteForge_init_5 : decode prog_1_method_1_code 5 = .ok (.bipush 10, 2) := by decide +kernel
theorem d_CiteForge_init_7 : decode prog_1_method_1_code 7 = .ok (.newarray .int, 2) := by decide +kernel
theorem d_CiteForge_init_9 : decode prog_1_method_1_code 9 = .ok (.putfield 9, 3) := by decide +kernel
theorem d_CiteForge_init_12 : decode prog_1_method_1_code 12 = .ok (.aload_n 0, 1) := by decide +kernel
theorem d_CiteForge_init_13 : decode prog_1_method_1_code 13 = .ok (.new 13, 3) := by decide +kernel
theorem d_CiteForge_init_16 : decode prog_1_method_1_code 16 = .ok (.dup, 1) := by decide +kernel
theorem d_CiteForge_init_17 : decode prog_1_method_1_code 17 = .ok (.aload_n 0, 1) := by decide +kernel
theorem d_CiteForge_init_18 : decode prog_1_method_1_code 18 = .ok (.getfield 9, 3) := by decide +kernel
theorem d_CiteForge_init_21 : decode prog_1_method_1_code 21 = .ok (.invokespecial 15, 3) := by decide +kernel
theorem d_CiteForge_init_24 : decode prog_1_method_1_code 24 = .ok (.putfield 18, 3) := by decide +kernel
theorem d_CiteForge_init_27 : decode prog_1_method_1_code 27 = .ok (.aload_n 0, 1) := by decide +kernel
theorem d_CiteForge_init_28 : decode prog_1_method_1_code 28 = .ok (.new 22, 3) := by decide +kernel
theorem d_CiteForge_init_31 : decode prog_1_method_1_code 31 = .ok (.dup, 1) := by decide +kernel
theorem d_CiteForge_init_32 : decode prog_1_method_1_code 32 = .ok (.aload_n 0, 1) := by decide +kernel
theorem d_CiteForge_init_33 : decode prog_1_method_1_code 33 = .ok (.getfield 18, 3) := by decide +kernel
theorem d_CiteForge_init_36 : decode prog_1_method_1_code 36 = .ok (.aload_n 0, 1) := by decide +kernel
theorem d_CiteForge_init_37 : decode prog_1_method_1_code 37 = .ok (.getfield 9, 3) := by decide +kernel
theorem d_CiteForge_init_40 : decode prog_1_method_1_code 40 = .ok (.invokespecial 24, 3) := by decide +kernel
theorem d_CiteForge_init_43 : decode prog_1_method_1_code 43 = .ok (.putfield 27, 3) := by decide +kernel
theorem d_CiteForge_init_46 : decode prog_1_method_1_code 46 = .ok (.aload_n 0, 1) := by decide +kernel
theorem d_CiteForge_init_47 : decode prog_1_method_1_code 47 = .ok (.new 31, 3) := by decide +kernel
theorem d_CiteForge_init_50 : decode prog_1_method_1_code 50 = .ok (.dup, 1) := by decide +kernel
theorem d_CiteForge_init_51 : decode prog_1_method_1_code 51 = .ok (.aload_n 0, 1) := by decide +kernel
theorem d_CiteForge_init_52 : decode prog_1_method_1_code 52 = .ok (.getfield 18, 3) := by decide +kernel
theorem d_CiteForge_init_55 : decode prog_1_method_1_code 55 = .ok (.aload_n 0, 1) := by decide +kernel
theorem d_CiteForge_init_56 : decode prog_1_method_1_code 56 = .ok (.getfield 9, 3) := by decide +kernel
theorem d_CiteForge_init_59 : decode prog_1_method_1_code 59 = .ok (.invokespecial 33, 3) := by decide +kernel
theorem d_CiteForge_init_62 : decode prog_1_method_1_code 62 = .ok (.putfield 34, 3) := by decide +kernel
theorem d_CiteForge_init_65 : decode prog_1_method_1_code 65 = .ok (.aload_n 0, 1) := by decide +kernel
theorem d_CiteForge_init_66 : decode prog_1_method_1_code 66 = .ok (.new 38, 3) := by decide +kernel
theorem d_CiteForge_init_69 : decode prog_1_method_1_code 69 = .ok (.dup, 1) := by decide +kernel
theorem d_CiteForge_init_70 : decode prog_1_method_1_code 70 = .ok (.aload_n 0, 1) := by decide +kernel
theorem d_CiteForge_init_71 : decode prog_1_method_1_code 71 = .ok (.getfield 9, 3) := by decide +kernel
theorem d_CiteForge_init_74 : decode prog_1_method_1_code 74 = .ok (.invokespecial 40, 3) := by decide +kernel
theorem d_CiteForge_init_77 : decode prog_1_method_1_code 77 = .ok (.putfield 41, 3) := by decide +kernel
theorem d_CiteForge_init_80 : decode prog_1_method_1_code 80 = .ok (.aload_n 0, 1) := by decide +kernel
theorem d_CiteForge_init_81 : decode prog_1_method_1_code 81 = .ok (.new 45, 3) := by decide +kernel
theorem d_CiteForge_init_84 : decode prog_1_method_1_code 84 = .ok (.dup, 1) := by decide +kernel
theorem d_CiteForge_init_85 : decode prog_1_method_1_code 85 = .ok (.invokespecial 47, 3) := by decide +kernel
theorem d_CiteForge_init_88 : decode prog_1_method_1_code 88 = .ok (.putfield 48, 3) := by decide +kernel
theorem d_CiteForge_init_91 : decode prog_1_method_1_code 91 = .ok (.aload_n 0, 1) := by decide +kernel
theorem d_CiteForge_init_92 : decode prog_1_method_1_code 92 = .ok (.new 52, 3) := by decide +kernel
theorem d_CiteForge_init_95 : decode prog_1_method_1_code 95 = .ok (.dup, 1) := by decide +kernel
theorem d_CiteForge_init_96 : decode prog_1_method_1_code 96 = .ok (.aload_n 0, 1) := by decide +kernel
theorem d_CiteForge_init_97 : decode prog_1_method_1_code 97 = .ok (.getfield 18, 3) := by decide +kernel
theorem d_CiteForge_init_100 : decode prog_1_method_1_code 100 = .ok (.aload_n 0, 1) := by decide +kernel
theorem d_CiteForge_init_101 : decode prog_1_method_1_code 101 = .ok (.getfield 34, 3) := by decide +kernel
theorem d_CiteForge_init_104 : decode prog_1_method_1_code 104 = .ok (.aload_n 0, 1) := by decide +kernel
theorem d_CiteForge_init_105 : decode prog_1_method_1_code 105 = .ok (.getfield 41, 3) := by decide +kernel
theorem d_CiteForge_init_108 : decode prog_1_method_1_code 108 = .ok (.aload_n 0, 1) := by decide +kernel
theorem d_CiteForge_init_109 : decode prog_1_method_1_code 109 = .ok (.getfield 48, 3) := by decide +kernel
theorem d_CiteForge_init_112 : decode prog_1_method_1_code 112 = .ok (.aload_n 0, 1) := by decide +kernel
theorem d_CiteForge_init_113 : decode prog_1_method_1_code 113 = .ok (.getfield 9, 3) := by decide +kernel
theorem d_CiteForge_init_116 : decode prog_1_method_1_code 116 = .ok (.invokespecial 54, 3) := by decide +kernel
theorem d_CiteForge_init_119 : decode prog_1_method_1_code 119 = .ok (.putfield 57, 3) := by decide +kernel
theorem d_CiteForge_init_122 : decode prog_1_method_1_code 122 = .ok (.return_, 1) := by decide +kernel
theorem d_CiteForge_erase_0 : decode prog_1_method_3_code 0 = .ok (.aload_n 0, 1) := by decide +kernel
theorem d_CiteForge_erase_1 : decode prog_1_method_3_code 1 = .ok (.getfield 27, 3) := by decide +kernel
theorem d_CiteForge_erase_4 : decode prog_1_method_3_code 4 = .ok (.invokevirtual 79, 3) := by decide +kernel
theorem d_CiteForge_erase_7 : decode prog_1_method_3_code 7 = .ok (.ireturn, 1) := by decide +kernel
theorem d_CiteForge_read_0 : decode prog_1_method_4_code 0 = .ok (.aload_n 0, 1) := by decide +kernel
theorem d_CiteForge_read_1 : decode prog_1_method_4_code 1 = .ok (.getfield 34, 3) := by decide +kernel
theorem d_CiteForge_read_4 : decode prog_1_method_4_code 4 = .ok (.invokevirtual 83, 3) := by decide +kernel
theorem d_CiteForge_read_7 : decode prog_1_method_4_code 7 = .ok (.aload_n 0, 1) := by decide +kernel
theorem d_CiteForge_read_8 : decode prog_1_method_4_code 8 = .ok (.getfield 27, 3) := by decide +kernel
theorem d_CiteForge_read_11 : decode prog_1_method_4_code 11 = .ok (.invokevirtual 86, 3) := by decide +kernel
theorem d_CiteForge_read_14 : decode prog_1_method_4_code 14 = .ok (.iconst 0, 1) := by decide +kernel
theorem d_CiteForge_read_15 : decode prog_1_method_4_code 15 = .ok (.istore_n 1, 1) := by decide +kernel
theorem d_CiteForge_read_16 : decode prog_1_method_4_code 16 = .ok (.iload_n 1, 1) := by decide +kernel
theorem d_CiteForge_read_17 : decode prog_1_method_4_code 17 = .ok (.sipush 320, 3) := by decide +kernel
theorem d_CiteForge_read_20 : decode prog_1_method_4_code 20 = .ok (.if_icmp .ge 36, 3) := by decide +kernel
theorem d_CiteForge_read_23 : decode prog_1_method_4_code 23 = .ok (.aload_n 0, 1) := by decide +kernel
theorem d_CiteForge_read_24 : decode prog_1_method_4_code 24 = .ok (.getfield 27, 3) := by decide +kernel
theorem d_CiteForge_read_27 : decode prog_1_method_4_code 27 = .ok (.invokevirtual 89, 3) := by decide +kernel
theorem d_CiteForge_read_30 : decode prog_1_method_4_code 30 = .ok (.ifCond .eq 26, 3) := by decide +kernel
theorem d_CiteForge_read_33 : decode prog_1_method_4_code 33 = .ok (.aload_n 0, 1) := by decide +kernel
theorem d_CiteForge_read_34 : decode prog_1_method_4_code 34 = .ok (.getfield 27, 3) := by decide +kernel
theorem d_CiteForge_read_37 : decode prog_1_method_4_code 37 = .ok (.invokevirtual 93, 3) := by decide +kernel
theorem d_CiteForge_read_40 : decode prog_1_method_4_code 40 = .ok (.ifCond .ne 10, 3) := by decide +kernel
theorem d_CiteForge_read_43 : decode prog_1_method_4_code 43 = .ok (.aload_n 0, 1) := by decide +kernel
theorem d_CiteForge_read_44 : decode prog_1_method_4_code 44 = .ok (.getfield 27, 3) := by decide +kernel
theorem d_CiteForge_read_47 : decode prog_1_method_4_code 47 = .ok (.invokevirtual 96, 3) := by decide +kernel
theorem d_CiteForge_read_50 : decode prog_1_method_4_code 50 = .ok (.iinc 1 1, 3) := by decide +kernel
theorem d_CiteForge_read_53 : decode prog_1_method_4_code 53 = .ok (.goto (-37), 3) := by decide +kernel
theorem d_CiteForge_read_56 : decode prog_1_method_4_code 56 = .ok (.aload_n 0, 1) := by decide +kernel
theorem d_CiteForge_read_57 : decode prog_1_method_4_code 57 = .ok (.getfield 18, 3) := by decide +kernel
theorem d_CiteForge_read_60 : decode prog_1_method_4_code 60 = .ok (.invokevirtual 99, 3) := by decide +kernel
theorem d_CiteForge_read_63 : decode prog_1_method_4_code 63 = .ok (.ireturn, 1) := by decide +kernel
theorem d_CiteForge_isBlank_0 : decode prog_1_method_26_code 0 = .ok (.iload_n 0, 1) := by decide +kernel
theorem d_CiteForge_isBlank_1 : decode prog_1_method_26_code 1 = .ok (.bipush 32, 2) := by decide +kernel
theorem d_CiteForge_isBlank_3 : decode prog_1_method_26_code 3 = .ok (.if_icmp .eq 9, 3) := by decide +kernel
theorem d_CiteForge_isBlank_6 : decode prog_1_method_26_code 6 = .ok (.iload_n 0, 1) := by decide +kernel
theorem d_CiteForge_isBlank_7 : decode prog_1_method_26_code 7 = .ok (.bipush 10, 2) := by decide +kernel
theorem d_CiteForge_isBlank_9 : decode prog_1_method_26_code 9 = .ok (.if_icmp .ne 7, 3) := by decide +kernel
theorem d_CiteForge_isBlank_12 : decode prog_1_method_26_code 12 = .ok (.iconst 1, 1) := by decide +kernel
theorem d_CiteForge_isBlank_13 : decode prog_1_method_26_code 13 = .ok (.goto 4, 3) := by decide +kernel
theorem d_CiteForge_isBlank_16 : decode prog_1_method_26_code 16 = .ok (.iconst 0, 1) := by decide +kernel
theorem d_CiteForge_isBlank_17 : decode prog_1_method_26_code 17 = .ok (.ireturn, 1) := by decide +kernel
theorem d_CiteForge_isWordCharacter_0 : decode prog_1_method_28_code 0 = .ok (.iload_n 0, 1) := by decide +kernel
theorem d_CiteForge_isWordCharacter_1 : decode prog_1_method_28_code 1 = .ok (.invokestatic 225, 3) := by decide +kernel
theorem d_CiteForge_isWordCharacter_4 : decode prog_1_method_28_code 4 = .ok (.ifCond .ne 22, 3) := by decide +kernel
theorem d_CiteForge_isWordCharacter_7 : decode prog_1_method_28_code 7 = .ok (.iload_n 0, 1) := by decide +kernel
theorem d_CiteForge_isWordCharacter_8 : decode prog_1_method_28_code 8 = .ok (.invokestatic 229, 3) := by decide +kernel
theorem d_CiteForge_isWordCharacter_11 : decode prog_1_method_28_code 11 = .ok (.ifCond .ne 15, 3) := by decide +kernel
theorem d_CiteForge_isWordCharacter_14 : decode prog_1_method_28_code 14 = .ok (.iload_n 0, 1) := by decide +kernel
theorem d_CiteForge_isWordCharacter_15 : decode prog_1_method_28_code 15 = .ok (.bipush 58, 2) := by decide +kernel
theorem d_CiteForge_isWordCharacter_17 : decode prog_1_method_28_code 17 = .ok (.if_icmp .eq 9, 3) := by decide +kernel
theorem d_CiteForge_isWordCharacter_20 : decode prog_1_method_28_code 20 = .ok (.iload_n 0, 1) := by decide +kernel
theorem d_CiteForge_isWordCharacter_21 : decode prog_1_method_28_code 21 = .ok (.bipush 45, 2) := by decide +kernel
theorem d_CiteForge_isWordCharacter_23 : decode prog_1_method_28_code 23 = .ok (.if_icmp .ne 7, 3) := by decide +kernel
theorem d_CiteForge_isWordCharacter_26 : decode prog_1_method_28_code 26 = .ok (.iconst 1, 1) := by decide +kernel
theorem d_CiteForge_isWordCharacter_27 : decode prog_1_method_28_code 27 = .ok (.goto 4, 3) := by decide +kernel
theorem d_CiteForge_isWordCharacter_30 : decode prog_1_method_28_code 30 = .ok (.iconst 0, 1) := by decide +kernel
theorem d_CiteForge_isWordCharacter_31 : decode prog_1_method_28_code 31 = .ok (.ireturn, 1) := by decide +kernel
theorem d_CiteForge_isLetter_0 : decode prog_1_method_24_code 0 = .ok (.iload_n 0, 1) := by decide +kernel
theorem d_CiteForge_isLetter_1 : decode prog_1_method_24_code 1 = .ok (.bipush 97, 2) := by decide +kernel
theorem d_CiteForge_isLetter_3 : decode prog_1_method_24_code 3 = .ok (.if_icmp .lt 9, 3) := by decide +kernel
theorem d_CiteForge_isLetter_6 : decode prog_1_method_24_code 6 = .ok (.iload_n 0, 1) := by decide +kernel
theorem d_CiteForge_isLetter_7 : decode prog_1_method_24_code 7 = .ok (.bipush 122, 2) := by decide +kernel
theorem d_CiteForge_isLetter_9 : decode prog_1_method_24_code 9 = .ok (.if_icmp .le 15, 3) := by decide +kernel
theorem d_CiteForge_isLetter_12 : decode prog_1_method_24_code 12 = .ok (.iload_n 0, 1) := by decide +kernel
theorem d_CiteForge_isLetter_13 : decode prog_1_method_24_code 13 = .ok (.bipush 65, 2) := by decide +kernel
theorem d_CiteForge_isLetter_15 : decode prog_1_method_24_code 15 = .ok (.if_icmp .lt 13, 3) := by decide +kernel
theorem d_CiteForge_isLetter_18 : decode prog_1_method_24_code 18 = .ok (.iload_n 0, 1) := by decide +kernel
theorem d_CiteForge_isLetter_19 : decode prog_1_method_24_code 19 = .ok (.bipush 90, 2) := by decide +kernel
theorem d_CiteForge_isLetter_21 : decode prog_1_method_24_code 21 = .ok (.if_icmp .gt 7, 3) := by decide +kernel
theorem d_CiteForge_isLetter_24 : decode prog_1_method_24_code 24 = .ok (.iconst 1, 1) := by decide +kernel
theorem d_CiteForge_isLetter_25 : decode prog_1_method_24_code 25 = .ok (.goto 4, 3) := by decide +kernel
theorem d_CiteForge_isLetter_28 : decode prog_1_method_24_code 28 = .ok (.iconst 0, 1) := by decide +kernel
theorem d_CiteForge_isLetter_29 : decode prog_1_method_24_code 29 = .ok (.ireturn, 1) := by decide +kernel
theorem d_CiteForge_isDigit_0 : decode prog_1_method_25_code 0 = .ok (.iload_n 0, 1) := by decide +kernel
theorem d_CiteForge_isDigit_1 : decode prog_1_method_25_code 1 = .ok (.bipush 48, 2) := by decide +kernel
theorem d_CiteForge_isDigit_3 : decode prog_1_method_25_code 3 = .ok (.if_icmp .lt 13, 3) := by decide +kernel
theorem d_CiteForge_isDigit_6 : decode prog_1_method_25_code 6 = .ok (.iload_n 0, 1) := by decide +kernel
theorem d_CiteForge_isDigit_7 : decode prog_1_method_25_code 7 = .ok (.bipush 57, 2) := by decide +kernel
theorem d_CiteForge_isDigit_9 : decode prog_1_method_25_code 9 = .ok (.if_icmp .gt 7, 3) := by decide +kernel
theorem d_CiteForge_isDigit_12 : decode prog_1_method_25_code 12 = .ok (.iconst 1, 1) := by decide +kernel
theorem d_CiteForge_isDigit_13 : decode prog_1_method_25_code 13 = .ok (.goto 4, 3) := by decide +kernel
theorem d_CiteForge_isDigit_16 : decode prog_1_method_25_code 16 = .ok (.iconst 0, 1) := by decide +kernel
theorem d_CiteForge_isDigit_17 : decode prog_1_method_25_code 17 = .ok (.ireturn, 1) := by decide +kernel
theorem d_CiteForge_smallOf_0 : decode prog_1_method_30_code 0 = .ok (.iload_n 0, 1) := by decide +kernel
theorem d_CiteForge_smallOf_1 : decode prog_1_method_30_code 1 = .ok (.invokestatic 232, 3) := by decide +kernel
theorem d_CiteForge_smallOf_4 : decode prog_1_method_30_code 4 = .ok (.ifCond .eq 11, 3) := by decide +kernel
theorem d_CiteForge_smallOf_7 : decode prog_1_method_30_code 7 = .ok (.iload_n 0, 1) := by decide +kernel
theorem d_CiteForge_smallOf_8 : decode prog_1_method_30_code 8 = .ok (.bipush 32, 2) := by decide +kernel
theorem d_CiteForge_smallOf_10 : decode prog_1_method_30_code 10 = .ok (.iadd, 1) := by decide +kernel
theorem d_CiteForge_smallOf_11 : decode prog_1_method_30_code 11 = .ok (.i2c, 1) := by decide +kernel
theorem d_CiteForge_smallOf_12 : decode prog_1_method_30_code 12 = .ok (.goto 4, 3) := by decide +kernel
theorem d_CiteForge_smallOf_15 : decode prog_1_method_30_code 15 = .ok (.iload_n 0, 1) := by decide +kernel
theorem d_CiteForge_smallOf_16 : decode prog_1_method_30_code 16 = .ok (.ireturn, 1) := by decide +kernel
theorem d_CiteForge_isCapital_0 : decode prog_1_method_22_code 0 = .ok (.iload_n 0, 1) := by decide +kernel
theorem d_CiteForge_isCapital_1 : decode prog_1_method_22_code 1 = .ok (.bipush 65, 2) := by decide +kernel
theorem d_CiteForge_isCapital_3 : decode prog_1_method_22_code 3 = .ok (.if_icmp .lt 13, 3) := by decide +kernel
theorem d_CiteForge_isCapital_6 : decode prog_1_method_22_code 6 = .ok (.iload_n 0, 1) := by decide +kernel
theorem d_CiteForge_isCapital_7 : decode prog_1_method_22_code 7 = .ok (.bipush 90, 2) := by decide +kernel
theorem d_CiteForge_isCapital_9 : decode prog_1_method_22_code 9 = .ok (.if_icmp .gt 7, 3) := by decide +kernel
theorem d_CiteForge_isCapital_12 : decode prog_1_method_22_code 12 = .ok (.iconst 1, 1) := by decide +kernel
theorem d_CiteForge_isCapital_13 : decode prog_1_method_22_code 13 = .ok (.goto 4, 3) := by decide +kernel
theorem d_CiteForge_isCapital_16 : decode prog_1_method_22_code 16 = .ok (.iconst 0, 1) := by decide +kernel
theorem d_CiteForge_isCapital_17 : decode prog_1_method_22_code 17 = .ok (.ireturn, 1) := by decide +kernel
theorem d_CiteForge_levelBehind_0 : decode prog_1_method_32_code 0 = .ok (.iload_n 1, 1) := by decide +kernel
theorem d_CiteForge_levelBehind_1 : decode prog_1_method_32_code 1 = .ok (.bipush 123, 2) := by decide +kernel
theorem d_CiteForge_levelBehind_3 : decode prog_1_method_32_code 3 = .ok (.if_icmp .ne 7, 3) := by decide +kernel
theorem d_CiteForge_levelBehind_6 : decode prog_1_method_32_code 6 = .ok (.iload_n 0, 1) := by decide +kernel
theorem d_CiteForge_levelBehind_7 : decode prog_1_method_32_code 7 = .ok (.iconst 1, 1) := by decide +kernel
theorem d_CiteForge_levelBehind_8 : decode prog_1_method_32_code 8 = .ok (.iadd, 1) := by decide +kernel
theorem d_CiteForge_levelBehind_9 : decode prog_1_method_32_code 9 = .ok (.ireturn, 1) := by decide +kernel
theorem d_CiteForge_levelBehind_10 : decode prog_1_method_32_code 10 = .ok (.iload_n 1, 1) := by decide +kernel
theorem d_CiteForge_levelBehind_11 : decode prog_1_method_32_code 11 = .ok (.bipush 125, 2) := by decide +kernel
theorem d_CiteForge_levelBehind_13 : decode prog_1_method_32_code 13 = .ok (.if_icmp .ne 13, 3) := by decide +kernel
theorem d_CiteForge_levelBehind_16 : decode prog_1_method_32_code 16 = .ok (.iload_n 0, 1) := by decide +kernel
theorem d_CiteForge_levelBehind_17 : decode prog_1_method_32_code 17 = .ok (.ifCond .le 9, 3) := by decide +kernel
theorem d_CiteForge_levelBehind_20 : decode prog_1_method_32_code 20 = .ok (.iload_n 0, 1) := by decide +kernel
theorem d_CiteForge_levelBehind_21 : decode prog_1_method_32_code 21 = .ok (.iconst 1, 1) := by decide +kernel
theorem d_CiteForge_levelBehind_22 : decode prog_1_method_32_code 22 = .ok (.isub, 1) := by decide +kernel
theorem d_CiteForge_levelBehind_23 : decode prog_1_method_32_code 23 = .ok (.goto 4, 3) := by decide +kernel
theorem d_CiteForge_levelBehind_26 : decode prog_1_method_32_code 26 = .ok (.iload_n 0, 1) := by decide +kernel
theorem d_CiteForge_levelBehind_27 : decode prog_1_method_32_code 27 = .ok (.ireturn, 1) := by decide +kernel
theorem d_CiteForge_forget_0 : decode prog_1_method_6_code 0 = .ok (.aload_n 0, 1) := by decide +kernel
theorem d_CiteForge_forget_1 : decode prog_1_method_6_code 1 = .ok (.getfield 34, 3) := by decide +kernel
theorem d_CiteForge_forget_4 : decode prog_1_method_6_code 4 = .ok (.invokevirtual 117, 3) := by decide +kernel
theorem d_CiteForge_forget_7 : decode prog_1_method_6_code 7 = .ok (.ireturn, 1) := by decide +kernel
theorem d_CiteForge_sort_0 : decode prog_1_method_9_code 0 = .ok (.aload_n 0, 1) := by decide +kernel
theorem d_CiteForge_sort_1 : decode prog_1_method_9_code 1 = .ok (.getfield 34, 3) := by decide +kernel
theorem d_CiteForge_sort_4 : decode prog_1_method_9_code 4 = .ok (.invokevirtual 143, 3) := by decide +kernel
theorem d_CiteForge_sort_7 : decode prog_1_method_9_code 7 = .ok (.ireturn, 1) := by decide +kernel
theorem d_CiteForge_depth_0 : decode prog_1_method_14_code 0 = .ok (.aload_n 0, 1) := by decide +kernel
theorem d_CiteForge_depth_1 : decode prog_1_method_14_code 1 = .ok (.getfield 41, 3) := by decide +kernel
theorem d_CiteForge_depth_4 : decode prog_1_method_14_code 4 = .ok (.invokevirtual 188, 3) := by decide +kernel
theorem d_CiteForge_depth_7 : decode prog_1_method_14_code 7 = .ok (.ireturn, 1) := by decide +kernel
theorem d_CiteForge_empty_0 : decode prog_1_method_18_code 0 = .ok (.aload_n 0, 1) := by decide +kernel
theorem d_CiteForge_empty_1 : decode prog_1_method_18_code 1 = .ok (.getfield 41, 3) := by decide +kernel
theorem d_CiteForge_empty_4 : decode prog_1_method_18_code 4 = .ok (.invokevirtual 208, 3) := by decide +kernel
theorem d_CiteForge_empty_7 : decode prog_1_method_18_code 7 = .ok (.ireturn, 1) := by decide +kernel
theorem d_CiteForge_write_0 : decode prog_1_method_2_code 0 = .ok (.iload_n 3, 1) := by decide +kernel
theorem d_CiteForge_write_1 : decode prog_1_method_2_code 1 = .ok (.iconst 1, 1) := by decide +kernel
theorem d_CiteForge_write_2 : decode prog_1_method_2_code 2 = .ok (.if_icmp .lt 17, 3) := by decide +kernel
theorem d_CiteForge_write_5 : decode prog_1_method_2_code 5 = .ok (.iload_n 3, 1) := by decide +kernel
theorem d_CiteForge_write_6 : decode prog_1_method_2_code 6 = .ok (.bipush 8, 2) := by decide +kernel
theorem d_CiteForge_write_8 : decode prog_1_method_2_code 8 = .ok (.if_icmp .gt 11, 3) := by decide +kernel
theorem d_CiteForge_write_11 : decode prog_1_method_2_code 11 = .ok (.lload_n 1, 1) := by decide +kernel
theorem d_CiteForge_write_12 : decode prog_1_method_2_code 12 = .ok (.iload_n 3, 1) := by decide +kernel
theorem d_CiteForge_write_13 : decode prog_1_method_2_code 13 = .ok (.invokestatic 61, 3) := by decide +kernel
theorem d_CiteForge_write_16 : decode prog_1_method_2_code 16 = .ok (.ifCond .ne 11, 3) := by decide +kernel
theorem d_CiteForge_write_19 : decode prog_1_method_2_code 19 = .ok (.new 65, 3) := by decide +kernel
theorem d_CiteForge_write_22 : decode prog_1_method_2_code 22 = .ok (.dup, 1) := by decide +kernel
theorem d_CiteForge_write_23 : decode prog_1_method_2_code 23 = .ok (.invokespecial 67, 3) := by decide +kernel
theorem d_CiteForge_write_26 : decode prog_1_method_2_code 26 = .ok (.athrow, 1) := by decide +kernel
theorem d_CiteForge_write_27 : decode prog_1_method_2_code 27 = .ok (.aload_n 0, 1) := by decide +kernel
theorem d_CiteForge_write_28 : decode prog_1_method_2_code 28 = .ok (.getfield 27, 3) := by decide +kernel
theorem d_CiteForge_write_31 : decode prog_1_method_2_code 31 = .ok (.iload_n 3, 1) := by decide +kernel
theorem d_CiteForge_write_32 : decode prog_1_method_2_code 32 = .ok (.invokevirtual 68, 3) := by decide +kernel
theorem d_CiteForge_write_35 : decode prog_1_method_2_code 35 = .ok (.ifCond .ne 11, 3) := by decide +kernel
theorem d_CiteForge_write_38 : decode prog_1_method_2_code 38 = .ok (.new 72, 3) := by decide +kernel
theorem d_CiteForge_write_41 : decode prog_1_method_2_code 41 = .ok (.dup, 1) := by decide +kernel
theorem d_CiteForge_write_42 : decode prog_1_method_2_code 42 = .ok (.invokespecial 74, 3) := by decide +kernel
theorem d_CiteForge_write_45 : decode prog_1_method_2_code 45 = .ok (.athrow, 1) := by decide +kernel
theorem d_CiteForge_write_46 : decode prog_1_method_2_code 46 = .ok (.aload_n 0, 1) := by decide +kernel
theorem d_CiteForge_write_47 : decode prog_1_method_2_code 47 = .ok (.getfield 27, 3) := by decide +kernel
theorem d_CiteForge_write_50 : decode prog_1_method_2_code 50 = .ok (.lload_n 1, 1) := by decide +kernel
theorem d_CiteForge_write_51 : decode prog_1_method_2_code 51 = .ok (.iload_n 3, 1) := by decide +kernel
theorem d_CiteForge_write_52 : decode prog_1_method_2_code 52 = .ok (.invokevirtual 75, 3) := by decide +kernel
theorem d_CiteForge_write_55 : decode prog_1_method_2_code 55 = .ok (.ireturn, 1) := by decide +kernel
theorem d_CiteForge_byteOf_0 : decode prog_1_method_33_code 0 = .ok (.lload_n 0, 1) := by decide +kernel
theorem d_CiteForge_byteOf_1 : decode prog_1_method_33_code 1 = .ok (.bipush 8, 2) := by decide +kernel
theorem d_CiteForge_byteOf_3 : decode prog_1_method_33_code 3 = .ok (.iload_n 2, 1) := by decide +kernel
theorem d_CiteForge_byteOf_4 : decode prog_1_method_33_code 4 = .ok (.imul, 1) := by decide +kernel
theorem d_CiteForge_byteOf_5 : decode prog_1_method_33_code 5 = .ok (.lushr, 1) := by decide +kernel
theorem d_CiteForge_byteOf_6 : decode prog_1_method_33_code 6 = .ok (.ldc2_w 238, 3) := by decide +kernel
theorem d_CiteForge_byteOf_9 : decode prog_1_method_33_code 9 = .ok (.land, 1) := by decide +kernel
theorem d_CiteForge_byteOf_10 : decode prog_1_method_33_code 10 = .ok (.l2i, 1) := by decide +kernel
theorem d_CiteForge_byteOf_11 : decode prog_1_method_33_code 11 = .ok (.i2c, 1) := by decide +kernel
theorem d_CiteForge_byteOf_12 : decode prog_1_method_33_code 12 = .ok (.ireturn, 1) := by decide +kernel
theorem d_CiteForge_isPrintable_0 : decode prog_1_method_29_code 0 = .ok (.iload_n 0, 1) := by decide +kernel
theorem d_CiteForge_isPrintable_1 : decode prog_1_method_29_code 1 = .ok (.bipush 32, 2) := by decide +kernel
theorem d_CiteForge_isPrintable_3 : decode prog_1_method_29_code 3 = .ok (.if_icmp .lt 13, 3) := by decide +kernel
theorem d_CiteForge_isPrintable_6 : decode prog_1_method_29_code 6 = .ok (.iload_n 0, 1) := by decide +kernel
theorem d_CiteForge_isPrintable_7 : decode prog_1_method_29_code 7 = .ok (.bipush 126, 2) := by decide +kernel
theorem d_CiteForge_isPrintable_9 : decode prog_1_method_29_code 9 = .ok (.if_icmp .gt 7, 3) := by decide +kernel
theorem d_CiteForge_isPrintable_12 : decode prog_1_method_29_code 12 = .ok (.iconst 1, 1) := by decide +kernel
theorem d_CiteForge_isPrintable_13 : decode prog_1_method_29_code 13 = .ok (.goto 4, 3) := by decide +kernel
theorem d_CiteForge_isPrintable_16 : decode prog_1_method_29_code 16 = .ok (.iconst 0, 1) := by decide +kernel
theorem d_CiteForge_isPrintable_17 : decode prog_1_method_29_code 17 = .ok (.ireturn, 1) := by decide +kernel
theorem d_CiteForge_cite_0 : decode prog_1_method_5_code 0 = .ok (.lload_n 1, 1) := by decide +kernel
theorem d_CiteForge_cite_1 : decode prog_1_method_5_code 1 = .ok (.invokestatic 102, 3) := by decide +kernel
theorem d_CiteForge_cite_4 : decode prog_1_method_5_code 4 = .ok (.lstore_n 3, 1) := by decide +kernel
theorem d_CiteForge_cite_5 : decode prog_1_method_5_code 5 = .ok (.lload_n 3, 1) := by decide +kernel
theorem d_CiteForge_cite_6 : decode prog_1_method_5_code 6 = .ok (.lconst 0, 1) := by decide +kernel
theorem d_CiteForge_cite_7 : decode prog_1_method_5_code 7 = .ok (.lcmp, 1) := by decide +kernel
theorem d_CiteForge_cite_8 : decode prog_1_method_5_code 8 = .ok (.ifCond .ne 11, 3) := by decide +kernel
theorem d_CiteForge_cite_11 : decode prog_1_method_5_code 11 = .ok (.new 65, 3) := by decide +kernel
theorem d_CiteForge_cite_14 : decode prog_1_method_5_code 14 = .ok (.dup, 1) := by decide +kernel
theorem d_CiteForge_cite_15 : decode prog_1_method_5_code 15 = .ok (.invokespecial 67, 3) := by decide +kernel
theorem d_CiteForge_cite_18 : decode prog_1_method_5_code 18 = .ok (.athrow, 1) := by decide +kernel
theorem d_CiteForge_cite_19 : decode prog_1_method_5_code 19 = .ok (.aload_n 0, 1) := by decide +kernel
theorem d_CiteForge_cite_20 : decode prog_1_method_5_code 20 = .ok (.getfield 34, 3) := by decide +kernel
theorem d_CiteForge_cite_23 : decode prog_1_method_5_code 23 = .ok (.lload_n 3, 1) := by decide +kernel
theorem d_CiteForge_cite_24 : decode prog_1_method_5_code 24 = .ok (.invokevirtual 106, 3) := by decide +kernel
theorem d_CiteForge_cite_27 : decode prog_1_method_5_code 27 = .ok (.ifCond .eq 5, 3) := by decide +kernel
theorem d_CiteForge_cite_30 : decode prog_1_method_5_code 30 = .ok (.iconst 0, 1) := by decide +kernel
theorem d_CiteForge_cite_31 : decode prog_1_method_5_code 31 = .ok (.ireturn, 1) := by decide +kernel
theorem d_CiteForge_cite_32 : decode prog_1_method_5_code 32 = .ok (.aload_n 0, 1) := by decide +kernel
theorem d_CiteForge_cite_33 : decode prog_1_method_5_code 33 = .ok (.getfield 34, 3) := by decide +kernel
theorem d_CiteForge_cite_36 : decode prog_1_method_5_code 36 = .ok (.invokevirtual 110, 3) := by decide +kernel
theorem d_CiteForge_cite_39 : decode prog_1_method_5_code 39 = .ok (.ifCond .eq 11, 3) := by decide +kernel
theorem d_CiteForge_cite_42 : decode prog_1_method_5_code 42 = .ok (.new 72, 3) := by decide +kernel
theorem d_CiteForge_cite_45 : decode prog_1_method_5_code 45 = .ok (.dup, 1) := by decide +kernel
theorem d_CiteForge_cite_46 : decode prog_1_method_5_code 46 = .ok (.invokespecial 74, 3) := by decide +kernel
theorem d_CiteForge_cite_49 : decode prog_1_method_5_code 49 = .ok (.athrow, 1) := by decide +kernel
theorem d_CiteForge_cite_50 : decode prog_1_method_5_code 50 = .ok (.aload_n 0, 1) := by decide +kernel
theorem d_CiteForge_cite_51 : decode prog_1_method_5_code 51 = .ok (.getfield 34, 3) := by decide +kernel
theorem d_CiteForge_cite_54 : decode prog_1_method_5_code 54 = .ok (.lload_n 3, 1) := by decide +kernel
theorem d_CiteForge_cite_55 : decode prog_1_method_5_code 55 = .ok (.invokevirtual 113, 3) := by decide +kernel
theorem d_CiteForge_cite_58 : decode prog_1_method_5_code 58 = .ok (.iconst 1, 1) := by decide +kernel
theorem d_CiteForge_cite_59 : decode prog_1_method_5_code 59 = .ok (.ireturn, 1) := by decide +kernel
theorem d_CiteForge_wordOf_0 : decode prog_1_method_34_code 0 = .ok (.lconst 0, 1) := by decide +kernel
theorem d_CiteForge_wordOf_1 : decode prog_1_method_34_code 1 = .ok (.lstore_n 2, 1) := by decide +kernel
theorem d_CiteForge_wordOf_2 : decode prog_1_method_34_code 2 = .ok (.iconst 0, 1) := by decide +kernel
theorem d_CiteForge_wordOf_3 : decode prog_1_method_34_code 3 = .ok (.istore 4, 2) := by decide +kernel
theorem d_CiteForge_wordOf_5 : decode prog_1_method_34_code 5 = .ok (.iload 4, 2) := by decide +kernel
theorem d_CiteForge_wordOf_7 : decode prog_1_method_34_code 7 = .ok (.bipush 8, 2) := by decide +kernel
theorem d_CiteForge_wordOf_9 : decode prog_1_method_34_code 9 = .ok (.if_icmp .ge 52, 3) := by decide +kernel
theorem d_CiteForge_wordOf_12 : decode prog_1_method_34_code 12 = .ok (.lload_n 0, 1) := by decide +kernel
theorem d_CiteForge_wordOf_13 : decode prog_1_method_34_code 13 = .ok (.iload 4, 2) := by decide +kernel
theorem d_CiteForge_wordOf_15 : decode prog_1_method_34_code 15 = .ok (.invokestatic 240, 3) := by decide +kernel
theorem d_CiteForge_wordOf_18 : decode prog_1_method_34_code 18 = .ok (.istore 5, 2) := by decide +kernel
theorem d_CiteForge_wordOf_20 : decode prog_1_method_34_code 20 = .ok (.iload 5, 2) := by decide +kernel
theorem d_CiteForge_wordOf_22 : decode prog_1_method_34_code 22 = .ok (.invokestatic 244, 3) := by decide +kernel
theorem d_CiteForge_wordOf_25 : decode prog_1_method_34_code 25 = .ok (.ifCond .ne 5, 3) := by decide +kernel
theorem d_CiteForge_wordOf_28 : decode prog_1_method_34_code 28 = .ok (.lload_n 2, 1) := by decide +kernel
theorem d_CiteForge_wordOf_29 : decode prog_1_method_34_code 29 = .ok (.lreturn, 1) := by decide +kernel
theorem d_CiteForge_wordOf_30 : decode prog_1_method_34_code 30 = .ok (.iload 5, 2) := by decide +kernel
theorem d_CiteForge_wordOf_32 : decode prog_1_method_34_code 32 = .ok (.invokestatic 247, 3) := by decide +kernel
theorem d_CiteForge_wordOf_35 : decode prog_1_method_34_code 35 = .ok (.ifCond .ne 5, 3) := by decide +kernel
theorem d_CiteForge_wordOf_38 : decode prog_1_method_34_code 38 = .ok (.lconst 0, 1) := by decide +kernel
theorem d_CiteForge_wordOf_39 : decode prog_1_method_34_code 39 = .ok (.lreturn, 1) := by decide +kernel
theorem d_CiteForge_wordOf_40 : decode prog_1_method_34_code 40 = .ok (.lload_n 2, 1) := by decide +kernel
theorem d_CiteForge_wordOf_41 : decode prog_1_method_34_code 41 = .ok (.iload 5, 2) := by decide +kernel
theorem d_CiteForge_wordOf_43 : decode prog_1_method_34_code 43 = .ok (.invokestatic 250, 3) := by decide +kernel
theorem d_CiteForge_wordOf_46 : decode prog_1_method_34_code 46 = .ok (.i2l, 1) := by decide +kernel
theorem d_CiteForge_wordOf_47 : decode prog_1_method_34_code 47 = .ok (.bipush 8, 2) := by decide +kernel
theorem d_CiteForge_wordOf_49 : decode prog_1_method_34_code 49 = .ok (.iload 4, 2) := by decide +kernel
theorem d_CiteForge_wordOf_51 : decode prog_1_method_34_code 51 = .ok (.imul, 1) := by decide +kernel
theorem d_CiteForge_wordOf_52 : decode prog_1_method_34_code 52 = .ok (.lshl, 1) := by decide +kernel
theorem d_CiteForge_wordOf_53 : decode prog_1_method_34_code 53 = .ok (.lor, 1) := by decide +kernel
theorem d_CiteForge_wordOf_54 : decode prog_1_method_34_code 54 = .ok (.lstore_n 2, 1) := by decide +kernel
theorem d_CiteForge_wordOf_55 : decode prog_1_method_34_code 55 = .ok (.iinc 4 1, 3) := by decide +kernel
theorem d_CiteForge_wordOf_58 : decode prog_1_method_34_code 58 = .ok (.goto (-53), 3) := by decide +kernel
theorem d_CiteForge_wordOf_61 : decode prog_1_method_34_code 61 = .ok (.lload_n 2, 1) := by decide +kernel
theorem d_CiteForge_wordOf_62 : decode prog_1_method_34_code 62 = .ok (.lreturn, 1) := by decide +kernel
theorem d_CiteForge_list_0 : decode prog_1_method_7_code 0 = .ok (.iload_n 1, 1) := by decide +kernel
theorem d_CiteForge_list_1 : decode prog_1_method_7_code 1 = .ok (.iconst 1, 1) := by decide +kernel
theorem d_CiteForge_list_2 : decode prog_1_method_7_code 2 = .ok (.if_icmp .ge 11, 3) := by decide +kernel
theorem d_CiteForge_list_5 : decode prog_1_method_7_code 5 = .ok (.new 65, 3) := by decide +kernel
theorem d_CiteForge_list_8 : decode prog_1_method_7_code 8 = .ok (.dup, 1) := by decide +kernel
theorem d_CiteForge_list_9 : decode prog_1_method_7_code 9 = .ok (.invokespecial 67, 3) := by decide +kernel
theorem d_CiteForge_list_12 : decode prog_1_method_7_code 12 = .ok (.athrow, 1) := by decide +kernel
theorem d_CiteForge_list_13 : decode prog_1_method_7_code 13 = .ok (.aload_n 0, 1) := by decide +kernel
theorem d_CiteForge_list_14 : decode prog_1_method_7_code 14 = .ok (.getfield 34, 3) := by decide +kernel
theorem d_CiteForge_list_17 : decode prog_1_method_7_code 17 = .ok (.iload_n 1, 1) := by decide +kernel
theorem d_CiteForge_list_18 : decode prog_1_method_7_code 18 = .ok (.invokevirtual 120, 3) := by decide +kernel
theorem d_CiteForge_list_21 : decode prog_1_method_7_code 21 = .ok (.aload_n 0, 1) := by decide +kernel
theorem d_CiteForge_list_22 : decode prog_1_method_7_code 22 = .ok (.getfield 34, 3) := by decide +kernel
theorem d_CiteForge_list_25 : decode prog_1_method_7_code 25 = .ok (.invokevirtual 124, 3) := by decide +kernel
theorem d_CiteForge_list_28 : decode prog_1_method_7_code 28 = .ok (.ireturn, 1) := by decide +kernel
theorem d_CiteForge_key_0 : decode prog_1_method_8_code 0 = .ok (.aload_n 0, 1) := by decide +kernel
theorem d_CiteForge_key_1 : decode prog_1_method_8_code 1 = .ok (.getfield 34, 3) := by decide +kernel
theorem d_CiteForge_key_4 : decode prog_1_method_8_code 4 = .ok (.iload_n 1, 1) := by decide +kernel
theorem d_CiteForge_key_5 : decode prog_1_method_8_code 5 = .ok (.invokevirtual 127, 3) := by decide +kernel
theorem d_CiteForge_key_8 : decode prog_1_method_8_code 8 = .ok (.ifCond .ne 11, 3) := by decide +kernel
theorem d_CiteForge_key_11 : decode prog_1_method_8_code 11 = .ok (.new 130, 3) := by decide +kernel
theorem d_CiteForge_key_14 : decode prog_1_method_8_code 14 = .ok (.dup, 1) := by decide +kernel
theorem d_CiteForge_key_15 : decode prog_1_method_8_code 15 = .ok (.invokespecial 132, 3) := by decide +kernel
theorem d_CiteForge_key_18 : decode prog_1_method_8_code 18 = .ok (.athrow, 1) := by decide +kernel
theorem d_CiteForge_key_19 : decode prog_1_method_8_code 19 = .ok (.aload_n 0, 1) := by decide +kernel
theorem d_CiteForge_key_20 : decode prog_1_method_8_code 20 = .ok (.getfield 34, 3) := by decide +kernel
theorem d_CiteForge_key_23 : decode prog_1_method_8_code 23 = .ok (.iload_n 1, 1) := by decide +kernel
theorem d_CiteForge_key_24 : decode prog_1_method_8_code 24 = .ok (.invokevirtual 133, 3) := by decide +kernel
theorem d_CiteForge_key_27 : decode prog_1_method_8_code 27 = .ok (.getfield 137, 3) := by decide +kernel
theorem d_CiteForge_key_30 : decode prog_1_method_8_code 30 = .ok (.lreturn, 1) := by decide +kernel
theorem d_CiteForge_field_0 : decode prog_1_method_10_code 0 = .ok (.aload_n 0, 1) := by decide +kernel
theorem d_CiteForge_field_1 : decode prog_1_method_10_code 1 = .ok (.getfield 34, 3) := by decide +kernel
theorem d_CiteForge_field_4 : decode prog_1_method_10_code 4 = .ok (.iload_n 1, 1) := by decide +kernel
theorem d_CiteForge_field_5 : decode prog_1_method_10_code 5 = .ok (.invokevirtual 127, 3) := by decide +kernel
theorem d_CiteForge_field_8 : decode prog_1_method_10_code 8 = .ok (.ifCond .ne 11, 3) := by decide +kernel
theorem d_CiteForge_field_11 : decode prog_1_method_10_code 11 = .ok (.new 130, 3) := by decide +kernel
theorem d_CiteForge_field_14 : decode prog_1_method_10_code 14 = .ok (.dup, 1) := by decide +kernel
theorem d_CiteForge_field_15 : decode prog_1_method_10_code 15 = .ok (.invokespecial 132, 3) := by decide +kernel
theorem d_CiteForge_field_18 : decode prog_1_method_10_code 18 = .ok (.athrow, 1) := by decide +kernel
theorem d_CiteForge_field_19 : decode prog_1_method_10_code 19 = .ok (.aload_n 0, 1) := by decide +kernel
theorem d_CiteForge_field_20 : decode prog_1_method_10_code 20 = .ok (.getfield 18, 3) := by decide +kernel
theorem d_CiteForge_field_23 : decode prog_1_method_10_code 23 = .ok (.aload_n 0, 1) := by decide +kernel
theorem d_CiteForge_field_24 : decode prog_1_method_10_code 24 = .ok (.getfield 34, 3) := by decide +kernel
theorem d_CiteForge_field_27 : decode prog_1_method_10_code 27 = .ok (.iload_n 1, 1) := by decide +kernel
theorem d_CiteForge_field_28 : decode prog_1_method_10_code 28 = .ok (.invokevirtual 133, 3) := by decide +kernel
theorem d_CiteForge_field_31 : decode prog_1_method_10_code 31 = .ok (.lload_n 2, 1) := by decide +kernel
theorem d_CiteForge_field_32 : decode prog_1_method_10_code 32 = .ok (.invokestatic 102, 3) := by decide +kernel
theorem d_CiteForge_field_35 : decode prog_1_method_10_code 35 = .ok (.invokevirtual 146, 3) := by decide +kernel
theorem d_CiteForge_field_38 : decode prog_1_method_10_code 38 = .ok (.astore 5, 2) := by decide +kernel
theorem d_CiteForge_field_40 : decode prog_1_method_10_code 40 = .ok (.aload 5, 2) := by decide +kernel
theorem d_CiteForge_field_42 : decode prog_1_method_10_code 42 = .ok (.ifnonnull 11, 3) := by decide +kernel
theorem d_CiteForge_field_45 : decode prog_1_method_10_code 45 = .ok (.new 150, 3) := by decide +kernel
theorem d_CiteForge_field_48 : decode prog_1_method_10_code 48 = .ok (.dup, 1) := by decide +kernel
theorem d_CiteForge_field_49 : decode prog_1_method_10_code 49 = .ok (.invokespecial 152, 3) := by decide +kernel
theorem d_CiteForge_field_52 : decode prog_1_method_10_code 52 = .ok (.athrow, 1) := by decide +kernel
theorem d_CiteForge_field_53 : decode prog_1_method_10_code 53 = .ok (.aload 5, 2) := by decide +kernel
theorem d_CiteForge_field_55 : decode prog_1_method_10_code 55 = .ok (.iload 4, 2) := by decide +kernel
theorem d_CiteForge_field_57 : decode prog_1_method_10_code 57 = .ok (.invokevirtual 153, 3) := by decide +kernel
theorem d_CiteForge_field_60 : decode prog_1_method_10_code 60 = .ok (.ifCond .ne 11, 3) := by decide +kernel
theorem d_CiteForge_field_63 : decode prog_1_method_10_code 63 = .ok (.new 130, 3) := by decide +kernel
theorem d_CiteForge_field_66 : decode prog_1_method_10_code 66 = .ok (.dup, 1) := by decide +kernel
theorem d_CiteForge_field_67 : decode prog_1_method_10_code 67 = .ok (.invokespecial 132, 3) := by decide +kernel
theorem d_CiteForge_field_70 : decode prog_1_method_10_code 70 = .ok (.athrow, 1) := by decide +kernel
theorem d_CiteForge_field_71 : decode prog_1_method_10_code 71 = .ok (.aload 5, 2) := by decide +kernel
theorem d_CiteForge_field_73 : decode prog_1_method_10_code 73 = .ok (.iload 4, 2) := by decide +kernel
theorem d_CiteForge_field_75 : decode prog_1_method_10_code 75 = .ok (.invokevirtual 158, 3) := by decide +kernel
theorem d_CiteForge_field_78 : decode prog_1_method_10_code 78 = .ok (.ireturn, 1) := by decide +kernel
theorem d_CiteForge_define_0 : decode prog_1_method_11_code 0 = .ok (.iload_n 1, 1) := by decide +kernel
theorem d_CiteForge_define_1 : decode prog_1_method_11_code 1 = .ok (.invokestatic 162, 3) := by decide +kernel
theorem d_CiteForge_define_4 : decode prog_1_method_11_code 4 = .ok (.ifCond .eq 10, 3) := by decide +kernel
theorem d_CiteForge_define_7 : decode prog_1_method_11_code 7 = .ok (.iload_n 2, 1) := by decide +kernel
theorem d_CiteForge_define_8 : decode prog_1_method_11_code 8 = .ok (.invokestatic 165, 3) := by decide +kernel
theorem d_CiteForge_define_11 : decode prog_1_method_11_code 11 = .ok (.ifCond .ne 11, 3) := by decide +kernel
theorem d_CiteForge_define_14 : decode prog_1_method_11_code 14 = .ok (.new 65, 3) := by decide +kernel
theorem d_CiteForge_define_17 : decode prog_1_method_11_code 17 = .ok (.dup, 1) := by decide +kernel
theorem d_CiteForge_define_18 : decode prog_1_method_11_code 18 = .ok (.invokespecial 67, 3) := by decide +kernel
theorem d_CiteForge_define_21 : decode prog_1_method_11_code 21 = .ok (.athrow, 1) := by decide +kernel
theorem d_CiteForge_define_22 : decode prog_1_method_11_code 22 = .ok (.aload_n 0, 1) := by decide +kernel
theorem d_CiteForge_define_23 : decode prog_1_method_11_code 23 = .ok (.getfield 57, 3) := by decide +kernel
theorem d_CiteForge_define_26 : decode prog_1_method_11_code 26 = .ok (.iload_n 1, 1) := by decide +kernel
theorem d_CiteForge_define_27 : decode prog_1_method_11_code 27 = .ok (.invokevirtual 168, 3) := by decide +kernel
theorem d_CiteForge_define_30 : decode prog_1_method_11_code 30 = .ok (.ifCond .eq 11, 3) := by decide +kernel
theorem d_CiteForge_define_33 : decode prog_1_method_11_code 33 = .ok (.new 72, 3) := by decide +kernel
theorem d_CiteForge_define_36 : decode prog_1_method_11_code 36 = .ok (.dup, 1) := by decide +kernel
theorem d_CiteForge_define_37 : decode prog_1_method_11_code 37 = .ok (.invokespecial 74, 3) := by decide +kernel
theorem d_CiteForge_define_40 : decode prog_1_method_11_code 40 = .ok (.athrow, 1) := by decide +kernel
theorem d_CiteForge_define_41 : decode prog_1_method_11_code 41 = .ok (.aload_n 0, 1) := by decide +kernel
theorem d_CiteForge_define_42 : decode prog_1_method_11_code 42 = .ok (.getfield 57, 3) := by decide +kernel
theorem d_CiteForge_define_45 : decode prog_1_method_11_code 45 = .ok (.iload_n 1, 1) := by decide +kernel
theorem d_CiteForge_define_46 : decode prog_1_method_11_code 46 = .ok (.iload_n 2, 1) := by decide +kernel
theorem d_CiteForge_define_47 : decode prog_1_method_11_code 47 = .ok (.lload_n 3, 1) := by decide +kernel
theorem d_CiteForge_define_48 : decode prog_1_method_11_code 48 = .ok (.invokevirtual 170, 3) := by decide +kernel
theorem d_CiteForge_define_51 : decode prog_1_method_11_code 51 = .ok (.ireturn, 1) := by decide +kernel
theorem d_CiteForge_clear_0 : decode prog_1_method_12_code 0 = .ok (.iload_n 1, 1) := by decide +kernel
theorem d_CiteForge_clear_1 : decode prog_1_method_12_code 1 = .ok (.invokestatic 162, 3) := by decide +kernel
theorem d_CiteForge_clear_4 : decode prog_1_method_12_code 4 = .ok (.ifCond .ne 11, 3) := by decide +kernel
theorem d_CiteForge_clear_7 : decode prog_1_method_12_code 7 = .ok (.new 65, 3) := by decide +kernel
theorem d_CiteForge_clear_10 : decode prog_1_method_12_code 10 = .ok (.dup, 1) := by decide +kernel
theorem d_CiteForge_clear_11 : decode prog_1_method_12_code 11 = .ok (.invokespecial 67, 3) := by decide +kernel
theorem d_CiteForge_clear_14 : decode prog_1_method_12_code 14 = .ok (.athrow, 1) := by decide +kernel
theorem d_CiteForge_clear_15 : decode prog_1_method_12_code 15 = .ok (.aload_n 0, 1) := by decide +kernel
theorem d_CiteForge_clear_16 : decode prog_1_method_12_code 16 = .ok (.getfield 57, 3) := by decide +kernel
theorem d_CiteForge_clear_19 : decode prog_1_method_12_code 19 = .ok (.iload_n 1, 1) := by decide +kernel
theorem d_CiteForge_clear_20 : decode prog_1_method_12_code 20 = .ok (.invokevirtual 174, 3) := by decide +kernel
theorem d_CiteForge_clear_23 : decode prog_1_method_12_code 23 = .ok (.ireturn, 1) := by decide +kernel
theorem d_CiteForge_run_0 : decode prog_1_method_13_code 0 = .ok (.iload_n 1, 1) := by decide +kernel
theorem d_CiteForge_run_1 : decode prog_1_method_13_code 1 = .ok (.invokestatic 162, 3) := by decide +kernel
theorem d_CiteForge_run_4 : decode prog_1_method_13_code 4 = .ok (.ifCond .eq 12, 3) := by decide +kernel
theorem d_CiteForge_run_7 : decode prog_1_method_13_code 7 = .ok (.iload_n 2, 1) := by decide +kernel
theorem d_CiteForge_run_8 : decode prog_1_method_13_code 8 = .ok (.ifCond .lt 8, 3) := by decide +kernel
theorem d_CiteForge_run_11 : decode prog_1_method_13_code 11 = .ok (.iload_n 2, 1) := by decide +kernel
theorem d_CiteForge_run_12 : decode prog_1_method_13_code 12 = .ok (.iconst 2, 1) := by decide +kernel
theorem d_CiteForge_run_13 : decode prog_1_method_13_code 13 = .ok (.if_icmp .le 11, 3) := by decide +kernel
theorem d_CiteForge_run_16 : decode prog_1_method_13_code 16 = .ok (.new 65, 3) := by decide +kernel
theorem d_CiteForge_run_19 : decode prog_1_method_13_code 19 = .ok (.dup, 1) := by decide +kernel
theorem d_CiteForge_run_20 : decode prog_1_method_13_code 20 = .ok (.invokespecial 67, 3) := by decide +kernel
theorem d_CiteForge_run_23 : decode prog_1_method_13_code 23 = .ok (.athrow, 1) := by decide +kernel
theorem d_CiteForge_run_24 : decode prog_1_method_13_code 24 = .ok (.aload_n 0, 1) := by decide +kernel
theorem d_CiteForge_run_25 : decode prog_1_method_13_code 25 = .ok (.getfield 57, 3) := by decide +kernel
theorem d_CiteForge_run_28 : decode prog_1_method_13_code 28 = .ok (.iload_n 1, 1) := by decide +kernel
theorem d_CiteForge_run_29 : decode prog_1_method_13_code 29 = .ok (.iload_n 2, 1) := by decide +kernel
theorem d_CiteForge_run_30 : decode prog_1_method_13_code 30 = .ok (.invokevirtual 178, 3) := by decide +kernel
theorem d_CiteForge_run_33 : decode prog_1_method_13_code 33 = .ok (.ifCond .ne 11, 3) := by decide +kernel
theorem d_CiteForge_run_36 : decode prog_1_method_13_code 36 = .ok (.new 182, 3) := by decide +kernel
theorem d_CiteForge_run_39 : decode prog_1_method_13_code 39 = .ok (.dup, 1) := by decide +kernel
theorem d_CiteForge_run_40 : decode prog_1_method_13_code 40 = .ok (.invokespecial 184, 3) := by decide +kernel
theorem d_CiteForge_run_43 : decode prog_1_method_13_code 43 = .ok (.athrow, 1) := by decide +kernel
theorem d_CiteForge_run_44 : decode prog_1_method_13_code 44 = .ok (.aload_n 0, 1) := by decide +kernel
theorem d_CiteForge_run_45 : decode prog_1_method_13_code 45 = .ok (.getfield 57, 3) := by decide +kernel
theorem d_CiteForge_run_48 : decode prog_1_method_13_code 48 = .ok (.invokevirtual 185, 3) := by decide +kernel
theorem d_CiteForge_run_51 : decode prog_1_method_13_code 51 = .ok (.ireturn, 1) := by decide +kernel
theorem d_CiteForge_isBrace_0 : decode prog_1_method_27_code 0 = .ok (.iload_n 0, 1) := by decide +kernel
theorem d_CiteForge_isBrace_1 : decode prog_1_method_27_code 1 = .ok (.bipush 123, 2) := by decide +kernel
theorem d_CiteForge_isBrace_3 : decode prog_1_method_27_code 3 = .ok (.if_icmp .eq 9, 3) := by decide +kernel
theorem d_CiteForge_isBrace_6 : decode prog_1_method_27_code 6 = .ok (.iload_n 0, 1) := by decide +kernel
theorem d_CiteForge_isBrace_7 : decode prog_1_method_27_code 7 = .ok (.bipush 125, 2) := by decide +kernel
theorem d_CiteForge_isBrace_9 : decode prog_1_method_27_code 9 = .ok (.if_icmp .ne 7, 3) := by decide +kernel
theorem d_CiteForge_isBrace_12 : decode prog_1_method_27_code 12 = .ok (.iconst 1, 1) := by decide +kernel
theorem d_CiteForge_isBrace_13 : decode prog_1_method_27_code 13 = .ok (.goto 4, 3) := by decide +kernel
theorem d_CiteForge_isBrace_16 : decode prog_1_method_27_code 16 = .ok (.iconst 0, 1) := by decide +kernel
theorem d_CiteForge_isBrace_17 : decode prog_1_method_27_code 17 = .ok (.ireturn, 1) := by decide +kernel
theorem d_CiteForge_isSmall_0 : decode prog_1_method_23_code 0 = .ok (.iload_n 0, 1) := by decide +kernel
theorem d_CiteForge_isSmall_1 : decode prog_1_method_23_code 1 = .ok (.bipush 97, 2) := by decide +kernel
theorem d_CiteForge_isSmall_3 : decode prog_1_method_23_code 3 = .ok (.if_icmp .lt 13, 3) := by decide +kernel
theorem d_CiteForge_isSmall_6 : decode prog_1_method_23_code 6 = .ok (.iload_n 0, 1) := by decide +kernel
theorem d_CiteForge_isSmall_7 : decode prog_1_method_23_code 7 = .ok (.bipush 122, 2) := by decide +kernel
theorem d_CiteForge_isSmall_9 : decode prog_1_method_23_code 9 = .ok (.if_icmp .gt 7, 3) := by decide +kernel
theorem d_CiteForge_isSmall_12 : decode prog_1_method_23_code 12 = .ok (.iconst 1, 1) := by decide +kernel
theorem d_CiteForge_isSmall_13 : decode prog_1_method_23_code 13 = .ok (.goto 4, 3) := by decide +kernel
theorem d_CiteForge_isSmall_16 : decode prog_1_method_23_code 16 = .ok (.iconst 0, 1) := by decide +kernel
theorem d_CiteForge_isSmall_17 : decode prog_1_method_23_code 17 = .ok (.ireturn, 1) := by decide +kernel
theorem d_CiteForge_capitalOf_0 : decode prog_1_method_31_code 0 = .ok (.iload_n 0, 1) := by decide +kernel
theorem d_CiteForge_capitalOf_1 : decode prog_1_method_31_code 1 = .ok (.invokestatic 235, 3) := by decide +kernel
theorem d_CiteForge_capitalOf_4 : decode prog_1_method_31_code 4 = .ok (.ifCond .eq 11, 3) := by decide +kernel
theorem d_CiteForge_capitalOf_7 : decode prog_1_method_31_code 7 = .ok (.iload_n 0, 1) := by decide +kernel
theorem d_CiteForge_capitalOf_8 : decode prog_1_method_31_code 8 = .ok (.bipush 32, 2) := by decide +kernel
theorem d_CiteForge_capitalOf_10 : decode prog_1_method_31_code 10 = .ok (.isub, 1) := by decide +kernel
theorem d_CiteForge_capitalOf_11 : decode prog_1_method_31_code 11 = .ok (.i2c, 1) := by decide +kernel
theorem d_CiteForge_capitalOf_12 : decode prog_1_method_31_code 12 = .ok (.goto 4, 3) := by decide +kernel
theorem d_CiteForge_capitalOf_15 : decode prog_1_method_31_code 15 = .ok (.iload_n 0, 1) := by decide +kernel
theorem d_CiteForge_capitalOf_16 : decode prog_1_method_31_code 16 = .ok (.ireturn, 1) := by decide +kernel
theorem d_CiteForge_kind_0 : decode prog_1_method_15_code 0 = .ok (.aload_n 0, 1) := by decide +kernel
theorem d_CiteForge_kind_1 : decode prog_1_method_15_code 1 = .ok (.getfield 41, 3) := by decide +kernel
theorem d_CiteForge_kind_4 : decode prog_1_method_15_code 4 = .ok (.iload_n 1, 1) := by decide +kernel
theorem d_CiteForge_kind_5 : decode prog_1_method_15_code 5 = .ok (.invokevirtual 189, 3) := by decide +kernel
theorem d_CiteForge_kind_8 : decode prog_1_method_15_code 8 = .ok (.ifCond .ne 11, 3) := by decide +kernel
theorem d_CiteForge_kind_11 : decode prog_1_method_15_code 11 = .ok (.new 130, 3) := by decide +kernel
theorem d_CiteForge_kind_14 : decode prog_1_method_15_code 14 = .ok (.dup, 1) := by decide +kernel
theorem d_CiteForge_kind_15 : decode prog_1_method_15_code 15 = .ok (.invokespecial 132, 3) := by decide +kernel
theorem d_CiteForge_kind_18 : decode prog_1_method_15_code 18 = .ok (.athrow, 1) := by decide +kernel
theorem d_CiteForge_kind_19 : decode prog_1_method_15_code 19 = .ok (.aload_n 0, 1) := by decide +kernel
theorem d_CiteForge_kind_20 : decode prog_1_method_15_code 20 = .ok (.getfield 41, 3) := by decide +kernel
theorem d_CiteForge_kind_23 : decode prog_1_method_15_code 23 = .ok (.iload_n 1, 1) := by decide +kernel
theorem d_CiteForge_kind_24 : decode prog_1_method_15_code 24 = .ok (.invokevirtual 190, 3) := by decide +kernel
theorem d_CiteForge_kind_27 : decode prog_1_method_15_code 27 = .ok (.getfield 194, 3) := by decide +kernel
theorem d_CiteForge_kind_30 : decode prog_1_method_15_code 30 = .ok (.ireturn, 1) := by decide +kernel
theorem d_CiteForge_value_0 : decode prog_1_method_16_code 0 = .ok (.aload_n 0, 1) := by decide +kernel
theorem d_CiteForge_value_1 : decode prog_1_method_16_code 1 = .ok (.getfield 41, 3) := by decide +kernel
theorem d_CiteForge_value_4 : decode prog_1_method_16_code 4 = .ok (.iload_n 1, 1) := by decide +kernel
theorem d_CiteForge_value_5 : decode prog_1_method_16_code 5 = .ok (.invokevirtual 189, 3) := by decide +kernel
theorem d_CiteForge_value_8 : decode prog_1_method_16_code 8 = .ok (.ifCond .ne 11, 3) := by decide +kernel
theorem d_CiteForge_value_11 : decode prog_1_method_16_code 11 = .ok (.new 130, 3) := by decide +kernel
theorem d_CiteForge_value_14 : decode prog_1_method_16_code 14 = .ok (.dup, 1) := by decide +kernel
theorem d_CiteForge_value_15 : decode prog_1_method_16_code 15 = .ok (.invokespecial 132, 3) := by decide +kernel
theorem d_CiteForge_value_18 : decode prog_1_method_16_code 18 = .ok (.athrow, 1) := by decide +kernel
theorem d_CiteForge_value_19 : decode prog_1_method_16_code 19 = .ok (.aload_n 0, 1) := by decide +kernel
theorem d_CiteForge_value_20 : decode prog_1_method_16_code 20 = .ok (.getfield 41, 3) := by decide +kernel
theorem d_CiteForge_value_23 : decode prog_1_method_16_code 23 = .ok (.iload_n 1, 1) := by decide +kernel
theorem d_CiteForge_value_24 : decode prog_1_method_16_code 24 = .ok (.invokevirtual 190, 3) := by decide +kernel
theorem d_CiteForge_value_27 : decode prog_1_method_16_code 27 = .ok (.astore_n 2, 1) := by decide +kernel
theorem d_CiteForge_value_28 : decode prog_1_method_16_code 28 = .ok (.aload_n 2, 1) := by decide +kernel
theorem d_CiteForge_value_29 : decode prog_1_method_16_code 29 = .ok (.getfield 194, 3) := by decide +kernel
theorem d_CiteForge_value_32 : decode prog_1_method_16_code 32 = .ok (.ifCond .ne 10, 3) := by decide +kernel
theorem d_CiteForge_value_35 : decode prog_1_method_16_code 35 = .ok (.aload_n 2, 1) := by decide +kernel
theorem d_CiteForge_value_36 : decode prog_1_method_16_code 36 = .ok (.getfield 200, 3) := by decide +kernel
theorem d_CiteForge_value_39 : decode prog_1_method_16_code 39 = .ok (.goto 10, 3) := by decide +kernel
theorem d_CiteForge_value_42 : decode prog_1_method_16_code 42 = .ok (.aload_n 2, 1) := by decide +kernel
theorem d_CiteForge_value_43 : decode prog_1_method_16_code 43 = .ok (.getfield 203, 3) := by decide +kernel
theorem d_CiteForge_value_46 : decode prog_1_method_16_code 46 = .ok (.invokevirtual 207, 3) := by decide +kernel
theorem d_CiteForge_value_49 : decode prog_1_method_16_code 49 = .ok (.ireturn, 1) := by decide +kernel
theorem d_CiteForge_letter_0 : decode prog_1_method_17_code 0 = .ok (.aload_n 0, 1) := by decide +kernel
theorem d_CiteForge_letter_1 : decode prog_1_method_17_code 1 = .ok (.getfield 41, 3) := by decide +kernel
theorem d_CiteForge_letter_4 : decode prog_1_method_17_code 4 = .ok (.iload_n 1, 1) := by decide +kernel
theorem d_CiteForge_letter_5 : decode prog_1_method_17_code 5 = .ok (.invokevirtual 189, 3) := by decide +kernel
theorem d_CiteForge_letter_8 : decode prog_1_method_17_code 8 = .ok (.ifCond .eq 21, 3) := by decide +kernel
theorem d_CiteForge_letter_11 : decode prog_1_method_17_code 11 = .ok (.aload_n 0, 1) := by decide +kernel
theorem d_CiteForge_letter_12 : decode prog_1_method_17_code 12 = .ok (.getfield 41, 3) := by decide +kernel
theorem d_CiteForge_letter_15 : decode prog_1_method_17_code 15 = .ok (.iload_n 1, 1) := by decide +kernel
theorem d_CiteForge_letter_16 : decode prog_1_method_17_code 16 = .ok (.invokevirtual 190, 3) := by decide +kernel
theorem d_CiteForge_letter_19 : decode prog_1_method_17_code 19 = .ok (.getfield 203, 3) := by decide +kernel
theorem d_CiteForge_letter_22 : decode prog_1_method_17_code 22 = .ok (.iload_n 2, 1) := by decide +kernel
theorem d_CiteForge_letter_23 : decode prog_1_method_17_code 23 = .ok (.invokevirtual 153, 3) := by decide +kernel
theorem d_CiteForge_letter_26 : decode prog_1_method_17_code 26 = .ok (.ifCond .ne 11, 3) := by decide +kernel
theorem d_CiteForge_letter_29 : decode prog_1_method_17_code 29 = .ok (.new 130, 3) := by decide +kernel
theorem d_CiteForge_letter_32 : decode prog_1_method_17_code 32 = .ok (.dup, 1) := by decide +kernel
theorem d_CiteForge_letter_33 : decode prog_1_method_17_code 33 = .ok (.invokespecial 132, 3) := by decide +kernel
theorem d_CiteForge_letter_36 : decode prog_1_method_17_code 36 = .ok (.athrow, 1) := by decide +kernel
theorem d_CiteForge_letter_37 : decode prog_1_method_17_code 37 = .ok (.aload_n 0, 1) := by decide +kernel
theorem d_CiteForge_letter_38 : decode prog_1_method_17_code 38 = .ok (.getfield 41, 3) := by decide +kernel
theorem d_CiteForge_letter_41 : decode prog_1_method_17_code 41 = .ok (.iload_n 1, 1) := by decide +kernel
theorem d_CiteForge_letter_42 : decode prog_1_method_17_code 42 = .ok (.invokevirtual 190, 3) := by decide +kernel
theorem d_CiteForge_letter_45 : decode prog_1_method_17_code 45 = .ok (.getfield 203, 3) := by decide +kernel
theorem d_CiteForge_letter_48 : decode prog_1_method_17_code 48 = .ok (.iload_n 2, 1) := by decide +kernel
theorem d_CiteForge_letter_49 : decode prog_1_method_17_code 49 = .ok (.invokevirtual 158, 3) := by decide +kernel
theorem d_CiteForge_letter_52 : decode prog_1_method_17_code 52 = .ok (.ireturn, 1) := by decide +kernel
theorem d_CiteForge_line_0 : decode prog_1_method_19_code 0 = .ok (.aload_n 0, 1) := by decide +kernel
theorem d_CiteForge_line_1 : decode prog_1_method_19_code 1 = .ok (.getfield 48, 3) := by decide +kernel
theorem d_CiteForge_line_4 : decode prog_1_method_19_code 4 = .ok (.iload_n 1, 1) := by decide +kernel
theorem d_CiteForge_line_5 : decode prog_1_method_19_code 5 = .ok (.invokevirtual 211, 3) := by decide +kernel
theorem d_CiteForge_line_8 : decode prog_1_method_19_code 8 = .ok (.ifCond .ne 11, 3) := by decide +kernel
theorem d_CiteForge_line_11 : decode prog_1_method_19_code 11 = .ok (.new 150, 3) := by decide +kernel
theorem d_CiteForge_line_14 : decode prog_1_method_19_code 14 = .ok (.dup, 1) := by decide +kernel
theorem d_CiteForge_line_15 : decode prog_1_method_19_code 15 = .ok (.invokespecial 152, 3) := by decide +kernel
theorem d_CiteForge_line_18 : decode prog_1_method_19_code 18 = .ok (.athrow, 1) := by decide +kernel
theorem d_CiteForge_line_19 : decode prog_1_method_19_code 19 = .ok (.aload_n 0, 1) := by decide +kernel
theorem d_CiteForge_line_20 : decode prog_1_method_19_code 20 = .ok (.getfield 48, 3) := by decide +kernel
theorem d_CiteForge_line_23 : decode prog_1_method_19_code 23 = .ok (.iload_n 1, 1) := by decide +kernel
theorem d_CiteForge_line_24 : decode prog_1_method_19_code 24 = .ok (.invokevirtual 214, 3) := by decide +kernel
theorem d_CiteForge_line_27 : decode prog_1_method_19_code 27 = .ok (.iload_n 2, 1) := by decide +kernel
theorem d_CiteForge_line_28 : decode prog_1_method_19_code 28 = .ok (.invokevirtual 153, 3) := by decide +kernel
theorem d_CiteForge_line_31 : decode prog_1_method_19_code 31 = .ok (.ifCond .ne 11, 3) := by decide +kernel
theorem d_CiteForge_line_34 : decode prog_1_method_19_code 34 = .ok (.new 130, 3) := by decide +kernel
theorem d_CiteForge_line_37 : decode prog_1_method_19_code 37 = .ok (.dup, 1) := by decide +kernel
theorem d_CiteForge_line_38 : decode prog_1_method_19_code 38 = .ok (.invokespecial 132, 3) := by decide +kernel
theorem d_CiteForge_line_41 : decode prog_1_method_19_code 41 = .ok (.athrow, 1) := by decide +kernel
theorem d_CiteForge_line_42 : decode prog_1_method_19_code 42 = .ok (.aload_n 0, 1) := by decide +kernel
theorem d_CiteForge_line_43 : decode prog_1_method_19_code 43 = .ok (.getfield 48, 3) := by decide +kernel
theorem d_CiteForge_line_46 : decode prog_1_method_19_code 46 = .ok (.iload_n 1, 1) := by decide +kernel
theorem d_CiteForge_line_47 : decode prog_1_method_19_code 47 = .ok (.invokevirtual 214, 3) := by decide +kernel
theorem d_CiteForge_line_50 : decode prog_1_method_19_code 50 = .ok (.iload_n 2, 1) := by decide +kernel
theorem d_CiteForge_line_51 : decode prog_1_method_19_code 51 = .ok (.invokevirtual 158, 3) := by decide +kernel
theorem d_CiteForge_line_54 : decode prog_1_method_19_code 54 = .ok (.ireturn, 1) := by decide +kernel
theorem d_CiteForge_count_0 : decode prog_1_method_20_code 0 = .ok (.iload_n 1, 1) := by decide +kernel
theorem d_CiteForge_count_1 : decode prog_1_method_20_code 1 = .ok (.tableswitch 75 0 4 #[35, 43, 51, 59, 67], 35) := by decide +kernel
theorem d_CiteForge_count_36 : decode prog_1_method_20_code 36 = .ok (.aload_n 0, 1) := by decide +kernel
theorem d_CiteForge_count_37 : decode prog_1_method_20_code 37 = .ok (.getfield 18, 3) := by decide +kernel
theorem d_CiteForge_count_40 : decode prog_1_method_20_code 40 = .ok (.invokevirtual 99, 3) := by decide +kernel
theorem d_CiteForge_count_43 : decode prog_1_method_20_code 43 = .ok (.ireturn, 1) := by decide +kernel
theorem d_CiteForge_count_44 : decode prog_1_method_20_code 44 = .ok (.aload_n 0, 1) := by decide +kernel
theorem d_CiteForge_count_45 : decode prog_1_method_20_code 45 = .ok (.getfield 34, 3) := by decide +kernel
theorem d_CiteForge_count_48 : decode prog_1_method_20_code 48 = .ok (.invokevirtual 124, 3) := by decide +kernel
theorem d_CiteForge_count_51 : decode prog_1_method_20_code 51 = .ok (.ireturn, 1) := by decide +kernel
theorem d_CiteForge_count_52 : decode prog_1_method_20_code 52 = .ok (.aload_n 0, 1) := by decide +kernel
theorem d_CiteForge_count_53 : decode prog_1_method_20_code 53 = .ok (.getfield 48, 3) := by decide +kernel
theorem d_CiteForge_count_56 : decode prog_1_method_20_code 56 = .ok (.invokevirtual 218, 3) := by decide +kernel
theorem d_CiteForge_count_59 : decode prog_1_method_20_code 59 = .ok (.ireturn, 1) := by decide +kernel
theorem d_CiteForge_count_60 : decode prog_1_method_20_code 60 = .ok (.aload_n 0, 1) := by decide +kernel
theorem d_CiteForge_count_61 : decode prog_1_method_20_code 61 = .ok (.getfield 48, 3) := by decide +kernel
theorem d_CiteForge_count_64 : decode prog_1_method_20_code 64 = .ok (.invokevirtual 221, 3) := by decide +kernel
theorem d_CiteForge_count_67 : decode prog_1_method_20_code 67 = .ok (.ireturn, 1) := by decide +kernel
theorem d_CiteForge_count_68 : decode prog_1_method_20_code 68 = .ok (.aload_n 0, 1) := by decide +kernel
theorem d_CiteForge_count_69 : decode prog_1_method_20_code 69 = .ok (.getfield 34, 3) := by decide +kernel
theorem d_CiteForge_count_72 : decode prog_1_method_20_code 72 = .ok (.invokevirtual 224, 3) := by decide +kernel
theorem d_CiteForge_count_75 : decode prog_1_method_20_code 75 = .ok (.ireturn, 1) := by decide +kernel
theorem d_CiteForge_count_76 : decode prog_1_method_20_code 76 = .ok (.new 130, 3) := by decide +kernel
theorem d_CiteForge_count_79 : decode prog_1_method_20_code 79 = .ok (.dup, 1) := by decide +kernel
theorem d_CiteForge_count_80 : decode prog_1_method_20_code 80 = .ok (.invokespecial 132, 3) := by decide +kernel
theorem d_CiteForge_count_83 : decode prog_1_method_20_code 83 = .ok (.athrow, 1) := by decide +kernel
theorem d_CiteForge_warnings_0 : decode prog_1_method_21_code 0 = .ok (.iload_n 1, 1) := by decide +kernel
theorem d_CiteForge_warnings_1 : decode prog_1_method_21_code 1 = .ok (.iconst 1, 1) := by decide +kernel
theorem d_CiteForge_warnings_2 : decode prog_1_method_21_code 2 = .ok (.if_icmp .lt 9, 3) := by decide +kernel
theorem d_CiteForge_warnings_5 : decode prog_1_method_21_code 5 = .ok (.iload_n 1, 1) := by decide +kernel
theorem d_CiteForge_warnings_6 : decode prog_1_method_21_code 6 = .ok (.bipush 9, 2) := by decide +kernel
theorem d_CiteForge_warnings_8 : decode prog_1_method_21_code 8 = .ok (.if_icmp .le 11, 3) := by decide +kernel
theorem d_CiteForge_warnings_11 : decode prog_1_method_21_code 11 = .ok (.new 130, 3) := by decide +kernel
theorem d_CiteForge_warnings_14 : decode prog_1_method_21_code 14 = .ok (.dup, 1) := by decide +kernel
theorem d_CiteForge_warnings_15 : decode prog_1_method_21_code 15 = .ok (.invokespecial 132, 3) := by decide +kernel
theorem d_CiteForge_warnings_18 : decode prog_1_method_21_code 18 = .ok (.athrow, 1) := by decide +kernel
theorem d_CiteForge_warnings_19 : decode prog_1_method_21_code 19 = .ok (.aload_n 0, 1) := by decide +kernel
theorem d_CiteForge_warnings_20 : decode prog_1_method_21_code 20 = .ok (.getfield 9, 3) := by decide +kernel
theorem d_CiteForge_warnings_23 : decode prog_1_method_21_code 23 = .ok (.iload_n 1, 1) := by decide +kernel
theorem d_CiteForge_warnings_24 : decode prog_1_method_21_code 24 = .ok (.iaload, 1) := by decide +kernel
theorem d_CiteForge_warnings_25 : decode prog_1_method_21_code 25 = .ok (.ireturn, 1) := by decide +kernel
theorem d_Value_init_0 : decode prog_12_method_1_code 0 = .ok (.aload_n 0, 1) := by decide +kernel
theorem d_Value_init_1 : decode prog_12_method_1_code 1 = .ok (.invokespecial 3, 3) := by decide +kernel
theorem d_Value_init_4 : decode prog_12_method_1_code 4 = .ok (.aload_n 0, 1) := by decide +kernel
theorem d_Value_init_5 : decode prog_12_method_1_code 5 = .ok (.new 9, 3) := by decide +kernel
theorem d_Value_init_8 : decode prog_12_method_1_code 8 = .ok (.dup, 1) := by decide +kernel
theorem d_Value_init_9 : decode prog_12_method_1_code 9 = .ok (.bipush 60, 2) := by decide +kernel
theorem d_Value_init_11 : decode prog_12_method_1_code 11 = .ok (.invokespecial 11, 3) := by decide +kernel
theorem d_Value_init_14 : decode prog_12_method_1_code 14 = .ok (.putfield 14, 3) := by decide +kernel
theorem d_Value_init_17 : decode prog_12_method_1_code 17 = .ok (.return_, 1) := by decide +kernel
theorem d_Value_setToNumber_0 : decode prog_12_method_2_code 0 = .ok (.aload_n 0, 1) := by decide +kernel
theorem d_Value_setToNumber_1 : decode prog_12_method_2_code 1 = .ok (.iconst 0, 1) := by decide +kernel
theorem d_Value_setToNumber_2 : decode prog_12_method_2_code 2 = .ok (.putfield 20, 3) := by decide +kernel
theorem d_Value_setToNumber_5 : decode prog_12_method_2_code 5 = .ok (.aload_n 0, 1) := by decide +kernel
theorem d_Value_setToNumber_6 : decode prog_12_method_2_code 6 = .ok (.iload_n 1, 1) := by decide +kernel
