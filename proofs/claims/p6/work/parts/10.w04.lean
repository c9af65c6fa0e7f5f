/-! the W layer, 4 -/
theorem dX11_clear_0 : decode cX11_clear 0 = .ok (.aload_n 0, 1) := by decide +kernel
theorem dX11_clear_1 : decode cX11_clear 1 = .ok (.getfield 40, 3) := by decide +kernel
theorem dX11_clear_12 : decode cX11_clear 12 = .ok (.invokevirtual 147, 3) := by decide +kernel
theorem dX11_clear_15 : decode cX11_clear 15 = .ok (.ireturn, 1) := by decide +kernel
theorem dX11_clear_4 : decode cX11_clear 4 = .ok (.iconst 0, 1) := by decide +kernel
theorem dX11_clear_5 : decode cX11_clear 5 = .ok (.putfield 144, 3) := by decide +kernel
theorem dX11_clear_8 : decode cX11_clear 8 = .ok (.aload_n 0, 1) := by decide +kernel
theorem dX11_clear_9 : decode cX11_clear 9 = .ok (.getfield 26, 3) := by decide +kernel
theorem dX11_count_0 : decode cX11_count 0 = .ok (.iload_n 1, 1) := by decide +kernel
theorem dX11_count_1 : decode cX11_count 1 = .ok (.tableswitch 108 0 7 #[47, 55, 63, 71, 79, 87, 92, 100], 47) := by decide +kernel
theorem dX11_count_100 : decode cX11_count 100 = .ok (.ireturn, 1) := by decide +kernel
theorem dX11_count_101 : decode cX11_count 101 = .ok (.aload_n 0, 1) := by decide +kernel
theorem dX11_count_102 : decode cX11_count 102 = .ok (.getfield 19, 3) := by decide +kernel
theorem dX11_count_105 : decode cX11_count 105 = .ok (.getfield 117, 3) := by decide +kernel
theorem dX11_count_108 : decode cX11_count 108 = .ok (.ireturn, 1) := by decide +kernel
theorem dX11_count_109 : decode cX11_count 109 = .ok (.iconst (-1), 1) := by decide +kernel
theorem dX11_count_110 : decode cX11_count 110 = .ok (.ireturn, 1) := by decide +kernel
theorem dX11_count_48 : decode cX11_count 48 = .ok (.aload_n 0, 1) := by decide +kernel
theorem dX11_count_49 : decode cX11_count 49 = .ok (.getfield 26, 3) := by decide +kernel
theorem dX11_count_52 : decode cX11_count 52 = .ok (.getfield 151, 3) := by decide +kernel
theorem dX11_count_55 : decode cX11_count 55 = .ok (.ireturn, 1) := by decide +kernel
theorem dX11_count_56 : decode cX11_count 56 = .ok (.aload_n 0, 1) := by decide +kernel
theorem dX11_count_57 : decode cX11_count 57 = .ok (.getfield 40, 3) := by decide +kernel
theorem dX11_count_60 : decode cX11_count 60 = .ok (.getfield 144, 3) := by decide +kernel
theorem dX11_count_63 : decode cX11_count 63 = .ok (.ireturn, 1) := by decide +kernel
theorem dX11_count_64 : decode cX11_count 64 = .ok (.aload_n 0, 1) := by decide +kernel
theorem dX11_count_65 : decode cX11_count 65 = .ok (.getfield 54, 3) := by decide +kernel
theorem dX11_count_68 : decode cX11_count 68 = .ok (.getfield 152, 3) := by decide +kernel
theorem dX11_count_71 : decode cX11_count 71 = .ok (.ireturn, 1) := by decide +kernel
theorem dX11_count_72 : decode cX11_count 72 = .ok (.aload_n 0, 1) := by decide +kernel
theorem dX11_count_73 : decode cX11_count 73 = .ok (.getfield 61, 3) := by decide +kernel
theorem dX11_count_76 : decode cX11_count 76 = .ok (.getfield 153, 3) := by decide +kernel
theorem dX11_count_79 : decode cX11_count 79 = .ok (.ireturn, 1) := by decide +kernel
theorem dX11_count_80 : decode cX11_count 80 = .ok (.aload_n 0, 1) := by decide +kernel
theorem dX11_count_81 : decode cX11_count 81 = .ok (.getfield 68, 3) := by decide +kernel
theorem dX11_count_84 : decode cX11_count 84 = .ok (.getfield 154, 3) := by decide +kernel
theorem dX11_count_87 : decode cX11_count 87 = .ok (.ireturn, 1) := by decide +kernel
theorem dX11_count_88 : decode cX11_count 88 = .ok (.aload_n 0, 1) := by decide +kernel
theorem dX11_count_89 : decode cX11_count 89 = .ok (.getfield 76, 3) := by decide +kernel
theorem dX11_count_92 : decode cX11_count 92 = .ok (.ireturn, 1) := by decide +kernel
theorem dX11_count_93 : decode cX11_count 93 = .ok (.aload_n 0, 1) := by decide +kernel
theorem dX11_count_94 : decode cX11_count 94 = .ok (.getfield 12, 3) := by decide +kernel
theorem dX11_count_97 : decode cX11_count 97 = .ok (.getfield 155, 3) := by decide +kernel
theorem dX11_greatestDivisor_0 : decode cX11_greatestDivisor 0 = .ok (.iload_n 0, 1) := by decide +kernel
theorem dX11_greatestDivisor_1 : decode cX11_greatestDivisor 1 = .ok (.istore_n 3, 1) := by decide +kernel
theorem dX11_greatestDivisor_10 : decode cX11_greatestDivisor 10 = .ok (.ifCond .ne 14, 3) := by decide +kernel
theorem dX11_greatestDivisor_13 : decode cX11_greatestDivisor 13 = .ok (.lload_n 1, 1) := by decide +kernel
theorem dX11_greatestDivisor_14 : decode cX11_greatestDivisor 14 = .ok (.iload_n 3, 1) := by decide +kernel
theorem dX11_greatestDivisor_15 : decode cX11_greatestDivisor 15 = .ok (.i2l, 1) := by decide +kernel
theorem dX11_greatestDivisor_16 : decode cX11_greatestDivisor 16 = .ok (.lrem, 1) := by decide +kernel
theorem dX11_greatestDivisor_17 : decode cX11_greatestDivisor 17 = .ok (.lconst 0, 1) := by decide +kernel
theorem dX11_greatestDivisor_18 : decode cX11_greatestDivisor 18 = .ok (.lcmp, 1) := by decide +kernel
theorem dX11_greatestDivisor_19 : decode cX11_greatestDivisor 19 = .ok (.ifCond .ne 5, 3) := by decide +kernel
theorem dX11_greatestDivisor_2 : decode cX11_greatestDivisor 2 = .ok (.iload_n 3, 1) := by decide +kernel
theorem dX11_greatestDivisor_22 : decode cX11_greatestDivisor 22 = .ok (.iload_n 3, 1) := by decide +kernel
theorem dX11_greatestDivisor_23 : decode cX11_greatestDivisor 23 = .ok (.ireturn, 1) := by decide +kernel
theorem dX11_greatestDivisor_24 : decode cX11_greatestDivisor 24 = .ok (.iinc 3 (-1), 3) := by decide +kernel
theorem dX11_greatestDivisor_27 : decode cX11_greatestDivisor 27 = .ok (.goto (-25), 3) := by decide +kernel
theorem dX11_greatestDivisor_3 : decode cX11_greatestDivisor 3 = .ok (.iconst 1, 1) := by decide +kernel
theorem dX11_greatestDivisor_30 : decode cX11_greatestDivisor 30 = .ok (.iconst 1, 1) := by decide +kernel
theorem dX11_greatestDivisor_31 : decode cX11_greatestDivisor 31 = .ok (.ireturn, 1) := by decide +kernel
theorem dX11_greatestDivisor_4 : decode cX11_greatestDivisor 4 = .ok (.if_icmp .le 26, 3) := by decide +kernel
theorem dX11_greatestDivisor_7 : decode cX11_greatestDivisor 7 = .ok (.iload_n 0, 1) := by decide +kernel
theorem dX11_greatestDivisor_8 : decode cX11_greatestDivisor 8 = .ok (.iload_n 3, 1) := by decide +kernel
theorem dX11_greatestDivisor_9 : decode cX11_greatestDivisor 9 = .ok (.irem, 1) := by decide +kernel
theorem dX11_inch_0 : decode cX11_inch 0 = .ok (.aload_n 0, 1) := by decide +kernel
theorem dX11_inch_1 : decode cX11_inch 1 = .ok (.getfield 26, 3) := by decide +kernel
theorem dX11_inch_10 : decode cX11_inch 10 = .ok (.ifnonnull 7, 3) := by decide +kernel
theorem dX11_inch_13 : decode cX11_inch 13 = .ok (.iconst (-1), 1) := by decide +kernel
theorem dX11_inch_14 : decode cX11_inch 14 = .ok (.goto 11, 3) := by decide +kernel
theorem dX11_inch_17 : decode cX11_inch 17 = .ok (.aload_n 3, 1) := by decide +kernel
theorem dX11_inch_18 : decode cX11_inch 18 = .ok (.getfield 108, 3) := by decide +kernel
theorem dX11_inch_21 : decode cX11_inch 21 = .ok (.iload_n 2, 1) := by decide +kernel
theorem dX11_inch_22 : decode cX11_inch 22 = .ok (.invokevirtual 92, 3) := by decide +kernel
theorem dX11_inch_25 : decode cX11_inch 25 = .ok (.ireturn, 1) := by decide +kernel
theorem dX11_inch_4 : decode cX11_inch 4 = .ok (.iload_n 1, 1) := by decide +kernel
theorem dX11_inch_5 : decode cX11_inch 5 = .ok (.invokevirtual 104, 3) := by decide +kernel
theorem dX11_inch_8 : decode cX11_inch 8 = .ok (.astore_n 3, 1) := by decide +kernel
theorem dX11_inch_9 : decode cX11_inch 9 = .ok (.aload_n 3, 1) := by decide +kernel
theorem dX11_motor_0 : decode cX11_motor 0 = .ok (.iload_n 1, 1) := by decide +kernel
theorem dX11_motor_1 : decode cX11_motor 1 = .ok (.invokestatic 95, 3) := by decide +kernel
theorem dX11_motor_12 : decode cX11_motor 12 = .ok (.invokestatic 113, 3) := by decide +kernel
theorem dX11_motor_15 : decode cX11_motor 15 = .ok (.ifCond .eq 14, 3) := by decide +kernel
theorem dX11_motor_18 : decode cX11_motor 18 = .ok (.iload_n 3, 1) := by decide +kernel
theorem dX11_motor_19 : decode cX11_motor 19 = .ok (.bipush (-9), 2) := by decide +kernel
theorem dX11_motor_21 : decode cX11_motor 21 = .ok (.bipush 9, 2) := by decide +kernel
theorem dX11_motor_23 : decode cX11_motor 23 = .ok (.invokestatic 113, 3) := by decide +kernel
theorem dX11_motor_26 : decode cX11_motor 26 = .ok (.ifCond .ne 5, 3) := by decide +kernel
theorem dX11_motor_29 : decode cX11_motor 29 = .ok (.iconst 0, 1) := by decide +kernel
theorem dX11_motor_30 : decode cX11_motor 30 = .ok (.ireturn, 1) := by decide +kernel
theorem dX11_motor_31 : decode cX11_motor 31 = .ok (.aload_n 0, 1) := by decide +kernel
theorem dX11_motor_32 : decode cX11_motor 32 = .ok (.getfield 26, 3) := by decide +kernel
theorem dX11_motor_35 : decode cX11_motor 35 = .ok (.iload_n 1, 1) := by decide +kernel
theorem dX11_motor_36 : decode cX11_motor 36 = .ok (.invokevirtual 134, 3) := by decide +kernel
theorem dX11_motor_39 : decode cX11_motor 39 = .ok (.iload_n 2, 1) := by decide +kernel
theorem dX11_motor_4 : decode cX11_motor 4 = .ok (.ifCond .eq 25, 3) := by decide +kernel
theorem dX11_motor_40 : decode cX11_motor 40 = .ok (.iload_n 3, 1) := by decide +kernel
theorem dX11_motor_41 : decode cX11_motor 41 = .ok (.invokevirtual 138, 3) := by decide +kernel
theorem dX11_motor_44 : decode cX11_motor 44 = .ok (.ireturn, 1) := by decide +kernel
theorem dX11_motor_7 : decode cX11_motor 7 = .ok (.iload_n 2, 1) := by decide +kernel
theorem dX11_motor_8 : decode cX11_motor 8 = .ok (.iconst 0, 1) := by decide +kernel
theorem dX11_motor_9 : decode cX11_motor 9 = .ok (.sipush 5000, 3) := by decide +kernel
theorem dX11_of_0 : decode cX11_of 0 = .ok (.aload_n 0, 1) := by decide +kernel
theorem dX11_of_1 : decode cX11_of 1 = .ok (.getfield 26, 3) := by decide +kernel
theorem dX11_of_10 : decode cX11_of 10 = .ok (.ifnonnull 11, 3) := by decide +kernel
theorem dX11_of_100 : decode cX11_of 100 = .ok (.dup, 1) := by decide +kernel
theorem dX11_of_101 : decode cX11_of 101 = .ok (.invokespecial 158, 3) := by decide +kernel
theorem dX11_of_104 : decode cX11_of 104 = .ok (.athrow, 1) := by decide +kernel
theorem dX11_of_13 : decode cX11_of 13 = .ok (.new 156, 3) := by decide +kernel
theorem dX11_of_16 : decode cX11_of 16 = .ok (.dup, 1) := by decide +kernel
theorem dX11_of_17 : decode cX11_of 17 = .ok (.invokespecial 158, 3) := by decide +kernel
theorem dX11_of_20 : decode cX11_of 20 = .ok (.athrow, 1) := by decide +kernel
theorem dX11_of_21 : decode cX11_of 21 = .ok (.iload_n 2, 1) := by decide +kernel
theorem dX11_of_22 : decode cX11_of 22 = .ok (.tableswitch 75 0 5 #[38, 46, 51, 56, 61, 70], 38) := by decide +kernel
theorem dX11_of_4 : decode cX11_of 4 = .ok (.iload_n 1, 1) := by decide +kernel
theorem dX11_of_5 : decode cX11_of 5 = .ok (.invokevirtual 104, 3) := by decide +kernel
theorem dX11_of_60 : decode cX11_of 60 = .ok (.aload_n 3, 1) := by decide +kernel
theorem dX11_of_61 : decode cX11_of 61 = .ok (.getfield 108, 3) := by decide +kernel
theorem dX11_of_64 : decode cX11_of 64 = .ok (.getfield 117, 3) := by decide +kernel
theorem dX11_of_67 : decode cX11_of 67 = .ok (.ireturn, 1) := by decide +kernel
theorem dX11_of_68 : decode cX11_of 68 = .ok (.aload_n 3, 1) := by decide +kernel
theorem dX11_of_69 : decode cX11_of 69 = .ok (.getfield 124, 3) := by decide +kernel
theorem dX11_of_72 : decode cX11_of 72 = .ok (.ireturn, 1) := by decide +kernel
theorem dX11_of_73 : decode cX11_of 73 = .ok (.aload_n 3, 1) := by decide +kernel
theorem dX11_of_74 : decode cX11_of 74 = .ok (.getfield 127, 3) := by decide +kernel
theorem dX11_of_77 : decode cX11_of 77 = .ok (.ireturn, 1) := by decide +kernel
theorem dX11_of_78 : decode cX11_of 78 = .ok (.aload_n 3, 1) := by decide +kernel
theorem dX11_of_79 : decode cX11_of 79 = .ok (.getfield 159, 3) := by decide +kernel
theorem dX11_of_8 : decode cX11_of 8 = .ok (.astore_n 3, 1) := by decide +kernel
theorem dX11_of_82 : decode cX11_of 82 = .ok (.ireturn, 1) := by decide +kernel
theorem dX11_of_83 : decode cX11_of 83 = .ok (.aload_n 0, 1) := by decide +kernel
theorem dX11_of_84 : decode cX11_of 84 = .ok (.getfield 26, 3) := by decide +kernel
theorem dX11_of_87 : decode cX11_of 87 = .ok (.aload_n 3, 1) := by decide +kernel
theorem dX11_of_88 : decode cX11_of 88 = .ok (.invokevirtual 162, 3) := by decide +kernel
theorem dX11_of_9 : decode cX11_of 9 = .ok (.aload_n 3, 1) := by decide +kernel
theorem dX11_of_91 : decode cX11_of 91 = .ok (.ireturn, 1) := by decide +kernel
theorem dX11_of_92 : decode cX11_of 92 = .ok (.aload_n 3, 1) := by decide +kernel
theorem dX11_of_93 : decode cX11_of 93 = .ok (.getfield 166, 3) := by decide +kernel
theorem dX11_of_96 : decode cX11_of 96 = .ok (.ireturn, 1) := by decide +kernel
theorem dX11_of_97 : decode cX11_of 97 = .ok (.new 156, 3) := by decide +kernel
theorem dX11_way_0 : decode cX11_way 0 = .ok (.iload_n 1, 1) := by decide +kernel
theorem dX11_way_1 : decode cX11_way 1 = .ok (.invokestatic 95, 3) := by decide +kernel
theorem dX11_way_11 : decode cX11_way 11 = .ok (.invokestatic 113, 3) := by decide +kernel
theorem dX11_way_14 : decode cX11_way 14 = .ok (.ifCond .ne 11, 3) := by decide +kernel
theorem dX11_way_17 : decode cX11_way 17 = .ok (.new 156, 3) := by decide +kernel
theorem dX11_way_20 : decode cX11_way 20 = .ok (.dup, 1) := by decide +kernel
theorem dX11_way_21 : decode cX11_way 21 = .ok (.invokespecial 158, 3) := by decide +kernel
theorem dX11_way_24 : decode cX11_way 24 = .ok (.athrow, 1) := by decide +kernel
theorem dX11_way_25 : decode cX11_way 25 = .ok (.aload_n 0, 1) := by decide +kernel
theorem dX11_way_26 : decode cX11_way 26 = .ok (.getfield 26, 3) := by decide +kernel
theorem dX11_way_29 : decode cX11_way 29 = .ok (.iload_n 1, 1) := by decide +kernel
theorem dX11_way_30 : decode cX11_way 30 = .ok (.invokevirtual 134, 3) := by decide +kernel
theorem dX11_way_33 : decode cX11_way 33 = .ok (.iload_n 2, 1) := by decide +kernel
theorem dX11_way_34 : decode cX11_way 34 = .ok (.i2l, 1) := by decide +kernel
theorem dX11_way_35 : decode cX11_way 35 = .ok (.invokevirtual 170, 3) := by decide +kernel
theorem dX11_way_38 : decode cX11_way 38 = .ok (.lreturn, 1) := by decide +kernel
theorem dX11_way_4 : decode cX11_way 4 = .ok (.ifCond .eq 13, 3) := by decide +kernel
theorem dX11_way_7 : decode cX11_way 7 = .ok (.iload_n 2, 1) := by decide +kernel
theorem dX11_way_8 : decode cX11_way 8 = .ok (.iconst 0, 1) := by decide +kernel
theorem dX11_way_9 : decode cX11_way 9 = .ok (.ldc 169, 2) := by decide +kernel
theorem dX11_withoutShared_0 : decode cX11_withoutShared 0 = .ok (.iload_n 0, 1) := by decide +kernel
theorem dX11_withoutShared_1 : decode cX11_withoutShared 1 = .ok (.lload_n 1, 1) := by decide +kernel
theorem dX11_withoutShared_11 : decode cX11_withoutShared 11 = .ok (.iload_n 0, 1) := by decide +kernel
theorem dX11_withoutShared_12 : decode cX11_withoutShared 12 = .ok (.goto 6, 3) := by decide +kernel
theorem dX11_withoutShared_15 : decode cX11_withoutShared 15 = .ok (.iload_n 0, 1) := by decide +kernel
theorem dX11_withoutShared_16 : decode cX11_withoutShared 16 = .ok (.iload_n 3, 1) := by decide +kernel
theorem dX11_withoutShared_17 : decode cX11_withoutShared 17 = .ok (.idiv, 1) := by decide +kernel
theorem dX11_withoutShared_18 : decode cX11_withoutShared 18 = .ok (.ireturn, 1) := by decide +kernel
theorem dX11_withoutShared_2 : decode cX11_withoutShared 2 = .ok (.invokestatic 299, 3) := by decide +kernel
theorem dX11_withoutShared_5 : decode cX11_withoutShared 5 = .ok (.istore_n 3, 1) := by decide +kernel
theorem dX11_withoutShared_6 : decode cX11_withoutShared 6 = .ok (.iload_n 3, 1) := by decide +kernel
theorem dX11_withoutShared_7 : decode cX11_withoutShared 7 = .ok (.iconst 1, 1) := by decide +kernel
theorem dX11_withoutShared_8 : decode cX11_withoutShared 8 = .ok (.if_icmp .ge 7, 3) := by decide +kernel
theorem dX2_forget_0 : decode cX2_forget 0 = .ok (.aload_n 0, 1) := by decide +kernel
theorem dX2_forget_1 : decode cX2_forget 1 = .ok (.iconst 0, 1) := by decide +kernel
theorem dX2_forget_2 : decode cX2_forget 2 = .ok (.putfield 18, 3) := by decide +kernel
theorem dX2_forget_5 : decode cX2_forget 5 = .ok (.return_, 1) := by decide +kernel
theorem dX2_lastSpeed_0 : decode cX2_lastSpeed 0 = .ok (.aload_n 0, 1) := by decide +kernel
theorem dX2_lastSpeed_1 : decode cX2_lastSpeed 1 = .ok (.getfield 18, 3) := by decide +kernel
theorem dX2_lastSpeed_11 : decode cX2_lastSpeed 11 = .ok (.aload_n 0, 1) := by decide +kernel
theorem dX2_lastSpeed_12 : decode cX2_lastSpeed 12 = .ok (.getfield 15, 3) := by decide +kernel
theorem dX2_lastSpeed_15 : decode cX2_lastSpeed 15 = .ok (.aload_n 0, 1) := by decide +kernel
theorem dX2_lastSpeed_16 : decode cX2_lastSpeed 16 = .ok (.getfield 18, 3) := by decide +kernel
theorem dX2_lastSpeed_19 : decode cX2_lastSpeed 19 = .ok (.iconst 1, 1) := by decide +kernel
theorem dX2_lastSpeed_20 : decode cX2_lastSpeed 20 = .ok (.isub, 1) := by decide +kernel
theorem dX2_lastSpeed_21 : decode cX2_lastSpeed 21 = .ok (.iaload, 1) := by decide +kernel
theorem dX2_lastSpeed_22 : decode cX2_lastSpeed 22 = .ok (.ireturn, 1) := by decide +kernel
theorem dX2_lastSpeed_4 : decode cX2_lastSpeed 4 = .ok (.ifCond .ne 7, 3) := by decide +kernel
theorem dX2_lastSpeed_7 : decode cX2_lastSpeed 7 = .ok (.iconst 1, 1) := by decide +kernel
theorem dX2_lastSpeed_8 : decode cX2_lastSpeed 8 = .ok (.goto 14, 3) := by decide +kernel
theorem dX2_round_0 : decode cX2_round 0 = .ok (.iload_n 1, 1) := by decide +kernel
theorem dX2_round_1 : decode cX2_round 1 = .ok (.aload_n 0, 1) := by decide +kernel
theorem dX2_round_2 : decode cX2_round 2 = .ok (.invokevirtual 40, 3) := by decide +kernel
theorem dX2_round_5 : decode cX2_round 5 = .ok (.i2l, 1) := by decide +kernel
theorem dX2_round_6 : decode cX2_round 6 = .ok (.invokestatic 43, 3) := by decide +kernel
theorem dX2_round_9 : decode cX2_round 9 = .ok (.ireturn, 1) := by decide +kernel
theorem dX2_wayTo_0 : decode cX2_wayTo 0 = .ok (.lconst 0, 1) := by decide +kernel
theorem dX2_wayTo_1 : decode cX2_wayTo 1 = .ok (.lstore_n 3, 1) := by decide +kernel
theorem dX2_wayTo_11 : decode cX2_wayTo 11 = .ok (.iload 8, 2) := by decide +kernel
theorem dX2_wayTo_13 : decode cX2_wayTo 13 = .ok (.aload_n 0, 1) := by decide +kernel
theorem dX2_wayTo_14 : decode cX2_wayTo 14 = .ok (.getfield 18, 3) := by decide +kernel
theorem dX2_wayTo_17 : decode cX2_wayTo 17 = .ok (.if_icmp .ge 59, 3) := by decide +kernel
theorem dX2_wayTo_2 : decode cX2_wayTo 2 = .ok (.lconst 0, 1) := by decide +kernel
theorem dX2_wayTo_20 : decode cX2_wayTo 20 = .ok (.aload_n 0, 1) := by decide +kernel
theorem dX2_wayTo_21 : decode cX2_wayTo 21 = .ok (.getfield 9, 3) := by decide +kernel
theorem dX2_wayTo_24 : decode cX2_wayTo 24 = .ok (.iload 8, 2) := by decide +kernel
theorem dX2_wayTo_26 : decode cX2_wayTo 26 = .ok (.iaload, 1) := by decide +kernel
theorem dX2_wayTo_27 : decode cX2_wayTo 27 = .ok (.i2l, 1) := by decide +kernel
theorem dX2_wayTo_28 : decode cX2_wayTo 28 = .ok (.lload_n 1, 1) := by decide +kernel
theorem dX2_wayTo_29 : decode cX2_wayTo 29 = .ok (.lcmp, 1) := by decide +kernel
theorem dX2_wayTo_3 : decode cX2_wayTo 3 = .ok (.lstore 5, 2) := by decide +kernel
theorem dX2_wayTo_30 : decode cX2_wayTo 30 = .ok (.ifCond .ge 46, 3) := by decide +kernel
theorem dX2_wayTo_33 : decode cX2_wayTo 33 = .ok (.lload_n 3, 1) := by decide +kernel
theorem dX2_wayTo_34 : decode cX2_wayTo 34 = .ok (.aload_n 0, 1) := by decide +kernel
theorem dX2_wayTo_35 : decode cX2_wayTo 35 = .ok (.getfield 9, 3) := by decide +kernel
theorem dX2_wayTo_38 : decode cX2_wayTo 38 = .ok (.iload 8, 2) := by decide +kernel
theorem dX2_wayTo_40 : decode cX2_wayTo 40 = .ok (.iaload, 1) := by decide +kernel
theorem dX2_wayTo_41 : decode cX2_wayTo 41 = .ok (.i2l, 1) := by decide +kernel
theorem dX2_wayTo_42 : decode cX2_wayTo 42 = .ok (.lload 5, 2) := by decide +kernel
theorem dX2_wayTo_44 : decode cX2_wayTo 44 = .ok (.lsub, 1) := by decide +kernel
theorem dX2_wayTo_45 : decode cX2_wayTo 45 = .ok (.iload 7, 2) := by decide +kernel
theorem dX2_wayTo_47 : decode cX2_wayTo 47 = .ok (.i2l, 1) := by decide +kernel
theorem dX2_wayTo_48 : decode cX2_wayTo 48 = .ok (.lmul, 1) := by decide +kernel
theorem dX2_wayTo_49 : decode cX2_wayTo 49 = .ok (.ladd, 1) := by decide +kernel
theorem dX2_wayTo_5 : decode cX2_wayTo 5 = .ok (.iconst 1, 1) := by decide +kernel
theorem dX2_wayTo_50 : decode cX2_wayTo 50 = .ok (.lstore_n 3, 1) := by decide +kernel
theorem dX2_wayTo_51 : decode cX2_wayTo 51 = .ok (.aload_n 0, 1) := by decide +kernel
theorem dX2_wayTo_52 : decode cX2_wayTo 52 = .ok (.getfield 9, 3) := by decide +kernel
theorem dX2_wayTo_55 : decode cX2_wayTo 55 = .ok (.iload 8, 2) := by decide +kernel
theorem dX2_wayTo_57 : decode cX2_wayTo 57 = .ok (.iaload, 1) := by decide +kernel
theorem dX2_wayTo_58 : decode cX2_wayTo 58 = .ok (.i2l, 1) := by decide +kernel
theorem dX2_wayTo_59 : decode cX2_wayTo 59 = .ok (.lstore 5, 2) := by decide +kernel
theorem dX2_wayTo_6 : decode cX2_wayTo 6 = .ok (.istore 7, 2) := by decide +kernel
theorem dX2_wayTo_61 : decode cX2_wayTo 61 = .ok (.aload_n 0, 1) := by decide +kernel
theorem dX2_wayTo_62 : decode cX2_wayTo 62 = .ok (.getfield 15, 3) := by decide +kernel
theorem dX2_wayTo_65 : decode cX2_wayTo 65 = .ok (.iload 8, 2) := by decide +kernel
theorem dX2_wayTo_67 : decode cX2_wayTo 67 = .ok (.iaload, 1) := by decide +kernel
theorem dX2_wayTo_68 : decode cX2_wayTo 68 = .ok (.istore 7, 2) := by decide +kernel
theorem dX2_wayTo_70 : decode cX2_wayTo 70 = .ok (.iinc 8 1, 3) := by decide +kernel
theorem dX2_wayTo_73 : decode cX2_wayTo 73 = .ok (.goto (-62), 3) := by decide +kernel
theorem dX2_wayTo_76 : decode cX2_wayTo 76 = .ok (.lload_n 3, 1) := by decide +kernel
theorem dX2_wayTo_77 : decode cX2_wayTo 77 = .ok (.lload_n 1, 1) := by decide +kernel
theorem dX2_wayTo_78 : decode cX2_wayTo 78 = .ok (.lload 5, 2) := by decide +kernel
theorem dX2_wayTo_8 : decode cX2_wayTo 8 = .ok (.iconst 0, 1) := by decide +kernel
theorem dX2_wayTo_80 : decode cX2_wayTo 80 = .ok (.lsub, 1) := by decide +kernel
theorem dX2_wayTo_81 : decode cX2_wayTo 81 = .ok (.iload 7, 2) := by decide +kernel
theorem dX2_wayTo_83 : decode cX2_wayTo 83 = .ok (.i2l, 1) := by decide +kernel
theorem dX2_wayTo_84 : decode cX2_wayTo 84 = .ok (.lmul, 1) := by decide +kernel
theorem dX2_wayTo_85 : decode cX2_wayTo 85 = .ok (.ladd, 1) := by decide +kernel
theorem dX2_wayTo_86 : decode cX2_wayTo 86 = .ok (.lreturn, 1) := by decide +kernel
theorem dX2_wayTo_9 : decode cX2_wayTo 9 = .ok (.istore 8, 2) := by decide +kernel
theorem dX9_empty_0 : decode cX9_empty 0 = .ok (.aload_n 0, 1) := by decide +kernel
theorem dX9_empty_1 : decode cX9_empty 1 = .ok (.getfield 23, 3) := by decide +kernel
theorem dX9_empty_10 : decode cX9_empty 10 = .ok (.iconst 0, 1) := by decide +kernel
theorem dX9_empty_11 : decode cX9_empty 11 = .ok (.istore_n 2, 1) := by decide +kernel
theorem dX9_empty_12 : decode cX9_empty 12 = .ok (.iload_n 2, 1) := by decide +kernel
theorem dX9_empty_13 : decode cX9_empty 13 = .ok (.iconst 2, 1) := by decide +kernel
theorem dX9_empty_14 : decode cX9_empty 14 = .ok (.if_icmp .ge 18, 3) := by decide +kernel
theorem dX9_empty_17 : decode cX9_empty 17 = .ok (.aload_n 0, 1) := by decide +kernel
theorem dX9_empty_18 : decode cX9_empty 18 = .ok (.getfield 11, 3) := by decide +kernel
theorem dX9_empty_21 : decode cX9_empty 21 = .ok (.iload_n 2, 1) := by decide +kernel
theorem dX9_empty_22 : decode cX9_empty 22 = .ok (.aaload, 1) := by decide +kernel
theorem dX9_empty_23 : decode cX9_empty 23 = .ok (.invokevirtual 33, 3) := by decide +kernel
theorem dX9_empty_26 : decode cX9_empty 26 = .ok (.iinc 2 1, 3) := by decide +kernel
theorem dX9_empty_29 : decode cX9_empty 29 = .ok (.goto (-17), 3) := by decide +kernel
theorem dX9_empty_32 : decode cX9_empty 32 = .ok (.iload_n 1, 1) := by decide +kernel
theorem dX9_empty_33 : decode cX9_empty 33 = .ok (.ireturn, 1) := by decide +kernel
theorem dX9_empty_4 : decode cX9_empty 4 = .ok (.istore_n 1, 1) := by decide +kernel
theorem dX9_empty_5 : decode cX9_empty 5 = .ok (.aload_n 0, 1) := by decide +kernel
theorem dX9_empty_6 : decode cX9_empty 6 = .ok (.iconst 0, 1) := by decide +kernel
theorem dX9_empty_7 : decode cX9_empty 7 = .ok (.putfield 23, 3) := by decide +kernel
theorem dX9_roundOf_0 : decode cX9_roundOf 0 = .ok (.aload_n 0, 1) := by decide +kernel
theorem dX9_roundOf_1 : decode cX9_roundOf 1 = .ok (.aload_n 1, 1) := by decide +kernel
theorem dX9_roundOf_12 : decode cX9_roundOf 12 = .ok (.getfield 57, 3) := by decide +kernel
theorem dX9_roundOf_15 : decode cX9_roundOf 15 = .ok (.invokevirtual 62, 3) := by decide +kernel
theorem dX9_roundOf_18 : decode cX9_roundOf 18 = .ok (.ireturn, 1) := by decide +kernel
theorem dX9_roundOf_2 : decode cX9_roundOf 2 = .ok (.getfield 46, 3) := by decide +kernel
theorem dX9_roundOf_5 : decode cX9_roundOf 5 = .ok (.invokevirtual 49, 3) := by decide +kernel
theorem dX9_roundOf_8 : decode cX9_roundOf 8 = .ok (.aload_n 1, 1) := by decide +kernel
theorem dX9_roundOf_9 : decode cX9_roundOf 9 = .ok (.getfield 53, 3) := by decide +kernel
theorem dm_X9_motorOf : yX9_motorOf.cls = RX9 ∧ yX9_motorOf.cls ≠ "java/lang/invoke/MethodHandle" ∧ yX9_motorOf.cls ≠ "java/lang/invoke/VarHandle" ∧ (parseMethodDescriptor yX9_motorOf.desc).map (fun d => d.parameters.length) = some 1 := by decide +kernel
theorem dm_X2_tell : yX2_tell.cls = RX2 ∧ yX2_tell.cls ≠ "java/lang/invoke/MethodHandle" ∧ yX2_tell.cls ≠ "java/lang/invoke/VarHandle" ∧ (parseMethodDescriptor yX2_tell.desc).map (fun d => d.parameters.length) = some 2 := by decide +kernel
theorem dm_X2_forget : yX2_forget.cls = RX2 ∧ yX2_forget.cls ≠ "java/lang/invoke/MethodHandle" ∧ yX2_forget.cls ≠ "java/lang/invoke/VarHandle" ∧ (parseMethodDescriptor yX2_forget.desc).map (fun d => d.parameters.length) = some 0 := by decide +kernel
theorem dm_X9_empty : yX9_empty.cls = RX9 ∧ yX9_empty.cls ≠ "java/lang/invoke/MethodHandle" ∧ yX9_empty.cls ≠ "java/lang/invoke/VarHandle" ∧ (parseMethodDescriptor yX9_empty.desc).map (fun d => d.parameters.length) = some 0 := by decide +kernel
theorem dm_X11_greatestDivisor : yX11_greatestDivisor.cls = RX11 ∧ yX11_greatestDivisor.cls ≠ "java/lang/invoke/MethodHandle" ∧ yX11_greatestDivisor.cls ≠ "java/lang/invoke/VarHandle" ∧ (parseMethodDescriptor yX11_greatestDivisor.desc).map (fun d => d.parameters.length) = some 2 := by decide +kernel
theorem dm_X2_lastSpeed : yX2_lastSpeed.cls = RX2 ∧ yX2_lastSpeed.cls ≠ "java/lang/invoke/MethodHandle" ∧ yX2_lastSpeed.cls ≠ "java/lang/invoke/VarHandle" ∧ (parseMethodDescriptor yX2_lastSpeed.desc).map (fun d => d.parameters.length) = some 0 := by decide +kernel
theorem dm_X11_withoutShared : yX11_withoutShared.cls = RX11 ∧ yX11_withoutShared.cls ≠ "java/lang/invoke/MethodHandle" ∧ yX11_withoutShared.cls ≠ "java/lang/invoke/VarHandle" ∧ (parseMethodDescriptor yX11_withoutShared.desc).map (fun d => d.parameters.length) = some 2 := by decide +kernel
theorem dm_X2_round : yX2_round.cls = RX2 ∧ yX2_round.cls ≠ "java/lang/invoke/MethodHandle" ∧ yX2_round.cls ≠ "java/lang/invoke/VarHandle" ∧ (parseMethodDescriptor yX2_round.desc).map (fun d => d.parameters.length) = some 1 := by decide +kernel
theorem dm_X9_roundOf : yX9_roundOf.cls = RX9 ∧ yX9_roundOf.cls ≠ "java/lang/invoke/MethodHandle" ∧ yX9_roundOf.cls ≠ "java/lang/invoke/VarHandle" ∧ (parseMethodDescriptor yX9_roundOf.desc).map (fun d => d.parameters.length) = some 1 := by decide +kernel
theorem dm_X2_wayTo : yX2_wayTo.cls = RX2 ∧ yX2_wayTo.cls ≠ "java/lang/invoke/MethodHandle" ∧ yX2_wayTo.cls ≠ "java/lang/invoke/VarHandle" ∧ (parseMethodDescriptor yX2_wayTo.desc).map (fun d => d.parameters.length) = some 1 := by decide +kernel
set_option maxRecDepth 100000 in
def wC_motor (a0 : Int) (a1 : Int) (a2 : Int) (M : zM) (Q : Int → zM → Prop) : Prop := wC_isMotor a0 M (fun z2 => (z2 = 0 → Q 0 M) ∧ (z2 ≠ 0 → wC_within a1 0 5000 M (fun z7 => (z7 = 0 → Q 0 M) ∧ (z7 ≠ 0 → wC_within a2 (-9) 9 M (fun z12 => (z12 ≠ 0 → wC_Studio_motorOf a0 M (fun z17 => ∃ q19, z17 = some q19 ∧ (q19 < nC ∧ zcd wC q19 = 11) ∧ (wC_Motor_tell q19 a1 a2 M (fun z27 M26 => Q z27 M26)))) ∧ (z12 = 0 → Q 0 M))))))
set_option maxHeartbeats 4000000 in
set_option maxRecDepth 100000 in
theorem cC_motor (l : Launch) (D : va_G) (dA : Nat → ClassId) (b : Nat) (M : zM) (a0 : Int) (a1 : Int) (a2 : Int)  (Q : Int → zM → Prop) (h : wC_motor a0 a1 a2 M Q) : Met l yX11_motor (.code yX11_motor cX11_motor 4 (some .boolean) :: zt) (z_rm 2) (va_Pc [.ref (b + 0), .int (iI a0), .int (iI a1), .int (iI a2)] (wPre D dA vwCl (z_tys dA) wC nC b M)) (va_Qi (wQz Q) (zB D dA vwCl wC nC b) (zA nC b)) 0 0 (zA nC b) := by
  unfold wC_motor at h
  refine Met.ofW (cc := cX11_motor) (maxL := 4) (ret := (some .boolean)) (by decide) rfl ?_
  intro p e s m args below meth c s₁ B hml hv
  obtain ⟨hargs, hS, hK⟩ := hv
  have hx := B.exec
  have hb := B.bytes
  have hr := B.returns
  have hts := atoms_spec (ws := .code yX11_motor cX11_motor 4 (some .boolean) :: zt) B.pre
  have hown : s.vm.findClass RX11 = some m.cls := findClass_of_methodNamed B.named
  have hlocks := B.notSynchronized
  have hS0 : va_S (zA nC b) s.heap s.heap [] := va_S.rf
  have hl := lv_entry ([.ref (b + 0), .int (iI a0), .int (iI a1), .int (iI a2)]) (n := 4) (Nat.le_of_ble_eq_true rfl)
  have hent : entryFrame m args 4 = F0 m 0 ((lg_sl ([.ref (b + 0), .int (iI a0), .int (iI a1), .int (iI a2)]) ++ List.replicate (4 - (lg_sl ([.ref (b + 0), .int (iI a0), .int (iI a1), .int (iI a2)])).length) Slot.unset).toArray) [] := by rw [hargs]; exact lg_entry_eq m ([.ref (b + 0), .int (iI a0), .int (iI a1), .int (iI a2)]) 4
  rw [hent]
  generalize (lg_sl ([.ref (b + 0), .int (iI a0), .int (iI a1), .int (iI a2)]) ++ List.replicate (4 - (lg_sl ([.ref (b + 0), .int (iI a0), .int (iI a1), .int (iI a2)])).length) Slot.unset).toArray = ls at hl ⊢
  have hl : lv_has ls 4 [(0, .ref (b + 0)), (1, .int (iI a0)), (2, .int (iI a1)), (3, .int (iI a2))] := hl
  refine lv_iload_n hx hb dX11_motor_0 rfl (lv_at hl 1 rfl) ?_
  refine w_callz (va_runS (As := [.int (iI a0)]) (rest := []) ⟨hx, hb, hml, hown, hts⟩ (cC_isMotor l D dA b M a0 _ h) (va_cwS 1 hts (z_gS k379 k380 k1 k381) rfl rfl rfl dm_X11_isMotor.2 ⟨Nat.le_of_ble_eq_true rfl, Nat.le_of_ble_eq_true rfl⟩) ⟨wPre_blind, w_pre hS hK⟩ rfl rfl hl.1 rfl (lv_room (Nat.le_of_ble_eq_true rfl)) dX11_motor_1 ⟨Nat.le_refl _, Nat.le_refl _⟩) hS0 (fun z2 M1 H locs r3 h hS hS0 => ?_)
  obtain ⟨e4, h⟩ := h
  rw [e4] at hS
  refine w_if_eq (tgt := 29) hx hb (sI_01 r3) dX11_motor_4 (by decide) (fun c5 => ?_) (fun c5 => ?_)
  · skip
    have h := h.1 c5
    refine z_iconst hx hb dX11_motor_29 ?_
    exact w_zret hx hb hr hlocks hS hS0 (sI_of (by decide)) (by decide) h dX11_motor_30
  · skip
    have h := h.2 c5
    refine lv_iload_n hx hb dX11_motor_7 rfl (lv_at hl 2 rfl) ?_
    refine z_iconst hx hb dX11_motor_8 ?_
    refine z_sipush hx hb (by decide) dX11_motor_9 ?_
    refine w_callz (va_runS (As := [.int (iI a1), .int (iI 0), .int (iI 5000)]) (rest := []) ⟨hx, hb, hml, hown, hts⟩ (cC_within l D dA b M a1 0 5000 _ h) (va_cwS 3 hts (z_gS k382 k383 k1 k384) rfl rfl rfl dm_X11_within.2 ⟨Nat.le_of_ble_eq_true rfl, Nat.le_of_ble_eq_true rfl⟩) ⟨wPre_blind, w_pre hS hK⟩ rfl rfl hl.1 rfl (lv_room (Nat.le_of_ble_eq_true rfl)) dX11_motor_12 ⟨Nat.le_refl _, Nat.le_refl _⟩) hS0 (fun z7 M6 H locs r8 h hS hS0 => ?_)
    obtain ⟨e9, h⟩ := h
    rw [e9] at hS
    refine w_if_eq (tgt := 29) hx hb (sI_01 r8) dX11_motor_15 (by decide) (fun c10 => ?_) (fun c10 => ?_)
    · skip
      have h := h.1 c10
      refine z_iconst hx hb dX11_motor_29 ?_
      exact w_zret hx hb hr hlocks hS hS0 (sI_of (by decide)) (by decide) h dX11_motor_30
    · skip
      have h := h.2 c10
      refine lv_iload_n hx hb dX11_motor_18 rfl (lv_at hl 3 rfl) ?_
      refine z_bipush hx hb (by decide) dX11_motor_19 ?_
      refine z_bipush hx hb (by decide) dX11_motor_21 ?_
      refine w_callz (va_runS (As := [.int (iI a2), .int (iI (-9)), .int (iI 9)]) (rest := []) ⟨hx, hb, hml, hown, hts⟩ (cC_within l D dA b M a2 (-9) 9 _ h) (va_cwS 3 hts (z_gS k382 k383 k1 k384) rfl rfl rfl dm_X11_within.2 ⟨Nat.le_of_ble_eq_true rfl, Nat.le_of_ble_eq_true rfl⟩) ⟨wPre_blind, w_pre hS hK⟩ rfl rfl hl.1 rfl (lv_room (Nat.le_of_ble_eq_true rfl)) dX11_motor_23 ⟨Nat.le_refl _, Nat.le_refl _⟩) hS0 (fun z12 M11 H locs r13 h hS hS0 => ?_)
      obtain ⟨e14, h⟩ := h
      rw [e14] at hS
      refine w_if_ne (tgt := 31) hx hb (sI_01 r13) dX11_motor_26 (by decide) (fun c15 => ?_) (fun c15 => ?_)
      · skip
        have h := h.1 c15
        refine lv_aload_n hx hb dX11_motor_31 rfl (lv_at hl 0 rfl) ?_
        refine w_getr (j2 := 32) hx hb hts (z_memU u11) hown hK.1 hS f11_2 (by decide) (zkd_of (rfl : zcd wC 0 = 0) rfl) (zrf_of (rfl : zcd wC 0 = 0) rfl) (Or.inl (hts _ (z_mem k244))) dX11_motor_32 ?_
        refine lv_iload_n hx hb dX11_motor_35 rfl (lv_at hl 1 rfl) ?_
        refine w_callq (va_runV (As := [.int (iI a0)]) (rest := []) ⟨hx, hb, hml, hown, hts⟩ (cC_Studio_motorOf l D dA b M a0 _ h) (cwV 1 hts (z_gV k442 k443 k444 k4 k445) rfl rfl rfl dm_X9_motorOf ⟨Nat.le_of_ble_eq_true rfl, Nat.le_of_ble_eq_true rfl⟩) ⟨wPre_blind, (w_recv hS hK.1 (by decide) (zkd_of (rfl : zcd wC 32 = 8) rfl) (by decide) (rfl : vwCl[9]? = some (RX9, TX9, 3))), w_pre hS hK⟩ rfl rfl hl.1 rfl (lv_room (Nat.le_of_ble_eq_true rfl)) dX11_motor_36 ⟨Nat.le_refl _, Nat.le_refl _⟩) hS0 (fun z17 M16 H locs h hS hS0 => ?_)
        obtain ⟨e18, h⟩ := h
        rw [e18] at hS
        obtain ⟨q19, rfl, ⟨lt20, cd21⟩, h⟩ := h
        obtain ⟨lt22, cd23, lt24, cd25⟩ := nx_motor q19 lt20 cd21
        refine lv_iload_n hx hb dX11_motor_39 rfl (lv_at hl 2 rfl) ?_
        refine lv_iload_n hx hb dX11_motor_40 rfl (lv_at hl 3 rfl) ?_
        refine w_callz (va_runV (As := [.int (iI a1), .int (iI a2)]) (rest := []) ⟨hx, hb, hml, hown, hts⟩ (cC_Motor_tell l D dA b M q19 a1 a2 lt20 cd21 _ h) (cwV 2 hts (z_gV k446 k447 k448 k5 k449) rfl rfl rfl dm_X2_tell ⟨Nat.le_of_ble_eq_true rfl, Nat.le_of_ble_eq_true rfl⟩) ⟨wPre_blind, (w_recv hS hK.1 lt20 (zkd_of cd21 rfl) (by decide) (rfl : vwCl[2]? = some (RX2, TX2, 3))), w_pre hS hK⟩ rfl rfl hl.1 rfl (lv_room (Nat.le_of_ble_eq_true rfl)) dX11_motor_41 ⟨Nat.le_refl _, Nat.le_refl _⟩) hS0 (fun z27 M26 H locs r28 h hS hS0 => ?_)
        exact w_zret hx hb hr hlocks hS hS0 (sI_01 r28) r28 h dX11_motor_44
      · skip
        have h := h.2 c15
        refine z_iconst hx hb dX11_motor_29 ?_
        exact w_zret hx hb hr hlocks hS hS0 (sI_of (by decide)) (by decide) h dX11_motor_30

set_option maxRecDepth 100000 in
def wC_Motor_forget (j : Nat) (M : zM) (Q : zM → Prop) : Prop := (∀ M5 : zM, M5 = zup M j 2 0 → Q M5)
set_option maxHeartbeats 4000000 in
set_option maxRecDepth 100000 in
theorem cC_Motor_forget (l : Launch) (D : va_G) (dA : Nat → ClassId) (b : Nat) (M : zM) (j : Nat) (lt_j : j < nC) (cd_j : zcd wC j = 11) (Q : zM → Prop) (h : wC_Motor_forget j M Q) : Met l yX2_forget (.code yX2_forget cX2_forget 1 none :: zt) (z_rm 0) (va_Pc [.ref (b + j)] (wPre D dA vwCl (z_tys dA) wC nC b M)) (va_Qv (wQv Q) (zB D dA vwCl wC nC b) (zA nC b)) 0 0 (zA nC b) := by
  unfold wC_Motor_forget at h
  refine Met.ofW (cc := cX2_forget) (maxL := 1) (ret := none) (by decide) rfl ?_
  intro p e s m args below meth c s₁ B hml hv
  obtain ⟨hargs, hS, hK⟩ := hv
  have hx := B.exec
  have hb := B.bytes
  have hr := B.returns
  have hts := atoms_spec (ws := .code yX2_forget cX2_forget 1 none :: zt) B.pre
  have hown : s.vm.findClass RX2 = some m.cls := findClass_of_methodNamed B.named
  have hlocks := B.notSynchronized
  have hS0 : va_S (zA nC b) s.heap s.heap [] := va_S.rf
  have hl := lv_entry ([.ref (b + j)]) (n := 1) (Nat.le_of_ble_eq_true rfl)
  have hent : entryFrame m args 1 = F0 m 0 ((lg_sl ([.ref (b + j)]) ++ List.replicate (1 - (lg_sl ([.ref (b + j)])).length) Slot.unset).toArray) [] := by rw [hargs]; exact lg_entry_eq m ([.ref (b + j)]) 1
  rw [hent]
  generalize (lg_sl ([.ref (b + j)]) ++ List.replicate (1 - (lg_sl ([.ref (b + j)])).length) Slot.unset).toArray = ls at hl ⊢
  have hl : lv_has ls 1 [(0, .ref (b + j))] := hl
  obtain ⟨lt1, cd2, lt3, cd4⟩ := nx_motor j lt_j cd_j
  refine lv_aload_n hx hb dX2_forget_0 rfl (lv_at hl 0 rfl) ?_
  refine z_iconst hx hb dX2_forget_1 ?_
  refine w_puti hx hb hts (z_memU u2) tyX2 tyX2_ok nmX2 hown hK.1 hS hS0 f2_2 lt_j (zkd_of cd_j rfl) (Or.inl (hts _ (z_mem k84))) rfl (z := 0) (by decide +kernel) dX2_forget_2 (fun H locs hS hS0 => ?_)
  obtain ⟨M5, e6⟩ : ∃ M5 : zM, M5 = zup M j 2 0 := ⟨_, rfl⟩
  rw [← e6] at hS
  have h := h M5 e6
  exact w_vret hx hb hr hlocks hS hS0 h dX2_forget_5

set_option maxRecDepth 100000 in
def wC_Studio_empty  (M : zM) (Q : Int → zM → Prop) : Prop := (∀ M1 : zM, M1 = zup M 32 2 0 → wL1 (fun K12 x3 M4 => (2 ≤ (sI x3) → Q (sI (M 32 2)) M4) ∧ ((sI x3) < 2 → ((0 ≤ (sI x3) ∧ (sI x3) < 2) ∧ wC_Motor_forget (35 + 3 * (sI x3).toNat) M4 (fun M20 => K12 (x3 + 1) M20)))) 0 M1)
set_option maxHeartbeats 4000000 in
set_option maxRecDepth 100000 in
theorem cC_Studio_empty (l : Launch) (D : va_G) (dA : Nat → ClassId) (b : Nat) (M : zM)   (Q : Int → zM → Prop) (h : wC_Studio_empty  M Q) : Met l yX9_empty (.code yX9_empty cX9_empty 3 (some .int) :: zt) (z_rm 1) (va_Pc [.ref (b + 32)] (wPre D dA vwCl (z_tys dA) wC nC b M)) (va_Qi (wQi Q) (zB D dA vwCl wC nC b) (zA nC b)) 0 0 (zA nC b) := by
  unfold wC_Studio_empty at h
  refine Met.ofW (cc := cX9_empty) (maxL := 3) (ret := (some .int)) (by decide) rfl ?_
  intro p e s m args below meth c s₁ B hml hv
  obtain ⟨hargs, hS, hK⟩ := hv
  have hx := B.exec
  have hb := B.bytes
  have hr := B.returns
  have hts := atoms_spec (ws := .code yX9_empty cX9_empty 3 (some .int) :: zt) B.pre
  have hown : s.vm.findClass RX9 = some m.cls := findClass_of_methodNamed B.named
  have hlocks := B.notSynchronized
  have hS0 : va_S (zA nC b) s.heap s.heap [] := va_S.rf
  have hl := lv_entry ([.ref (b + 32)]) (n := 3) (Nat.le_of_ble_eq_true rfl)
  have hent : entryFrame m args 3 = F0 m 0 ((lg_sl ([.ref (b + 32)]) ++ List.replicate (3 - (lg_sl ([.ref (b + 32)])).length) Slot.unset).toArray) [] := by rw [hargs]; exact lg_entry_eq m ([.ref (b + 32)]) 3
  rw [hent]
  generalize (lg_sl ([.ref (b + 32)]) ++ List.replicate (3 - (lg_sl ([.ref (b + 32)])).length) Slot.unset).toArray = ls at hl ⊢
  have hl : lv_has ls 3 [(0, .ref (b + 32))] := hl
  refine lv_aload_n hx hb dX9_empty_0 rfl (lv_at hl 0 rfl) ?_
  refine w_geti hx hb hts (z_memU u9) hown hK.1 hS f9_2 (by decide) (zkd_of (rfl : zcd wC 32 = 8) rfl) (Or.inl (hts _ (z_mem k118))) dX9_empty_1 ?_
  refine lv_istore_n (lv' := [(1, .int (iI (M 32 2))), (0, .ref (b + 32))]) hx hb dX9_empty_4 rfl hl (by decide) rfl (fun ls hl => ?_)
  refine lv_aload_n hx hb dX9_empty_5 rfl (lv_at hl 1 rfl) ?_
  refine z_iconst hx hb dX9_empty_6 ?_
  refine w_puti hx hb hts (z_memU u9) tyX9 tyX9_ok nmX9 hown hK.1 hS hS0 f9_2 (by decide) (zkd_of (rfl : zcd wC 32 = 8) rfl) (Or.inl (hts _ (z_mem k118))) rfl (z := 0) (by decide +kernel) dX9_empty_7 (fun H locs hS hS0 => ?_)
  obtain ⟨M1, e2⟩ : ∃ M1 : zM, M1 = zup M 32 2 0 := ⟨_, rfl⟩
  rw [← e2] at hS
  have h := h M1 e2
  refine z_iconst hx hb dX9_empty_10 ?_
  refine lv_istore_n (lv' := [(2, .int (iI 0)), (1, .int (iI (M 32 2))), (0, .ref (b + 32))]) hx hb dX9_empty_11 rfl hl (by decide) rfl (fun ls hl => ?_)
  obtain ⟨I5, ⟨n6, h7⟩, h8⟩ := h
  have L9 : ∀ (n10 : Nat) (x3 : Int) (M4 : zM) (H : Heap) (locs : List Loc) (ls : Array Slot), I5 n10 x3 M4 → zR D dA vwCl wC nC b M4 H → va_S (zA nC b) s.heap H locs → lv_has ls 3 [(0, .ref (b + 32)), (1, .int (iI (M 32 2))), (2, .int (iI x3))] → W p l e (headSpec (.code yX9_empty cX9_empty 3 (some .int) :: zt) (z_rm 1)).room s m args below meth c H locs 0 0 (MQ below (va_Qi (wQi Q) (zB D dA vwCl wC nC b) (zA nC b)) args s 0 0 (zA nC b)) (F0 m 12 ls []) := by
    intro n10
    induction n10 using Nat.strongRecOn with
    | ind n10 i11 =>
      intro x3 M4 H locs ls h hS hS0 hl
      have h := h8 n10 x3 M4 h
      refine lv_iload_n hx hb dX9_empty_12 rfl (lv_at hl 2 rfl) ?_
      refine z_iconst hx hb dX9_empty_13 ?_
      refine w_icmp_ge (tgt := 32) hx hb rfl (sI_of (by decide)) dX9_empty_14 (by decide) (fun c12 => ?_) (fun c12 => ?_)
      · skip
        have h := h.1 c12
        refine lv_iload_n hx hb dX9_empty_32 rfl (lv_at hl 1 rfl) ?_
        exact w_iret hx hb hr hlocks hS hS0 rfl h dX9_empty_33
      · skip
        have h := h.2 c12
        refine lv_aload_n hx hb dX9_empty_17 rfl (lv_at hl 0 rfl) ?_
        refine w_getr (j2 := 33) hx hb hts (z_memU u9) hown hK.1 hS f9_0 (by decide) (zkd_of (rfl : zcd wC 32 = 8) rfl) (zrf_of (rfl : zcd wC 32 = 8) rfl) (Or.inl (hts _ (z_mem k116))) dX9_empty_18 ?_
        refine lv_iload_n hx hb dX9_empty_21 rfl (lv_at hl 2 rfl) ?_
        obtain ⟨o13, h⟩ := h
        refine w_aald (n := 2) (i := (sI x3)) (j2 := (35 + 3 * (sI x3).toNat)) hx hb hK.1 (t0 := 5) (r := 5) (by decide) rfl rfl hS (by decide) (zkd_of (rfl : zcd wC 33 = 9) rfl) (zln_of (rfl : zcd wC 33 = 9) rfl) rfl o13.1 o13.2 (by decide) (zrf_of (rfl : zcd wC 33 = 9) rfl) dX9_empty_22 ?_
        obtain ⟨lt14, cd15⟩ : (35 + 3 * (sI x3).toNat) < nC ∧ zcd wC (35 + 3 * (sI x3).toNat) = 11 := (by decide : ∀ k : Nat, k < 2 → (35 + 3 * k) < nC ∧ zcd wC (35 + 3 * k) = 11) (sI x3).toNat (by clear h; have h0 := o13.1; have h1 := o13.2; omega)
        obtain ⟨lt16, cd17, lt18, cd19⟩ := nx_motor (35 + 3 * (sI x3).toNat) lt14 cd15
        refine w_callv (va_runV (As := []) (rest := []) ⟨hx, hb, hml, hown, hts⟩ (cC_Motor_forget l D dA b M4 (35 + 3 * (sI x3).toNat) lt14 cd15 _ h) (cwV 0 hts (z_gV k458 k459 k460 k5 k461) rfl rfl rfl dm_X2_forget ⟨Nat.le_of_ble_eq_true rfl, Nat.le_of_ble_eq_true rfl⟩) ⟨wPre_blind, (w_recv hS hK.1 lt14 (zkd_of cd15 rfl) (by decide) (rfl : vwCl[2]? = some (RX2, TX2, 3))), w_pre hS hK⟩ rfl rfl hl.1 rfl (lv_room (Nat.le_of_ble_eq_true rfl)) dX9_empty_23 ⟨Nat.le_refl _, Nat.le_refl _⟩) hS0 (fun M20 H locs h hS hS0 => ?_)
        refine z_iinc (lv' := [(2, .int (iI (x3 + 1))), (0, .ref (b + 32)), (1, .int (iI (M 32 2)))]) hx hb dX9_empty_26 hl (k := 2) rfl (by decide) rfl (fun ls hl => ?_)
        refine lv_goto (tgt := 12) hx hb dX9_empty_29 (by decide) ?_
        obtain ⟨n21, h22, h⟩ := h
        exact i11 n21 h22 (x3 + 1) M20 _ _ _ h hS hS0 (lv_sub hl [1, 2, 0] rfl)
  exact L9 n6 0 M1 _ _ _ h7 hS hS0 (lv_sub hl [2, 1, 0] rfl)

set_option maxRecDepth 100000 in
def wC_clear  (M : zM) (Q : Int → zM → Prop) : Prop := (∀ M1 : zM, M1 = zup M 60 2 0 → wC_Studio_empty  M1 (fun z4 M3 => Q z4 M3))
set_option maxHeartbeats 4000000 in
set_option maxRecDepth 100000 in
theorem cC_clear (l : Launch) (D : va_G) (dA : Nat → ClassId) (b : Nat) (M : zM)   (Q : Int → zM → Prop) (h : wC_clear  M Q) : Met l yX11_clear (.code yX11_clear cX11_clear 1 (some .int) :: zt) (z_rm 2) (va_Pc [.ref (b + 0)] (wPre D dA vwCl (z_tys dA) wC nC b M)) (va_Qi (wQi Q) (zB D dA vwCl wC nC b) (zA nC b)) 0 0 (zA nC b) := by
  unfold wC_clear at h
  refine Met.ofW (cc := cX11_clear) (maxL := 1) (ret := (some .int)) (by decide) rfl ?_
  intro p e s m args below meth c s₁ B hml hv
  obtain ⟨hargs, hS, hK⟩ := hv
  have hx := B.exec
  have hb := B.bytes
  have hr := B.returns
  have hts := atoms_spec (ws := .code yX11_clear cX11_clear 1 (some .int) :: zt) B.pre
  have hown : s.vm.findClass RX11 = some m.cls := findClass_of_methodNamed B.named
  have hlocks := B.notSynchronized
  have hS0 : va_S (zA nC b) s.heap s.heap [] := va_S.rf
  have hl := lv_entry ([.ref (b + 0)]) (n := 1) (Nat.le_of_ble_eq_true rfl)
  have hent : entryFrame m args 1 = F0 m 0 ((lg_sl ([.ref (b + 0)]) ++ List.replicate (1 - (lg_sl ([.ref (b + 0)])).length) Slot.unset).toArray) [] := by rw [hargs]; exact lg_entry_eq m ([.ref (b + 0)]) 1
  rw [hent]
  generalize (lg_sl ([.ref (b + 0)]) ++ List.replicate (1 - (lg_sl ([.ref (b + 0)])).length) Slot.unset).toArray = ls at hl ⊢
  have hl : lv_has ls 1 [(0, .ref (b + 0))] := hl
  refine lv_aload_n hx hb dX11_clear_0 rfl (lv_at hl 0 rfl) ?_
  refine w_getr (j2 := 60) hx hb hts (z_memU u11) hown hK.1 hS f11_4 (by decide) (zkd_of (rfl : zcd wC 0 = 0) rfl) (zrf_of (rfl : zcd wC 0 = 0) rfl) (Or.inl (hts _ (z_mem k246))) dX11_clear_1 ?_
  refine z_iconst hx hb dX11_clear_4 ?_
  refine w_puti hx hb hts (z_memU u5) tyX5 tyX5_ok nmX5 hown hK.1 hS hS0 f5_2 (by decide) (zkd_of (rfl : zcd wC 60 = 19) rfl) (Or.inl (hts _ (z_mem k146))) rfl (z := 0) (by decide +kernel) dX11_clear_5 (fun H locs hS hS0 => ?_)
  obtain ⟨M1, e2⟩ : ∃ M1 : zM, M1 = zup M 60 2 0 := ⟨_, rfl⟩
  rw [← e2] at hS
  have h := h M1 e2
  refine lv_aload_n hx hb dX11_clear_8 rfl (lv_at hl 0 rfl) ?_
  refine w_getr (j2 := 32) hx hb hts (z_memU u11) hown hK.1 hS f11_2 (by decide) (zkd_of (rfl : zcd wC 0 = 0) rfl) (zrf_of (rfl : zcd wC 0 = 0) rfl) (Or.inl (hts _ (z_mem k244))) dX11_clear_9 ?_
  refine w_calli (va_runV (As := []) (rest := []) ⟨hx, hb, hml, hown, hts⟩ (cC_Studio_empty l D dA b M1  _ h) (cwV 0 hts (z_gV k454 k455 k456 k4 k457) rfl rfl rfl dm_X9_empty ⟨Nat.le_of_ble_eq_true rfl, Nat.le_of_ble_eq_true rfl⟩) ⟨wPre_blind, (w_recv hS hK.1 (by decide) (zkd_of (rfl : zcd wC 32 = 8) rfl) (by decide) (rfl : vwCl[9]? = some (RX9, TX9, 3))), w_pre hS hK⟩ rfl rfl hl.1 rfl (lv_room (Nat.le_of_ble_eq_true rfl)) dX11_clear_12 ⟨Nat.le_refl _, Nat.le_refl _⟩) hS0 (fun z4 M3 H locs r5 h hS hS0 => ?_)
  exact w_iret hx hb hr hlocks hS hS0 (sI_of r5) h dX11_clear_15

set_option maxRecDepth 100000 in
def wC_count (a0 : Int) (M : zM) (Q : Int → Prop) : Prop := ((sI a0) = 0 → Q (sI (M 32 2))) ∧ ((sI a0) ≠ 0 → ((sI a0) = 1 → Q (sI (M 60 2))) ∧ ((sI a0) ≠ 1 → ((sI a0) = 2 → Q (sI (M 82 1))) ∧ ((sI a0) ≠ 2 → ((sI a0) = 3 → Q (sI (M 86 0))) ∧ ((sI a0) ≠ 3 → ((sI a0) = 4 → Q (sI (M 96 0))) ∧ ((sI a0) ≠ 4 → ((sI a0) = 5 → Q (sI (M 0 10))) ∧ ((sI a0) ≠ 5 → ((sI a0) = 6 → Q (sI (M 1 1))) ∧ ((sI a0) ≠ 6 → ((sI a0) = 7 → Q (sI (M 30 1))) ∧ ((sI a0) ≠ 7 → Q (-1)))))))))
set_option maxHeartbeats 4000000 in
set_option maxRecDepth 100000 in
theorem cC_count (l : Launch) (D : va_G) (dA : Nat → ClassId) (b : Nat) (M : zM) (a0 : Int)  (Q : Int → Prop) (h : wC_count a0 M Q) : Met l yX11_count (.code yX11_count cX11_count 2 (some .int) :: zt) (z_rm 0) (va_Pc [.ref (b + 0), .int (iI a0)] (wPre D dA vwCl (z_tys dA) wC nC b M)) (va_Qi (wQi (fun z9 u9 => u9 = M ∧ Q z9)) (zB D dA vwCl wC nC b) (zA nC b)) 0 0 (zA nC b) := by
  unfold wC_count at h
  refine Met.ofW (cc := cX11_count) (maxL := 2) (ret := (some .int)) (by decide) rfl ?_
  intro p e s m args below meth c s₁ B hml hv
  obtain ⟨hargs, hS, hK⟩ := hv
  have hx := B.exec
  have hb := B.bytes
  have hr := B.returns
  have hts := atoms_spec (ws := .code yX11_count cX11_count 2 (some .int) :: zt) B.pre
  have hown : s.vm.findClass RX11 = some m.cls := findClass_of_methodNamed B.named
  have hlocks := B.notSynchronized
  have hS0 : va_S (zA nC b) s.heap s.heap [] := va_S.rf
  have hl := lv_entry ([.ref (b + 0), .int (iI a0)]) (n := 2) (Nat.le_of_ble_eq_true rfl)
  have hent : entryFrame m args 2 = F0 m 0 ((lg_sl ([.ref (b + 0), .int (iI a0)]) ++ List.replicate (2 - (lg_sl ([.ref (b + 0), .int (iI a0)])).length) Slot.unset).toArray) [] := by rw [hargs]; exact lg_entry_eq m ([.ref (b + 0), .int (iI a0)]) 2
  rw [hent]
  generalize (lg_sl ([.ref (b + 0), .int (iI a0)]) ++ List.replicate (2 - (lg_sl ([.ref (b + 0), .int (iI a0)])).length) Slot.unset).toArray = ls at hl ⊢
  have hl : lv_has ls 2 [(0, .ref (b + 0)), (1, .int (iI a0))] := hl
  refine lv_iload_n hx hb dX11_count_0 rfl (lv_at hl 1 rfl) ?_
  rcases Decidable.em ((sI a0) = 0) with c1 | c1
  · skip
    have h := h.1 c1
    refine w_tabIn (tgt := 48) hx hb rfl c1 dX11_count_1 (by decide) (by decide) rfl (by decide) ?_
    refine lv_aload_n hx hb dX11_count_48 rfl (lv_at hl 0 rfl) ?_
    refine w_getr (j2 := 32) hx hb hts (z_memU u11) hown hK.1 hS f11_2 (by decide) (zkd_of (rfl : zcd wC 0 = 0) rfl) (zrf_of (rfl : zcd wC 0 = 0) rfl) (Or.inl (hts _ (z_mem k244))) dX11_count_49 ?_
    refine w_geti hx hb hts (z_memU u9) hown hK.1 hS f9_2 (by decide) (zkd_of (rfl : zcd wC 32 = 8) rfl) (Or.inl (hts _ (z_mem k120))) dX11_count_52 ?_
    exact w_iret hx hb hr hlocks hS hS0 rfl ⟨rfl, h⟩ dX11_count_55
  have h := h.2 c1
  rcases Decidable.em ((sI a0) = 1) with c2 | c2
  · skip
    have h := h.1 c2
    refine w_tabIn (tgt := 56) hx hb rfl c2 dX11_count_1 (by decide) (by decide) rfl (by decide) ?_
    refine lv_aload_n hx hb dX11_count_56 rfl (lv_at hl 0 rfl) ?_
    refine w_getr (j2 := 60) hx hb hts (z_memU u11) hown hK.1 hS f11_4 (by decide) (zkd_of (rfl : zcd wC 0 = 0) rfl) (zrf_of (rfl : zcd wC 0 = 0) rfl) (Or.inl (hts _ (z_mem k246))) dX11_count_57 ?_
    refine w_geti hx hb hts (z_memU u5) hown hK.1 hS f5_2 (by decide) (zkd_of (rfl : zcd wC 60 = 19) rfl) (Or.inl (hts _ (z_mem k146))) dX11_count_60 ?_
    exact w_iret hx hb hr hlocks hS hS0 rfl ⟨rfl, h⟩ dX11_count_63
  have h := h.2 c2
  rcases Decidable.em ((sI a0) = 2) with c3 | c3
  · skip
    have h := h.1 c3
    refine w_tabIn (tgt := 64) hx hb rfl c3 dX11_count_1 (by decide) (by decide) rfl (by decide) ?_
    refine lv_aload_n hx hb dX11_count_64 rfl (lv_at hl 0 rfl) ?_
    refine w_getr (j2 := 82) hx hb hts (z_memU u11) hown hK.1 hS f11_6 (by decide) (zkd_of (rfl : zcd wC 0 = 0) rfl) (zrf_of (rfl : zcd wC 0 = 0) rfl) (Or.inl (hts _ (z_mem k248))) dX11_count_65 ?_
    refine w_geti hx hb hts (z_memU u3) hown hK.1 hS f3_1 (by decide) (zkd_of (rfl : zcd wC 82 = 34) rfl) (Or.inl (hts _ (z_mem k197))) dX11_count_68 ?_
    exact w_iret hx hb hr hlocks hS hS0 rfl ⟨rfl, h⟩ dX11_count_71
  have h := h.2 c3
  rcases Decidable.em ((sI a0) = 3) with c4 | c4
  · skip
    have h := h.1 c4
    refine w_tabIn (tgt := 72) hx hb rfl c4 dX11_count_1 (by decide) (by decide) rfl (by decide) ?_
    refine lv_aload_n hx hb dX11_count_72 rfl (lv_at hl 0 rfl) ?_
    refine w_getr (j2 := 86) hx hb hts (z_memU u11) hown hK.1 hS f11_7 (by decide) (zkd_of (rfl : zcd wC 0 = 0) rfl) (zrf_of (rfl : zcd wC 0 = 0) rfl) (Or.inl (hts _ (z_mem k249))) dX11_count_73 ?_
    refine w_geti hx hb hts (z_memU u4) hown hK.1 hS f4_0 (by decide) (zkd_of (rfl : zcd wC 86 = 38) rfl) (Or.inl (hts _ (z_mem k211))) dX11_count_76 ?_
    exact w_iret hx hb hr hlocks hS hS0 rfl ⟨rfl, h⟩ dX11_count_79
  have h := h.2 c4
  rcases Decidable.em ((sI a0) = 4) with c5 | c5
  · skip
    have h := h.1 c5
    refine w_tabIn (tgt := 80) hx hb rfl c5 dX11_count_1 (by decide) (by decide) rfl (by decide) ?_
    refine lv_aload_n hx hb dX11_count_80 rfl (lv_at hl 0 rfl) ?_
    refine w_getr (j2 := 96) hx hb hts (z_memU u11) hown hK.1 hS f11_8 (by decide) (zkd_of (rfl : zcd wC 0 = 0) rfl) (zrf_of (rfl : zcd wC 0 = 0) rfl) (Or.inl (hts _ (z_mem k250))) dX11_count_81 ?_
    refine w_geti hx hb hts (z_memU u10) hown hK.1 hS f10_0 (by decide) (zkd_of (rfl : zcd wC 96 = 44) rfl) (Or.inl (hts _ (z_mem k232))) dX11_count_84 ?_
    exact w_iret hx hb hr hlocks hS hS0 rfl ⟨rfl, h⟩ dX11_count_87
  have h := h.2 c5
  rcases Decidable.em ((sI a0) = 5) with c6 | c6
  · skip
    have h := h.1 c6
    refine w_tabIn (tgt := 88) hx hb rfl c6 dX11_count_1 (by decide) (by decide) rfl (by decide) ?_
    refine lv_aload_n hx hb dX11_count_88 rfl (lv_at hl 0 rfl) ?_
    refine w_geti hx hb hts (z_memU u11) hown hK.1 hS f11_10 (by decide) (zkd_of (rfl : zcd wC 0 = 0) rfl) (Or.inl (hts _ (z_mem k252))) dX11_count_89 ?_
    exact w_iret hx hb hr hlocks hS hS0 rfl ⟨rfl, h⟩ dX11_count_92
  have h := h.2 c6
  rcases Decidable.em ((sI a0) = 6) with c7 | c7
  · skip
    have h := h.1 c7
    refine w_tabIn (tgt := 93) hx hb rfl c7 dX11_count_1 (by decide) (by decide) rfl (by decide) ?_
    refine lv_aload_n hx hb dX11_count_93 rfl (lv_at hl 0 rfl) ?_
    refine w_getr (j2 := 1) hx hb hts (z_memU u11) hown hK.1 hS f11_0 (by decide) (zkd_of (rfl : zcd wC 0 = 0) rfl) (zrf_of (rfl : zcd wC 0 = 0) rfl) (Or.inl (hts _ (z_mem k242))) dX11_count_94 ?_
    refine w_geti hx hb hts (z_memU u7) hown hK.1 hS f7_1 (by decide) (zkd_of (rfl : zcd wC 1 = 1) rfl) (Or.inl (hts _ (z_mem k56))) dX11_count_97 ?_
    exact w_iret hx hb hr hlocks hS hS0 rfl ⟨rfl, h⟩ dX11_count_100
  have h := h.2 c7
  rcases Decidable.em ((sI a0) = 7) with c8 | c8
  · skip
    have h := h.1 c8
    refine w_tabIn (tgt := 101) hx hb rfl c8 dX11_count_1 (by decide) (by decide) rfl (by decide) ?_
    refine lv_aload_n hx hb dX11_count_101 rfl (lv_at hl 0 rfl) ?_
    refine w_getr (j2 := 30) hx hb hts (z_memU u11) hown hK.1 hS f11_1 (by decide) (zkd_of (rfl : zcd wC 0 = 0) rfl) (zrf_of (rfl : zcd wC 0 = 0) rfl) (Or.inl (hts _ (z_mem k243))) dX11_count_102 ?_
    refine w_geti hx hb hts (z_memU u8) hown hK.1 hS f8_1 (by decide) (zkd_of (rfl : zcd wC 30 = 6) rfl) (Or.inl (hts _ (z_mem k50))) dX11_count_105 ?_
    exact w_iret hx hb hr hlocks hS hS0 rfl ⟨rfl, h⟩ dX11_count_108
  have h := h.2 c8
  refine w_tabOut (tgt := 109) hx hb rfl dX11_count_1 (tb_0_7 _ c1 c2 c3 c4 c5 c6 c7 c8) (by decide) ?_
  refine z_iconst hx hb dX11_count_109 ?_
  exact w_iret hx hb hr hlocks hS hS0 (sI_of (by decide)) ⟨rfl, h⟩ dX11_count_110

set_option maxRecDepth 100000 in
def wC_Motor_lastSpeed (j : Nat) (M : zM) (Q : Int → Prop) : Prop := ((sI (M j 2)) ≠ 0 → ((0 ≤ (sI ((M j 2) - 1)) ∧ (sI ((M j 2) - 1)) < 12) ∧ Q (sI (M (j + 2) (sI ((M j 2) - 1)).toNat)))) ∧ ((sI (M j 2)) = 0 → Q 1)
set_option maxHeartbeats 4000000 in
set_option maxRecDepth 100000 in
theorem cC_Motor_lastSpeed (l : Launch) (D : va_G) (dA : Nat → ClassId) (b : Nat) (M : zM) (j : Nat) (lt_j : j < nC) (cd_j : zcd wC j = 11) (Q : Int → Prop) (h : wC_Motor_lastSpeed j M Q) : Met l yX2_lastSpeed (.code yX2_lastSpeed cX2_lastSpeed 1 (some .int) :: zt) (z_rm 0) (va_Pc [.ref (b + j)] (wPre D dA vwCl (z_tys dA) wC nC b M)) (va_Qi (wQi (fun z9 u9 => u9 = M ∧ Q z9)) (zB D dA vwCl wC nC b) (zA nC b)) 0 0 (zA nC b) := by
  unfold wC_Motor_lastSpeed at h
  refine Met.ofW (cc := cX2_lastSpeed) (maxL := 1) (ret := (some .int)) (by decide) rfl ?_
  intro p e s m args below meth c s₁ B hml hv
  obtain ⟨hargs, hS, hK⟩ := hv
  have hx := B.exec
  have hb := B.bytes
  have hr := B.returns
  have hts := atoms_spec (ws := .code yX2_lastSpeed cX2_lastSpeed 1 (some .int) :: zt) B.pre
  have hown : s.vm.findClass RX2 = some m.cls := findClass_of_methodNamed B.named
  have hlocks := B.notSynchronized
  have hS0 : va_S (zA nC b) s.heap s.heap [] := va_S.rf
  have hl := lv_entry ([.ref (b + j)]) (n := 1) (Nat.le_of_ble_eq_true rfl)
  have hent : entryFrame m args 1 = F0 m 0 ((lg_sl ([.ref (b + j)]) ++ List.replicate (1 - (lg_sl ([.ref (b + j)])).length) Slot.unset).toArray) [] := by rw [hargs]; exact lg_entry_eq m ([.ref (b + j)]) 1
  rw [hent]
  generalize (lg_sl ([.ref (b + j)]) ++ List.replicate (1 - (lg_sl ([.ref (b + j)])).length) Slot.unset).toArray = ls at hl ⊢
  have hl : lv_has ls 1 [(0, .ref (b + j))] := hl
  obtain ⟨lt1, cd2, lt3, cd4⟩ := nx_motor j lt_j cd_j
  refine lv_aload_n hx hb dX2_lastSpeed_0 rfl (lv_at hl 0 rfl) ?_
  refine w_geti hx hb hts (z_memU u2) hown hK.1 hS f2_2 lt_j (zkd_of cd_j rfl) (Or.inl (hts _ (z_mem k84))) dX2_lastSpeed_1 ?_
  refine w_if_ne (tgt := 11) hx hb rfl dX2_lastSpeed_4 (by decide) (fun c5 => ?_) (fun c5 => ?_)
  · skip
    have h := h.1 c5
    refine lv_aload_n hx hb dX2_lastSpeed_11 rfl (lv_at hl 0 rfl) ?_
    refine w_getr (j2 := (j + 2)) hx hb hts (z_memU u2) hown hK.1 hS f2_1 lt_j (zkd_of cd_j rfl) (zrf_of cd_j rfl) (Or.inl (hts _ (z_mem k83))) dX2_lastSpeed_12 ?_
    refine lv_aload_n hx hb dX2_lastSpeed_15 rfl (lv_at hl 0 rfl) ?_
    refine w_geti hx hb hts (z_memU u2) hown hK.1 hS f2_2 lt_j (zkd_of cd_j rfl) (Or.inl (hts _ (z_mem k84))) dX2_lastSpeed_16 ?_
    refine z_iconst hx hb dX2_lastSpeed_19 ?_
    refine z_isub hx hb dX2_lastSpeed_20 ?_
    obtain ⟨o6, h⟩ := h
    refine w_iald (n := 12) (i := (sI ((M j 2) - 1))) hx hb hK.1 (t0 := 0) rfl hS lt3 (zkd_of cd4 rfl) (zln_of cd4 rfl) rfl o6.1 o6.2 (by decide) dX2_lastSpeed_21 ?_
    exact w_iret hx hb hr hlocks hS hS0 rfl ⟨rfl, h⟩ dX2_lastSpeed_22
  · skip
    have h := h.2 c5
    refine z_iconst hx hb dX2_lastSpeed_7 ?_
    refine lv_goto (tgt := 22) hx hb dX2_lastSpeed_8 (by decide) ?_
    exact w_iret hx hb hr hlocks hS hS0 (sI_of (by decide)) ⟨rfl, h⟩ dX2_lastSpeed_22

set_option maxRecDepth 100000 in
def wC_greatestDivisor (a0 : Int) (a1 : Int) (M : zM) (Q : Int → Prop) : Prop := pL1 (fun K2 x1 => ((sI x1) ≤ 1 → Q 1) ∧ (1 < (sI x1) → (((sI x1) ≠ 0) ∧ ((sI ((sI a0).tmod (sI x1))) ≠ 0 → K2 (x1 + (-1))) ∧ ((sI ((sI a0).tmod (sI x1))) = 0 → (((sI x1) ≠ 0) ∧ ((sL ((sL a1).tmod (sI x1))) ≠ 0 → K2 (x1 + (-1))) ∧ ((sL ((sL a1).tmod (sI x1))) = 0 → Q (sI x1))))))) a0
set_option maxHeartbeats 4000000 in
set_option maxRecDepth 100000 in
theorem cC_greatestDivisor (l : Launch) (D : va_G) (dA : Nat → ClassId) (b : Nat) (M : zM) (a0 : Int) (a1 : Int)  (Q : Int → Prop) (h : wC_greatestDivisor a0 a1 M Q) : Met l yX11_greatestDivisor (.code yX11_greatestDivisor cX11_greatestDivisor 4 (some .int) :: zt) (z_rm 0) (va_Pc [.int (iI a0), .long (iL a1)] (wPre D dA vwCl (z_tys dA) wC nC b M)) (va_Qi (wQi (fun z9 u9 => u9 = M ∧ Q z9)) (zB D dA vwCl wC nC b) (zA nC b)) 0 0 (zA nC b) := by
  unfold wC_greatestDivisor at h
  refine Met.ofW (cc := cX11_greatestDivisor) (maxL := 4) (ret := (some .int)) (by decide) rfl ?_
  intro p e s m args below meth c s₁ B hml hv
  obtain ⟨hargs, hS, hK⟩ := hv
  have hx := B.exec
  have hb := B.bytes
  have hr := B.returns
  have hts := atoms_spec (ws := .code yX11_greatestDivisor cX11_greatestDivisor 4 (some .int) :: zt) B.pre
  have hown : s.vm.findClass RX11 = some m.cls := findClass_of_methodNamed B.named
  have hlocks := B.notSynchronized
  have hS0 : va_S (zA nC b) s.heap s.heap [] := va_S.rf
  have hl := lv_entry ([.int (iI a0), .long (iL a1)]) (n := 4) (Nat.le_of_ble_eq_true rfl)
  have hent : entryFrame m args 4 = F0 m 0 ((lg_sl ([.int (iI a0), .long (iL a1)]) ++ List.replicate (4 - (lg_sl ([.int (iI a0), .long (iL a1)])).length) Slot.unset).toArray) [] := by rw [hargs]; exact lg_entry_eq m ([.int (iI a0), .long (iL a1)]) 4
  rw [hent]
  generalize (lg_sl ([.int (iI a0), .long (iL a1)]) ++ List.replicate (4 - (lg_sl ([.int (iI a0), .long (iL a1)])).length) Slot.unset).toArray = ls at hl ⊢
  have hl : lv_has ls 4 [(0, .int (iI a0)), (1, .long (iL a1))] := hl
  refine lv_iload_n hx hb dX11_greatestDivisor_0 rfl (lv_at hl 0 rfl) ?_
  refine lv_istore_n (lv' := [(3, .int (iI a0)), (0, .int (iI a0)), (1, .long (iL a1))]) hx hb dX11_greatestDivisor_1 rfl hl (by decide) rfl (fun ls hl => ?_)
  obtain ⟨I2, ⟨n3, h4⟩, h5⟩ := h
  have L6 : ∀ (n7 : Nat) (x1 : Int) (H : Heap) (locs : List Loc) (ls : Array Slot), I2 n7 x1 → zR D dA vwCl wC nC b M H → va_S (zA nC b) s.heap H locs → lv_has ls 4 [(0, .int (iI a0)), (1, .long (iL a1)), (3, .int (iI x1))] → W p l e (headSpec (.code yX11_greatestDivisor cX11_greatestDivisor 4 (some .int) :: zt) (z_rm 0)).room s m args below meth c H locs 0 0 (MQ below (va_Qi (wQi (fun z9 u9 => u9 = M ∧ Q z9)) (zB D dA vwCl wC nC b) (zA nC b)) args s 0 0 (zA nC b)) (F0 m 2 ls []) := by
    intro n7
    induction n7 using Nat.strongRecOn with
    | ind n7 i8 =>
      intro x1 H locs ls h hS hS0 hl
      have h := h5 n7 x1 h
      refine lv_iload_n hx hb dX11_greatestDivisor_2 rfl (lv_at hl 2 rfl) ?_
      refine z_iconst hx hb dX11_greatestDivisor_3 ?_
      refine w_icmp_le (tgt := 30) hx hb rfl (sI_of (by decide)) dX11_greatestDivisor_4 (by decide) (fun c9 => ?_) (fun c9 => ?_)
      · skip
        have h := h.1 c9
        refine z_iconst hx hb dX11_greatestDivisor_30 ?_
        exact w_iret hx hb hr hlocks hS hS0 (sI_of (by decide)) ⟨rfl, h⟩ dX11_greatestDivisor_31
      · skip
        have h := h.2 c9
        refine lv_iload_n hx hb dX11_greatestDivisor_7 rfl (lv_at hl 0 rfl) ?_
        refine lv_iload_n hx hb dX11_greatestDivisor_8 rfl (lv_at hl 2 rfl) ?_
        obtain ⟨o10, h⟩ := h
        refine w_irem hx hb rfl rfl o10 dX11_greatestDivisor_9 ?_
        refine w_if_ne (tgt := 24) hx hb rfl dX11_greatestDivisor_10 (by decide) (fun c11 => ?_) (fun c11 => ?_)
        · skip
          have h := h.1 c11
          refine z_iinc (lv' := [(3, .int (iI (x1 + (-1)))), (0, .int (iI a0)), (1, .long (iL a1))]) hx hb dX11_greatestDivisor_24 hl (k := 2) rfl (by decide) rfl (fun ls hl => ?_)
          refine lv_goto (tgt := 2) hx hb dX11_greatestDivisor_27 (by decide) ?_
          obtain ⟨n12, h13, h⟩ := h
          exact i8 n12 h13 (x1 + (-1)) _ _ _ h hS hS0 (lv_sub hl [1, 2, 0] rfl)
        · skip
          have h := h.2 c11
          refine lv_lload_n hx hb dX11_greatestDivisor_13 rfl (lv_at hl 1 rfl) ?_
          refine lv_iload_n hx hb dX11_greatestDivisor_14 rfl (lv_at hl 2 rfl) ?_
          refine w_i2l hx hb rfl dX11_greatestDivisor_15 ?_
          obtain ⟨o14, h⟩ := h
          refine w_lrem hx hb rfl (sL_ofI rfl) o14 dX11_greatestDivisor_16 ?_
          refine z_lconst0 hx hb dX11_greatestDivisor_17 ?_
          refine w_lcmp_ne hx hb rfl (sL_of (by decide)) dX11_greatestDivisor_18 dX11_greatestDivisor_19 (tgt := 24) (by decide) (fun c15 => ?_) (fun c15 => ?_)
          · skip
            have h := h.1 c15
            refine z_iinc (lv' := [(3, .int (iI (x1 + (-1)))), (0, .int (iI a0)), (1, .long (iL a1))]) hx hb dX11_greatestDivisor_24 hl (k := 2) rfl (by decide) rfl (fun ls hl => ?_)
            refine lv_goto (tgt := 2) hx hb dX11_greatestDivisor_27 (by decide) ?_
            obtain ⟨n16, h17, h⟩ := h
            exact i8 n16 h17 (x1 + (-1)) _ _ _ h hS hS0 (lv_sub hl [1, 2, 0] rfl)
          · skip
            have h := h.2 c15
            refine lv_iload_n hx hb dX11_greatestDivisor_22 rfl (lv_at hl 2 rfl) ?_
            exact w_iret hx hb hr hlocks hS hS0 rfl ⟨rfl, h⟩ dX11_greatestDivisor_23
  exact L6 n3 a0 _ _ _ h4 hS hS0 (lv_sub hl [1, 2, 0] rfl)

set_option maxRecDepth 100000 in
def wC_withoutShared (a0 : Int) (a1 : Int) (M : zM) (Q : Int → Prop) : Prop := wC_greatestDivisor a0 a1 M (fun z2 => (1 ≤ z2 → ((z2 ≠ 0) ∧ Q (sI ((sI a0).tdiv z2)))) ∧ (z2 < 1 → Q (sI a0)))
set_option maxHeartbeats 4000000 in
set_option maxRecDepth 100000 in
theorem cC_withoutShared (l : Launch) (D : va_G) (dA : Nat → ClassId) (b : Nat) (M : zM) (a0 : Int) (a1 : Int)  (Q : Int → Prop) (h : wC_withoutShared a0 a1 M Q) : Met l yX11_withoutShared (.code yX11_withoutShared cX11_withoutShared 4 (some .int) :: zt) (z_rm 1) (va_Pc [.int (iI a0), .long (iL a1)] (wPre D dA vwCl (z_tys dA) wC nC b M)) (va_Qi (wQi (fun z9 u9 => u9 = M ∧ Q z9)) (zB D dA vwCl wC nC b) (zA nC b)) 0 0 (zA nC b) := by
  unfold wC_withoutShared at h
  refine Met.ofW (cc := cX11_withoutShared) (maxL := 4) (ret := (some .int)) (by decide) rfl ?_
  intro p e s m args below meth c s₁ B hml hv
  obtain ⟨hargs, hS, hK⟩ := hv
  have hx := B.exec
  have hb := B.bytes
  have hr := B.returns
  have hts := atoms_spec (ws := .code yX11_withoutShared cX11_withoutShared 4 (some .int) :: zt) B.pre
  have hown : s.vm.findClass RX11 = some m.cls := findClass_of_methodNamed B.named
  have hlocks := B.notSynchronized
  have hS0 : va_S (zA nC b) s.heap s.heap [] := va_S.rf
  have hl := lv_entry ([.int (iI a0), .long (iL a1)]) (n := 4) (Nat.le_of_ble_eq_true rfl)
  have hent : entryFrame m args 4 = F0 m 0 ((lg_sl ([.int (iI a0), .long (iL a1)]) ++ List.replicate (4 - (lg_sl ([.int (iI a0), .long (iL a1)])).length) Slot.unset).toArray) [] := by rw [hargs]; exact lg_entry_eq m ([.int (iI a0), .long (iL a1)]) 4
  rw [hent]
  generalize (lg_sl ([.int (iI a0), .long (iL a1)]) ++ List.replicate (4 - (lg_sl ([.int (iI a0), .long (iL a1)])).length) Slot.unset).toArray = ls at hl ⊢
  have hl : lv_has ls 4 [(0, .int (iI a0)), (1, .long (iL a1))] := hl
  refine lv_iload_n hx hb dX11_withoutShared_0 rfl (lv_at hl 0 rfl) ?_
  refine lv_lload_n hx hb dX11_withoutShared_1 rfl (lv_at hl 1 rfl) ?_
  refine w_calli (va_runS (As := [.int (iI a0), .long (iL a1)]) (rest := []) ⟨hx, hb, hml, hown, hts⟩ (cC_greatestDivisor l D dA b M a0 a1 _ h) (va_cwS 2 hts (z_gS k532 k533 k1 k534) rfl rfl rfl dm_X11_greatestDivisor.2 ⟨Nat.le_of_ble_eq_true rfl, Nat.le_of_ble_eq_true rfl⟩) ⟨wPre_blind, w_pre hS hK⟩ rfl rfl hl.1 rfl (lv_room (Nat.le_of_ble_eq_true rfl)) dX11_withoutShared_2 ⟨Nat.le_refl _, Nat.le_refl _⟩) hS0 (fun z2 M1 H locs r3 h hS hS0 => ?_)
  obtain ⟨e4, h⟩ := h
  rw [e4] at hS
  refine lv_istore_n (lv' := [(3, .int (iI z2)), (0, .int (iI a0)), (1, .long (iL a1))]) hx hb dX11_withoutShared_5 rfl hl (by decide) rfl (fun ls hl => ?_)
  refine lv_iload_n hx hb dX11_withoutShared_6 rfl (lv_at hl 0 rfl) ?_
  refine z_iconst hx hb dX11_withoutShared_7 ?_
  refine w_icmp_ge (tgt := 15) hx hb (sI_of r3) (sI_of (by decide)) dX11_withoutShared_8 (by decide) (fun c5 => ?_) (fun c5 => ?_)
  · skip
    have h := h.1 c5
    refine lv_iload_n hx hb dX11_withoutShared_15 rfl (lv_at hl 1 rfl) ?_
    refine lv_iload_n hx hb dX11_withoutShared_16 rfl (lv_at hl 0 rfl) ?_
    obtain ⟨o6, h⟩ := h
    refine w_idiv hx hb rfl (sI_of r3) o6 dX11_withoutShared_17 ?_
    exact w_iret hx hb hr hlocks hS hS0 rfl ⟨rfl, h⟩ dX11_withoutShared_18
  · skip
    have h := h.2 c5
    refine lv_iload_n hx hb dX11_withoutShared_11 rfl (lv_at hl 1 rfl) ?_
    refine lv_goto (tgt := 18) hx hb dX11_withoutShared_12 (by decide) ?_
    exact w_iret hx hb hr hlocks hS hS0 rfl ⟨rfl, h⟩ dX11_withoutShared_18

set_option maxRecDepth 100000 in
def wC_Motor_round (j : Nat) (a0 : Int) (M : zM) (Q : Int → Prop) : Prop := wC_Motor_lastSpeed j M (fun z6 => wC_withoutShared a0 z6 M (fun z10 => Q z10))
set_option maxHeartbeats 4000000 in
set_option maxRecDepth 100000 in
theorem cC_Motor_round (l : Launch) (D : va_G) (dA : Nat → ClassId) (b : Nat) (M : zM) (j : Nat) (a0 : Int) (lt_j : j < nC) (cd_j : zcd wC j = 11) (Q : Int → Prop) (h : wC_Motor_round j a0 M Q) : Met l yX2_round (.code yX2_round cX2_round 2 (some .int) :: zt) (z_rm 2) (va_Pc [.ref (b + j), .int (iI a0)] (wPre D dA vwCl (z_tys dA) wC nC b M)) (va_Qi (wQi (fun z9 u9 => u9 = M ∧ Q z9)) (zB D dA vwCl wC nC b) (zA nC b)) 0 0 (zA nC b) := by
  unfold wC_Motor_round at h
  refine Met.ofW (cc := cX2_round) (maxL := 2) (ret := (some .int)) (by decide) rfl ?_
  intro p e s m args below meth c s₁ B hml hv
  obtain ⟨hargs, hS, hK⟩ := hv
  have hx := B.exec
  have hb := B.bytes
  have hr := B.returns
  have hts := atoms_spec (ws := .code yX2_round cX2_round 2 (some .int) :: zt) B.pre
  have hown : s.vm.findClass RX2 = some m.cls := findClass_of_methodNamed B.named
  have hlocks := B.notSynchronized
  have hS0 : va_S (zA nC b) s.heap s.heap [] := va_S.rf
  have hl := lv_entry ([.ref (b + j), .int (iI a0)]) (n := 2) (Nat.le_of_ble_eq_true rfl)
  have hent : entryFrame m args 2 = F0 m 0 ((lg_sl ([.ref (b + j), .int (iI a0)]) ++ List.replicate (2 - (lg_sl ([.ref (b + j), .int (iI a0)])).length) Slot.unset).toArray) [] := by rw [hargs]; exact lg_entry_eq m ([.ref (b + j), .int (iI a0)]) 2
  rw [hent]
  generalize (lg_sl ([.ref (b + j), .int (iI a0)]) ++ List.replicate (2 - (lg_sl ([.ref (b + j), .int (iI a0)])).length) Slot.unset).toArray = ls at hl ⊢
  have hl : lv_has ls 2 [(0, .ref (b + j)), (1, .int (iI a0))] := hl
  obtain ⟨lt1, cd2, lt3, cd4⟩ := nx_motor j lt_j cd_j
  refine lv_iload_n hx hb dX2_round_0 rfl (lv_at hl 1 rfl) ?_
  refine lv_aload_n hx hb dX2_round_1 rfl (lv_at hl 0 rfl) ?_
  refine w_calli (va_runV (As := []) (rest := [.int (iI a0)]) ⟨hx, hb, hml, hown, hts⟩ (cC_Motor_lastSpeed l D dA b M j lt_j cd_j _ h) (cwV 0 hts (z_gV k498 k499 k500 k5 k501) rfl rfl rfl dm_X2_lastSpeed ⟨Nat.le_of_ble_eq_true rfl, Nat.le_of_ble_eq_true rfl⟩) ⟨wPre_blind, (w_recv hS hK.1 lt_j (zkd_of cd_j rfl) (by decide) (rfl : vwCl[2]? = some (RX2, TX2, 3))), w_pre hS hK⟩ rfl rfl hl.1 rfl (lv_room (Nat.le_of_ble_eq_true rfl)) dX2_round_2 ⟨Nat.le_refl _, Nat.le_refl _⟩) hS0 (fun z6 M5 H locs r7 h hS hS0 => ?_)
  obtain ⟨e8, h⟩ := h
  rw [e8] at hS
  refine w_i2l hx hb (sI_of r7) dX2_round_5 ?_
  refine w_calli (va_runSN (As := [.int (iI a0), .long (iL z6)]) (rest := []) ⟨hx, hb, hml, hown, hts⟩ (cC_withoutShared l D dA b M a0 z6 _ h) ⟨va_cnB 2 hts (z_gN k531) rfl rfl rfl (hK.2 (RX2, 43, yX11_withoutShared, RX11) (List.mem_of_getElem? (i := 12) rfl)) (hts _ (z_mem k1)) dm_X11_withoutShared.2 ⟨Nat.le_of_ble_eq_true rfl, Nat.le_of_ble_eq_true rfl⟩, (hts _ (z_mem k530)), trivial⟩ ⟨wPre_blind, w_pre hS hK⟩ rfl rfl hl.1 rfl (lv_room (Nat.le_of_ble_eq_true rfl)) dX2_round_6 ⟨Nat.le_refl _, Nat.le_refl _⟩) hS0 (fun z10 M9 H locs r11 h hS hS0 => ?_)
  obtain ⟨e12, h⟩ := h
  rw [e12] at hS
  exact w_iret hx hb hr hlocks hS hS0 (sI_of r11) ⟨rfl, h⟩ dX2_round_9

set_option maxRecDepth 100000 in
def wC_Studio_roundOf (a0 : Nat) (M : zM) (Q : Int → Prop) : Prop := wC_Studio_motorOf (M a0 1) M (fun z8 => ∃ q10, z8 = some q10 ∧ (q10 < nC ∧ zcd wC q10 = 11) ∧ (wC_Motor_round q10 (M (a0 + 1) 1) M (fun z18 => Q z18)))
set_option maxHeartbeats 4000000 in
set_option maxRecDepth 100000 in
theorem cC_Studio_roundOf (l : Launch) (D : va_G) (dA : Nat → ClassId) (b : Nat) (M : zM) (a0 : Nat) (lt_a0 : a0 < nC) (cd_a0 : zcd wC a0 = 14) (Q : Int → Prop) (h : wC_Studio_roundOf a0 M Q) : Met l yX9_roundOf (.code yX9_roundOf cX9_roundOf 2 (some .int) :: zt) (z_rm 3) (va_Pc [.ref (b + 32), .ref (b + a0)] (wPre D dA vwCl (z_tys dA) wC nC b M)) (va_Qi (wQi (fun z9 u9 => u9 = M ∧ Q z9)) (zB D dA vwCl wC nC b) (zA nC b)) 0 0 (zA nC b) := by
  unfold wC_Studio_roundOf at h
  refine Met.ofW (cc := cX9_roundOf) (maxL := 2) (ret := (some .int)) (by decide) rfl ?_
  intro p e s m args below meth c s₁ B hml hv
  obtain ⟨hargs, hS, hK⟩ := hv
  have hx := B.exec
  have hb := B.bytes
  have hr := B.returns
  have hts := atoms_spec (ws := .code yX9_roundOf cX9_roundOf 2 (some .int) :: zt) B.pre
  have hown : s.vm.findClass RX9 = some m.cls := findClass_of_methodNamed B.named
  have hlocks := B.notSynchronized
  have hS0 : va_S (zA nC b) s.heap s.heap [] := va_S.rf
  have hl := lv_entry ([.ref (b + 32), .ref (b + a0)]) (n := 2) (Nat.le_of_ble_eq_true rfl)
  have hent : entryFrame m args 2 = F0 m 0 ((lg_sl ([.ref (b + 32), .ref (b + a0)]) ++ List.replicate (2 - (lg_sl ([.ref (b + 32), .ref (b + a0)])).length) Slot.unset).toArray) [] := by rw [hargs]; exact lg_entry_eq m ([.ref (b + 32), .ref (b + a0)]) 2
  rw [hent]
  generalize (lg_sl ([.ref (b + 32), .ref (b + a0)]) ++ List.replicate (2 - (lg_sl ([.ref (b + 32), .ref (b + a0)])).length) Slot.unset).toArray = ls at hl ⊢
  have hl : lv_has ls 2 [(0, .ref (b + 32)), (1, .ref (b + a0))] := hl
  obtain ⟨lt1, cd2, lt3, cd4, lt5, cd6⟩ := nx_ring a0 lt_a0 cd_a0
  refine lv_aload_n hx hb dX9_roundOf_0 rfl (lv_at hl 0 rfl) ?_
  refine lv_aload_n hx hb dX9_roundOf_1 rfl (lv_at hl 1 rfl) ?_
  refine w_geti hx hb hts (z_memU u6) hown hK.1 hS f6_1 lt_a0 (zkd_of cd_a0 rfl) (Or.inl (hts _ (z_mem k99))) dX9_roundOf_2 ?_
  refine w_callq (va_runV (As := [.int (iI (M a0 1))]) (rest := []) ⟨hx, hb, hml, hown, hts⟩ (cC_Studio_motorOf l D dA b M (M a0 1) _ h) (cwV 1 hts (z_gV k482 k443 k444 k4 k445) rfl rfl rfl dm_X9_motorOf ⟨Nat.le_of_ble_eq_true rfl, Nat.le_of_ble_eq_true rfl⟩) ⟨wPre_blind, (w_recv hS hK.1 (by decide) (zkd_of (rfl : zcd wC 32 = 8) rfl) (by decide) (rfl : vwCl[9]? = some (RX9, TX9, 3))), w_pre hS hK⟩ rfl rfl hl.1 rfl (lv_room (Nat.le_of_ble_eq_true rfl)) dX9_roundOf_5 ⟨Nat.le_refl _, Nat.le_refl _⟩) hS0 (fun z8 M7 H locs h hS hS0 => ?_)
  obtain ⟨e9, h⟩ := h
  rw [e9] at hS
  obtain ⟨q10, rfl, ⟨lt11, cd12⟩, h⟩ := h
  obtain ⟨lt13, cd14, lt15, cd16⟩ := nx_motor q10 lt11 cd12
  refine lv_aload_n hx hb dX9_roundOf_8 rfl (lv_at hl 1 rfl) ?_
  refine w_getr (j2 := (a0 + 1)) hx hb hts (z_memU u6) hown hK.1 hS f6_0 lt_a0 (zkd_of cd_a0 rfl) (zrf_of cd_a0 rfl) (Or.inl (hts _ (z_mem k95))) dX9_roundOf_9 ?_
  refine w_geti hx hb hts (z_memU u8) hown hK.1 hS f8_1 lt1 (zkd_of cd2 rfl) (Or.inl (hts _ (z_mem k49))) dX9_roundOf_12 ?_
  refine w_calli (va_runV (As := [.int (iI (M (a0 + 1) 1))]) (rest := []) ⟨hx, hb, hml, hown, hts⟩ (cC_Motor_round l D dA b M q10 (M (a0 + 1) 1) lt11 cd12 _ h) (cwV 1 hts (z_gV k526 k527 k528 k5 k529) rfl rfl rfl dm_X2_round ⟨Nat.le_of_ble_eq_true rfl, Nat.le_of_ble_eq_true rfl⟩) ⟨wPre_blind, (w_recv hS hK.1 lt11 (zkd_of cd12 rfl) (by decide) (rfl : vwCl[2]? = some (RX2, TX2, 3))), w_pre hS hK⟩ rfl rfl hl.1 rfl (lv_room (Nat.le_of_ble_eq_true rfl)) dX9_roundOf_15 ⟨Nat.le_refl _, Nat.le_refl _⟩) hS0 (fun z18 M17 H locs r19 h hS hS0 => ?_)
  obtain ⟨e20, h⟩ := h
  rw [e20] at hS
  exact w_iret hx hb hr hlocks hS hS0 (sI_of r19) ⟨rfl, h⟩ dX9_roundOf_18

set_option maxRecDepth 100000 in
def wC_of (a0 : Int) (a1 : Int) (M : zM) (Q : Int → Prop) (X : Prop) : Prop := wC_Studio_find a0 M (fun z2 => (z2 = none → X) ∧ (∀ q4, z2 = some q4 → (q4 < nC ∧ zcd wC q4 = 14) ∧ (((sI a1) = 0 → Q (sI (M (q4 + 1) 1))) ∧ ((sI a1) ≠ 0 → ((sI a1) = 1 → Q (sI (M q4 1))) ∧ ((sI a1) ≠ 1 → ((sI a1) = 2 → Q (sI (M q4 2))) ∧ ((sI a1) ≠ 2 → ((sI a1) = 3 → Q (sI (M q4 3))) ∧ ((sI a1) ≠ 3 → ((sI a1) = 4 → wC_Studio_roundOf q4 M (fun z19 => Q z19)) ∧ ((sI a1) ≠ 4 → ((sI a1) = 5 → Q (sI (M q4 4))) ∧ ((sI a1) ≠ 5 → X)))))))))
set_option maxHeartbeats 4000000 in
set_option maxRecDepth 100000 in
theorem cC_of (l : Launch) (hst : l.stackTraces = false) (D : va_G) (dA : Nat → ClassId) (b : Nat) (M : zM) (a0 : Int) (a1 : Int)  (Q : Int → Prop) (X : Prop) (h : wC_of a0 a1 M Q X) : vx_Met l yX11_of (.code yX11_of cX11_of 4 (some .int) :: zt) (z_rmT 4) (va_Pc [.ref (b + 0), .int (iI a0), .int (iI a1)] (wPreT D dA vwCl (z_tys dA) wC nC b M)) (va_Qi (wQi (fun z9 u9 => u9 = M ∧ Q z9)) (zB D dA vwCl wC nC b) (zA nC b)) (zXC D dA vwCl wC nC b M X) 1 6 (zA nC b) := by
  unfold wC_of at h
  refine vx_ofW (cc := cX11_of) (maxL := 4) (ret := (some .int)) (by decide) rfl ?_
  intro p e s m args below meth c s₁ B hml hex hv
  obtain ⟨hargs, ⟨hS, hK⟩, hZ⟩ := hv
  have hx := B.exec
  have hb := B.bytes
  have hr := B.returns
  have hts := atoms_spec (ws := .code yX11_of cX11_of 4 (some .int) :: zt) B.pre
  have hown : s.vm.findClass RX11 = some m.cls := findClass_of_methodNamed B.named
  have hlocks := B.notSynchronized
  have hS0 : va_S (zA nC b) s.heap s.heap [] := va_S.rf
  have hl := lv_entry ([.ref (b + 0), .int (iI a0), .int (iI a1)]) (n := 4) (Nat.le_of_ble_eq_true rfl)
  have hent : entryFrame m args 4 = F0 m 0 ((lg_sl ([.ref (b + 0), .int (iI a0), .int (iI a1)]) ++ List.replicate (4 - (lg_sl ([.ref (b + 0), .int (iI a0), .int (iI a1)])).length) Slot.unset).toArray) [] := by rw [hargs]; exact lg_entry_eq m ([.ref (b + 0), .int (iI a0), .int (iI a1)]) 4
  rw [hent]
  generalize (lg_sl ([.ref (b + 0), .int (iI a0), .int (iI a1)]) ++ List.replicate (4 - (lg_sl ([.ref (b + 0), .int (iI a0), .int (iI a1)])).length) Slot.unset).toArray = ls at hl ⊢
  have hl : lv_has ls 4 [(0, .ref (b + 0)), (1, .int (iI a0)), (2, .int (iI a1))] := hl
  refine lv_aload_n hx hb dX11_of_0 rfl (lv_at hl 0 rfl) ?_
  refine w_getr (j2 := 32) hx hb hts (z_memU u11) hown hK.1 hS f11_2 (by decide) (zkd_of (rfl : zcd wC 0 = 0) rfl) (zrf_of (rfl : zcd wC 0 = 0) rfl) (Or.inl (hts _ (z_mem k244))) dX11_of_1 ?_
  refine lv_iload_n hx hb dX11_of_4 rfl (lv_at hl 1 rfl) ?_
  refine w_callq (va_runV (As := [.int (iI a0)]) (rest := []) ⟨hx, hb, hml, hown, hts⟩ (cC_Studio_find l D dA b M a0 _ h) (cwV 1 hts (z_gV k411 k412 k413 k4 k414) rfl rfl rfl dm_X9_find ⟨Nat.le_of_ble_eq_true rfl, Nat.le_of_ble_eq_true rfl⟩) ⟨wPre_blind, (w_recv hS hK.1 (by decide) (zkd_of (rfl : zcd wC 32 = 8) rfl) (by decide) (rfl : vwCl[9]? = some (RX9, TX9, 3))), w_pre hS hK⟩ rfl rfl hl.1 rfl (lv_room (Nat.le_of_ble_eq_true rfl)) dX11_of_5 ⟨Nat.le_of_ble_eq_true rfl, Nat.le_of_ble_eq_true rfl⟩) hS0 (fun z2 M1 H locs h hS hS0 => ?_)
  obtain ⟨e3, h⟩ := h
  rw [e3] at hS
  rcases z2 with _ | q4
  · skip
    have h := h.1 rfl
    refine lv_astore_nN (lv' := [(3, .null), (0, .ref (b + 0)), (1, .int (iI a0)), (2, .int (iI a1))]) hx hb dX11_of_8 rfl hl (by decide) rfl (fun ls hl => ?_)
    refine lv_aload_nN hx hb dX11_of_9 rfl (lv_at hl 0 rfl) ?_
    refine lv_ifnonnullN hx hb dX11_of_10 ?_
    exact vx_throw0 (own := "TapeRings") (cls := "java/util/NoSuchElementException") (names := ["java/lang/RuntimeException", "java/lang/Exception"]) (ik := 156) (ic := 158) hx hb hst hown (by decide +kernel) (by decide +kernel) (hts _ (z_mem k883)) (hts _ (z_mem k21)) (tw_hat (fun w hw => hts w (z_mem hw)) hZ.1) tw_good hZ.2.1 hZ.2.2 hS0 (hl.1.trans hml.symm) dX11_of_13 dX11_of_16 dX11_of_17 dX11_of_20 (fun x hx9 => (hex x hx9).elim) (Nat.le_of_ble_eq_true rfl) (Nat.le_of_ble_eq_true rfl) (Nat.le_of_ble_eq_true rfl) (Nat.le_of_ble_eq_true rfl) hlocks (fun t _ h1 h2 => wX_of hS hS0 h1 h2 h) hS0.2.2 (Nat.le_of_ble_eq_true rfl) (Nat.le_of_ble_eq_true rfl)
  · skip
    obtain ⟨⟨lt5, cd6⟩, h⟩ := h.2 q4 rfl
    obtain ⟨lt7, cd8, lt9, cd10, lt11, cd12⟩ := nx_ring q4 lt5 cd6
    refine lv_astore_n (lv' := [(3, .ref (b + q4)), (0, .ref (b + 0)), (1, .int (iI a0)), (2, .int (iI a1))]) hx hb dX11_of_8 rfl hl (by decide) rfl (fun ls hl => ?_)
    refine lv_aload_n hx hb dX11_of_9 rfl (lv_at hl 0 rfl) ?_
    refine lv_ifnonnull (tgt := 21) hx hb dX11_of_10 (by decide) ?_
    refine lv_iload_n hx hb dX11_of_21 rfl (lv_at hl 3 rfl) ?_
    rcases Decidable.em ((sI a1) = 0) with c13 | c13
    · skip
      have h := h.1 c13
      refine w_tabIn (tgt := 60) hx hb rfl c13 dX11_of_22 (by decide) (by decide) rfl (by decide) ?_
      refine lv_aload_n hx hb dX11_of_60 rfl (lv_at hl 0 rfl) ?_
      refine w_getr (j2 := (q4 + 1)) hx hb hts (z_memU u6) hown hK.1 hS f6_0 lt5 (zkd_of cd6 rfl) (zrf_of cd6 rfl) (Or.inl (hts _ (z_mem k96))) dX11_of_61 ?_
      refine w_geti hx hb hts (z_memU u8) hown hK.1 hS f8_1 lt7 (zkd_of cd8 rfl) (Or.inl (hts _ (z_mem k50))) dX11_of_64 ?_
      refine vx_ret (W.widen (k := 1) (n := 6) (Nat.zero_le _) (Nat.zero_le _) ?_)
      exact w_iret hx hb hr hlocks hS hS0 rfl ⟨rfl, h⟩ dX11_of_67
    have h := h.2 c13
    rcases Decidable.em ((sI a1) = 1) with c14 | c14
    · skip
      have h := h.1 c14
      refine w_tabIn (tgt := 68) hx hb rfl c14 dX11_of_22 (by decide) (by decide) rfl (by decide) ?_
      refine lv_aload_n hx hb dX11_of_68 rfl (lv_at hl 0 rfl) ?_
      refine w_geti hx hb hts (z_memU u6) hown hK.1 hS f6_1 lt5 (zkd_of cd6 rfl) (Or.inl (hts _ (z_mem k100))) dX11_of_69 ?_
      refine vx_ret (W.widen (k := 1) (n := 6) (Nat.zero_le _) (Nat.zero_le _) ?_)
      exact w_iret hx hb hr hlocks hS hS0 rfl ⟨rfl, h⟩ dX11_of_72
    have h := h.2 c14
    rcases Decidable.em ((sI a1) = 2) with c15 | c15
    · skip
      have h := h.1 c15
      refine w_tabIn (tgt := 73) hx hb rfl c15 dX11_of_22 (by decide) (by decide) rfl (by decide) ?_
      refine lv_aload_n hx hb dX11_of_73 rfl (lv_at hl 0 rfl) ?_
      refine w_geti hx hb hts (z_memU u6) hown hK.1 hS f6_2 lt5 (zkd_of cd6 rfl) (Or.inl (hts _ (z_mem k103))) dX11_of_74 ?_
      refine vx_ret (W.widen (k := 1) (n := 6) (Nat.zero_le _) (Nat.zero_le _) ?_)
      exact w_iret hx hb hr hlocks hS hS0 rfl ⟨rfl, h⟩ dX11_of_77
    have h := h.2 c15
    rcases Decidable.em ((sI a1) = 3) with c16 | c16
    · skip
      have h := h.1 c16
      refine w_tabIn (tgt := 78) hx hb rfl c16 dX11_of_22 (by decide) (by decide) rfl (by decide) ?_
      refine lv_aload_n hx hb dX11_of_78 rfl (lv_at hl 0 rfl) ?_
      refine w_geti hx hb hts (z_memU u6) hown hK.1 hS f6_3 lt5 (zkd_of cd6 rfl) (Or.inl (hts _ (z_mem k105))) dX11_of_79 ?_
      refine vx_ret (W.widen (k := 1) (n := 6) (Nat.zero_le _) (Nat.zero_le _) ?_)
      exact w_iret hx hb hr hlocks hS hS0 rfl ⟨rfl, h⟩ dX11_of_82
    have h := h.2 c16
    rcases Decidable.em ((sI a1) = 4) with c17 | c17
    · skip
      have h := h.1 c17
      refine w_tabIn (tgt := 83) hx hb rfl c17 dX11_of_22 (by decide) (by decide) rfl (by decide) ?_
      refine lv_aload_n hx hb dX11_of_83 rfl (lv_at hl 1 rfl) ?_
      refine w_getr (j2 := 32) hx hb hts (z_memU u11) hown hK.1 hS f11_2 (by decide) (zkd_of (rfl : zcd wC 0 = 0) rfl) (zrf_of (rfl : zcd wC 0 = 0) rfl) (Or.inl (hts _ (z_mem k244))) dX11_of_84 ?_
      refine lv_aload_n hx hb dX11_of_87 rfl (lv_at hl 0 rfl) ?_
      refine w_calli (va_runV (As := [.ref (b + q4)]) (rest := []) ⟨hx, hb, hml, hown, hts⟩ (cC_Studio_roundOf l D dA b M q4 lt5 cd6 _ h) (cwV 1 hts (z_gV k923 k523 k524 k4 k525) rfl rfl rfl dm_X9_roundOf ⟨Nat.le_of_ble_eq_true rfl, Nat.le_of_ble_eq_true rfl⟩) ⟨wPre_blind, (w_recv hS hK.1 (by decide) (zkd_of (rfl : zcd wC 32 = 8) rfl) (by decide) (rfl : vwCl[9]? = some (RX9, TX9, 3))), w_pre hS hK⟩ rfl rfl hl.1 rfl (lv_room (Nat.le_of_ble_eq_true rfl)) dX11_of_88 ⟨Nat.le_of_ble_eq_true rfl, Nat.le_of_ble_eq_true rfl⟩) hS0 (fun z19 M18 H locs r20 h hS hS0 => ?_)
      obtain ⟨e21, h⟩ := h
      rw [e21] at hS
      refine vx_ret (W.widen (k := 1) (n := 6) (Nat.zero_le _) (Nat.zero_le _) ?_)
      exact w_iret hx hb hr hlocks hS hS0 (sI_of r20) ⟨rfl, h⟩ dX11_of_91
    have h := h.2 c17
    rcases Decidable.em ((sI a1) = 5) with c22 | c22
    · skip
      have h := h.1 c22
      refine w_tabIn (tgt := 92) hx hb rfl c22 dX11_of_22 (by decide) (by decide) rfl (by decide) ?_
      refine lv_aload_n hx hb dX11_of_92 rfl (lv_at hl 0 rfl) ?_
      refine w_geti hx hb hts (z_memU u6) hown hK.1 hS f6_4 lt5 (zkd_of cd6 rfl) (Or.inl (hts _ (z_mem k108))) dX11_of_93 ?_
      refine vx_ret (W.widen (k := 1) (n := 6) (Nat.zero_le _) (Nat.zero_le _) ?_)
      exact w_iret hx hb hr hlocks hS hS0 rfl ⟨rfl, h⟩ dX11_of_96
    have h := h.2 c22
    refine w_tabOut (tgt := 97) hx hb rfl dX11_of_22 (tb_0_5 _ c13 c14 c15 c16 c17 c22) (by decide) ?_
    exact vx_throw0 (own := "TapeRings") (cls := "java/util/NoSuchElementException") (names := ["java/lang/RuntimeException", "java/lang/Exception"]) (ik := 156) (ic := 158) hx hb hst hown (by decide +kernel) (by decide +kernel) (hts _ (z_mem k883)) (hts _ (z_mem k21)) (tw_hat (fun w hw => hts w (z_mem hw)) hZ.1) tw_good hZ.2.1 hZ.2.2 hS0 (hl.1.trans hml.symm) dX11_of_97 dX11_of_100 dX11_of_101 dX11_of_104 (fun x hx9 => (hex x hx9).elim) (Nat.le_of_ble_eq_true rfl) (Nat.le_of_ble_eq_true rfl) (Nat.le_of_ble_eq_true rfl) (Nat.le_of_ble_eq_true rfl) hlocks (fun t _ h1 h2 => wX_of hS hS0 h1 h2 h) hS0.2.2 (Nat.le_of_ble_eq_true rfl) (Nat.le_of_ble_eq_true rfl)

set_option maxRecDepth 100000 in
def wC_inch (a0 : Int) (a1 : Int) (M : zM) (Q : Int → Prop) : Prop := wC_Studio_find a0 M (fun z2 => (z2 = none → Q (-1)) ∧ (∀ q4, z2 = some q4 → (q4 < nC ∧ zcd wC q4 = 14) ∧ (wC_Strip_at (q4 + 1) a1 M (fun z14 => Q z14))))
set_option maxHeartbeats 4000000 in
set_option maxRecDepth 100000 in
theorem cC_inch (l : Launch) (D : va_G) (dA : Nat → ClassId) (b : Nat) (M : zM) (a0 : Int) (a1 : Int)  (Q : Int → Prop) (h : wC_inch a0 a1 M Q) : Met l yX11_inch (.code yX11_inch cX11_inch 4 (some .int) :: zt) (z_rm 2) (va_Pc [.ref (b + 0), .int (iI a0), .int (iI a1)] (wPre D dA vwCl (z_tys dA) wC nC b M)) (va_Qi (wQi (fun z9 u9 => u9 = M ∧ Q z9)) (zB D dA vwCl wC nC b) (zA nC b)) 0 0 (zA nC b) := by
  unfold wC_inch at h
  refine Met.ofW (cc := cX11_inch) (maxL := 4) (ret := (some .int)) (by decide) rfl ?_
  intro p e s m args below meth c s₁ B hml hv
  obtain ⟨hargs, hS, hK⟩ := hv
  have hx := B.exec
  have hb := B.bytes
  have hr := B.returns
  have hts := atoms_spec (ws := .code yX11_inch cX11_inch 4 (some .int) :: zt) B.pre
  have hown : s.vm.findClass RX11 = some m.cls := findClass_of_methodNamed B.named
  have hlocks := B.notSynchronized
  have hS0 : va_S (zA nC b) s.heap s.heap [] := va_S.rf
  have hl := lv_entry ([.ref (b + 0), .int (iI a0), .int (iI a1)]) (n := 4) (Nat.le_of_ble_eq_true rfl)
  have hent : entryFrame m args 4 = F0 m 0 ((lg_sl ([.ref (b + 0), .int (iI a0), .int (iI a1)]) ++ List.replicate (4 - (lg_sl ([.ref (b + 0), .int (iI a0), .int (iI a1)])).length) Slot.unset).toArray) [] := by rw [hargs]; exact lg_entry_eq m ([.ref (b + 0), .int (iI a0), .int (iI a1)]) 4
  rw [hent]
  generalize (lg_sl ([.ref (b + 0), .int (iI a0), .int (iI a1)]) ++ List.replicate (4 - (lg_sl ([.ref (b + 0), .int (iI a0), .int (iI a1)])).length) Slot.unset).toArray = ls at hl ⊢
  have hl : lv_has ls 4 [(0, .ref (b + 0)), (1, .int (iI a0)), (2, .int (iI a1))] := hl
  refine lv_aload_n hx hb dX11_inch_0 rfl (lv_at hl 0 rfl) ?_
  refine w_getr (j2 := 32) hx hb hts (z_memU u11) hown hK.1 hS f11_2 (by decide) (zkd_of (rfl : zcd wC 0 = 0) rfl) (zrf_of (rfl : zcd wC 0 = 0) rfl) (Or.inl (hts _ (z_mem k244))) dX11_inch_1 ?_
  refine lv_iload_n hx hb dX11_inch_4 rfl (lv_at hl 1 rfl) ?_
  refine w_callq (va_runV (As := [.int (iI a0)]) (rest := []) ⟨hx, hb, hml, hown, hts⟩ (cC_Studio_find l D dA b M a0 _ h) (cwV 1 hts (z_gV k411 k412 k413 k4 k414) rfl rfl rfl dm_X9_find ⟨Nat.le_of_ble_eq_true rfl, Nat.le_of_ble_eq_true rfl⟩) ⟨wPre_blind, (w_recv hS hK.1 (by decide) (zkd_of (rfl : zcd wC 32 = 8) rfl) (by decide) (rfl : vwCl[9]? = some (RX9, TX9, 3))), w_pre hS hK⟩ rfl rfl hl.1 rfl (lv_room (Nat.le_of_ble_eq_true rfl)) dX11_inch_5 ⟨Nat.le_refl _, Nat.le_refl _⟩) hS0 (fun z2 M1 H locs h hS hS0 => ?_)
  obtain ⟨e3, h⟩ := h
  rw [e3] at hS
  rcases z2 with _ | q4
  · skip
    have h := h.1 rfl
    refine lv_astore_nN (lv' := [(3, .null), (0, .ref (b + 0)), (1, .int (iI a0)), (2, .int (iI a1))]) hx hb dX11_inch_8 rfl hl (by decide) rfl (fun ls hl => ?_)
    refine lv_aload_nN hx hb dX11_inch_9 rfl (lv_at hl 0 rfl) ?_
    refine lv_ifnonnullN hx hb dX11_inch_10 ?_
    refine z_iconst hx hb dX11_inch_13 ?_
    refine lv_goto (tgt := 25) hx hb dX11_inch_14 (by decide) ?_
    exact w_iret hx hb hr hlocks hS hS0 (sI_of (by decide)) ⟨rfl, h⟩ dX11_inch_25
  · skip
    obtain ⟨⟨lt5, cd6⟩, h⟩ := h.2 q4 rfl
    obtain ⟨lt7, cd8, lt9, cd10, lt11, cd12⟩ := nx_ring q4 lt5 cd6
    refine lv_astore_n (lv' := [(3, .ref (b + q4)), (0, .ref (b + 0)), (1, .int (iI a0)), (2, .int (iI a1))]) hx hb dX11_inch_8 rfl hl (by decide) rfl (fun ls hl => ?_)
    refine lv_aload_n hx hb dX11_inch_9 rfl (lv_at hl 0 rfl) ?_
    refine lv_ifnonnull (tgt := 17) hx hb dX11_inch_10 (by decide) ?_
    refine lv_aload_n hx hb dX11_inch_17 rfl (lv_at hl 0 rfl) ?_
    refine w_getr (j2 := (q4 + 1)) hx hb hts (z_memU u6) hown hK.1 hS f6_0 lt5 (zkd_of cd6 rfl) (zrf_of cd6 rfl) (Or.inl (hts _ (z_mem k96))) dX11_inch_18 ?_
    refine lv_iload_n hx hb dX11_inch_21 rfl (lv_at hl 3 rfl) ?_
    refine w_calli (va_runV (As := [.int (iI a1)]) (rest := []) ⟨hx, hb, hml, hown, hts⟩ (cC_Strip_at l D dA b M (q4 + 1) a1 lt7 cd8 _ h) (cwV 1 hts (z_gV k371 k372 k373 k3 k374) rfl rfl rfl dm_X8_at ⟨Nat.le_of_ble_eq_true rfl, Nat.le_of_ble_eq_true rfl⟩) ⟨wPre_blind, (w_recv hS hK.1 lt7 (zkd_of cd8 rfl) (by decide) (rfl : vwCl[8]? = some (RX8, TX8, 2))), w_pre hS hK⟩ rfl rfl hl.1 rfl (lv_room (Nat.le_of_ble_eq_true rfl)) dX11_inch_22 ⟨Nat.le_refl _, Nat.le_refl _⟩) hS0 (fun z14 M13 H locs r15 h hS hS0 => ?_)
    obtain ⟨e16, h⟩ := h
    rw [e16] at hS
    exact w_iret hx hb hr hlocks hS hS0 (sI_of r15) ⟨rfl, h⟩ dX11_inch_25

set_option maxRecDepth 100000 in
def wC_Motor_wayTo (j : Nat) (a0 : Int) (M : zM) (Q : Int → Prop) : Prop := pL4 (fun K11 x5 x6 x7 x8 => pJ0 (fun J76 => ((sI (M j 2)) ≤ (sI x8) → J76) ∧ ((sI x8) < (sI (M j 2)) → ((0 ≤ (sI x8) ∧ (sI x8) < 12) ∧ ((sL a0) ≤ (sI (M (j + 1) (sI x8).toNat)) → J76) ∧ ((sI (M (j + 1) (sI x8).toNat)) < (sL a0) → ((0 ≤ (sI x8) ∧ (sI x8) < 12) ∧ (∀ t32 : Int, t32 = (x5 + (((sI (M (j + 1) (sI x8).toNat)) - x6) * (sI x7))) → ((0 ≤ (sI x8) ∧ (sI x8) < 12) ∧ ((0 ≤ (sI x8) ∧ (sI x8) < 12) ∧ K11 t32 (sI (M (j + 1) (sI x8).toNat)) (M (j + 2) (sI x8).toNat) (x8 + 1))))))))) (Q (sL (x5 + ((a0 - x6) * (sI x7)))))) 0 0 1 0
set_option maxHeartbeats 4000000 in
set_option maxRecDepth 100000 in
theorem cC_Motor_wayTo (l : Launch) (D : va_G) (dA : Nat → ClassId) (b : Nat) (M : zM) (j : Nat) (a0 : Int) (lt_j : j < nC) (cd_j : zcd wC j = 11) (Q : Int → Prop) (h : wC_Motor_wayTo j a0 M Q) : Met l yX2_wayTo (.code yX2_wayTo cX2_wayTo 9 (some .long) :: zt) (z_rm 0) (va_Pc [.ref (b + j), .long (iL a0)] (wPre D dA vwCl (z_tys dA) wC nC b M)) (va_Ql (wQl (fun z9 u9 => u9 = M ∧ Q z9)) (zB D dA vwCl wC nC b) (zA nC b)) 0 0 (zA nC b) := by
  unfold wC_Motor_wayTo at h
  refine Met.ofW (cc := cX2_wayTo) (maxL := 9) (ret := (some .long)) (by decide) rfl ?_
  intro p e s m args below meth c s₁ B hml hv
  obtain ⟨hargs, hS, hK⟩ := hv
  have hx := B.exec
  have hb := B.bytes
  have hr := B.returns
  have hts := atoms_spec (ws := .code yX2_wayTo cX2_wayTo 9 (some .long) :: zt) B.pre
  have hown : s.vm.findClass RX2 = some m.cls := findClass_of_methodNamed B.named
  have hlocks := B.notSynchronized
  have hS0 : va_S (zA nC b) s.heap s.heap [] := va_S.rf
  have hl := lv_entry ([.ref (b + j), .long (iL a0)]) (n := 9) (Nat.le_of_ble_eq_true rfl)
  have hent : entryFrame m args 9 = F0 m 0 ((lg_sl ([.ref (b + j), .long (iL a0)]) ++ List.replicate (9 - (lg_sl ([.ref (b + j), .long (iL a0)])).length) Slot.unset).toArray) [] := by rw [hargs]; exact lg_entry_eq m ([.ref (b + j), .long (iL a0)]) 9
  rw [hent]
  generalize (lg_sl ([.ref (b + j), .long (iL a0)]) ++ List.replicate (9 - (lg_sl ([.ref (b + j), .long (iL a0)])).length) Slot.unset).toArray = ls at hl ⊢
  have hl : lv_has ls 9 [(0, .ref (b + j)), (1, .long (iL a0))] := hl
  obtain ⟨lt1, cd2, lt3, cd4⟩ := nx_motor j lt_j cd_j
  refine z_lconst0 hx hb dX2_wayTo_0 ?_
  refine lv_lstore_n (lv' := [(3, .long (iL 0)), (0, .ref (b + j)), (1, .long (iL a0))]) hx hb dX2_wayTo_1 rfl hl (by decide) rfl (fun ls hl => ?_)
  refine z_lconst0 hx hb dX2_wayTo_2 ?_
  refine lv_lstore (lv' := [(5, .long (iL 0)), (3, .long (iL 0)), (0, .ref (b + j)), (1, .long (iL a0))]) hx hb dX2_wayTo_3 hl (by decide) rfl (fun ls hl => ?_)
  refine z_iconst hx hb dX2_wayTo_5 ?_
  refine lv_istore (lv' := [(7, .int (iI 1)), (5, .long (iL 0)), (3, .long (iL 0)), (0, .ref (b + j)), (1, .long (iL a0))]) hx hb dX2_wayTo_6 hl (by decide) rfl (fun ls hl => ?_)
  refine z_iconst hx hb dX2_wayTo_8 ?_
  refine lv_istore (lv' := [(8, .int (iI 0)), (7, .int (iI 1)), (5, .long (iL 0)), (3, .long (iL 0)), (0, .ref (b + j)), (1, .long (iL a0))]) hx hb dX2_wayTo_9 hl (by decide) rfl (fun ls hl => ?_)
  obtain ⟨I9, ⟨n10, h11⟩, h12⟩ := h
  have L13 : ∀ (n14 : Nat) (x5 x6 x7 x8 : Int) (H : Heap) (locs : List Loc) (ls : Array Slot), I9 n14 x5 x6 x7 x8 → zR D dA vwCl wC nC b M H → va_S (zA nC b) s.heap H locs → lv_has ls 9 [(0, .ref (b + j)), (1, .long (iL a0)), (3, .long (iL x5)), (5, .long (iL x6)), (7, .int (iI x7)), (8, .int (iI x8))] → W p l e (headSpec (.code yX2_wayTo cX2_wayTo 9 (some .long) :: zt) (z_rm 0)).room s m args below meth c H locs 0 0 (MQ below (va_Ql (wQl (fun z9 u9 => u9 = M ∧ Q z9)) (zB D dA vwCl wC nC b) (zA nC b)) args s 0 0 (zA nC b)) (F0 m 11 ls []) := by
    intro n14
    induction n14 using Nat.strongRecOn with
    | ind n14 i15 =>
      intro x5 x6 x7 x8 H locs ls h hS hS0 hl
      have h := h12 n14 x5 x6 x7 x8 h
      refine lv_iload hx hb dX2_wayTo_11 (lv_at hl 5 rfl) ?_
      refine lv_aload_n hx hb dX2_wayTo_13 rfl (lv_at hl 0 rfl) ?_
      refine w_geti hx hb hts (z_memU u2) hown hK.1 hS f2_2 lt_j (zkd_of cd_j rfl) (Or.inl (hts _ (z_mem k84))) dX2_wayTo_14 ?_
      obtain ⟨J76, B27, h⟩ := h
      have L26 : ∀ (H : Heap) (locs : List Loc) (ls : Array Slot), J76 → zR D dA vwCl wC nC b M H → va_S (zA nC b) s.heap H locs → lv_has ls 9 [(1, .long (iL a0)), (3, .long (iL x5)), (5, .long (iL x6)), (7, .int (iI x7))] → W p l e (headSpec (.code yX2_wayTo cX2_wayTo 9 (some .long) :: zt) (z_rm 0)).room s m args below meth c H locs 0 0 (MQ below (va_Ql (wQl (fun z9 u9 => u9 = M ∧ Q z9)) (zB D dA vwCl wC nC b) (zA nC b)) args s 0 0 (zA nC b)) (F0 m 76 ls []) := by
        intro  H locs ls h hS hS0 hl
        have h := B27 h
        refine lv_lload_n hx hb dX2_wayTo_76 rfl (lv_at hl 1 rfl) ?_
        refine lv_lload_n hx hb dX2_wayTo_77 rfl (lv_at hl 0 rfl) ?_
        refine lv_lload hx hb dX2_wayTo_78 (lv_at hl 2 rfl) ?_
        refine z_lsub hx hb dX2_wayTo_80 ?_
        refine lv_iload hx hb dX2_wayTo_81 (lv_at hl 3 rfl) ?_
        refine w_i2l hx hb rfl dX2_wayTo_83 ?_
        refine z_lmul hx hb dX2_wayTo_84 ?_
        refine z_ladd hx hb dX2_wayTo_85 ?_
        exact w_lret hx hb hr hlocks hS hS0 rfl ⟨rfl, h⟩ dX2_wayTo_86
      refine w_icmp_ge (tgt := 76) hx hb rfl rfl dX2_wayTo_17 (by decide) (fun c28 => ?_) (fun c28 => ?_)
      · skip
        have h := h.1 c28
        exact L26 _ _ _ h hS hS0 (lv_sub hl [1, 2, 3, 4] rfl)
      · skip
        have h := h.2 c28
        refine lv_aload_n hx hb dX2_wayTo_20 rfl (lv_at hl 0 rfl) ?_
        refine w_getr (j2 := (j + 1)) hx hb hts (z_memU u2) hown hK.1 hS f2_0 lt_j (zkd_of cd_j rfl) (zrf_of cd_j rfl) (Or.inl (hts _ (z_mem k82))) dX2_wayTo_21 ?_
        refine lv_iload hx hb dX2_wayTo_24 (lv_at hl 5 rfl) ?_
        obtain ⟨o29, h⟩ := h
        refine w_iald (n := 12) (i := (sI x8)) hx hb hK.1 (t0 := 0) rfl hS lt1 (zkd_of cd2 rfl) (zln_of cd2 rfl) rfl o29.1 o29.2 (by decide) dX2_wayTo_26 ?_
        refine w_i2l hx hb rfl dX2_wayTo_27 ?_
        refine lv_lload_n hx hb dX2_wayTo_28 rfl (lv_at hl 1 rfl) ?_
        refine w_lcmp_ge hx hb (sL_ofI rfl) rfl dX2_wayTo_29 dX2_wayTo_30 (tgt := 76) (by decide) (fun c30 => ?_) (fun c30 => ?_)
        · skip
          have h := h.1 c30
          exact L26 _ _ _ h hS hS0 (lv_sub hl [1, 2, 3, 4] rfl)
        · skip
          have h := h.2 c30
          refine lv_lload_n hx hb dX2_wayTo_33 rfl (lv_at hl 2 rfl) ?_
          refine lv_aload_n hx hb dX2_wayTo_34 rfl (lv_at hl 0 rfl) ?_
          refine w_getr (j2 := (j + 1)) hx hb hts (z_memU u2) hown hK.1 hS f2_0 lt_j (zkd_of cd_j rfl) (zrf_of cd_j rfl) (Or.inl (hts _ (z_mem k82))) dX2_wayTo_35 ?_
          refine lv_iload hx hb dX2_wayTo_38 (lv_at hl 5 rfl) ?_
          obtain ⟨o31, h⟩ := h
          refine w_iald (n := 12) (i := (sI x8)) hx hb hK.1 (t0 := 0) rfl hS lt1 (zkd_of cd2 rfl) (zln_of cd2 rfl) rfl o31.1 o31.2 (by decide) dX2_wayTo_40 ?_
          refine w_i2l hx hb rfl dX2_wayTo_41 ?_
          refine lv_lload hx hb dX2_wayTo_42 (lv_at hl 3 rfl) ?_
          refine z_lsub hx hb dX2_wayTo_44 ?_
          refine lv_iload hx hb dX2_wayTo_45 (lv_at hl 4 rfl) ?_
          refine w_i2l hx hb rfl dX2_wayTo_47 ?_
          refine z_lmul hx hb dX2_wayTo_48 ?_
          refine z_ladd hx hb dX2_wayTo_49 ?_
          obtain ⟨t32, e33⟩ : ∃ t32 : Int, t32 = (x5 + (((sI (M (j + 1) (sI x8).toNat)) - x6) * (sI x7))) := ⟨_, rfl⟩
          refine z_topl (y := t32) e33.symm ?_
          have h := h t32 e33
          refine lv_lstore_n (lv' := [(3, .long (iL t32)), (0, .ref (b + j)), (1, .long (iL a0)), (5, .long (iL x6)), (7, .int (iI x7)), (8, .int (iI x8))]) hx hb dX2_wayTo_50 rfl hl (by decide) rfl (fun ls hl => ?_)
          refine lv_aload_n hx hb dX2_wayTo_51 rfl (lv_at hl 1 rfl) ?_
          refine w_getr (j2 := (j + 1)) hx hb hts (z_memU u2) hown hK.1 hS f2_0 lt_j (zkd_of cd_j rfl) (zrf_of cd_j rfl) (Or.inl (hts _ (z_mem k82))) dX2_wayTo_52 ?_
          refine lv_iload hx hb dX2_wayTo_55 (lv_at hl 5 rfl) ?_
          obtain ⟨o34, h⟩ := h
          refine w_iald (n := 12) (i := (sI x8)) hx hb hK.1 (t0 := 0) rfl hS lt1 (zkd_of cd2 rfl) (zln_of cd2 rfl) rfl o34.1 o34.2 (by decide) dX2_wayTo_57 ?_
          refine w_i2l hx hb rfl dX2_wayTo_58 ?_
          refine lv_lstore (lv' := [(5, .long (iL (sI (M (j + 1) (sI x8).toNat)))), (3, .long (iL t32)), (0, .ref (b + j)), (1, .long (iL a0)), (7, .int (iI x7)), (8, .int (iI x8))]) hx hb dX2_wayTo_59 hl (by decide) rfl (fun ls hl => ?_)
          refine lv_aload_n hx hb dX2_wayTo_61 rfl (lv_at hl 2 rfl) ?_
          refine w_getr (j2 := (j + 2)) hx hb hts (z_memU u2) hown hK.1 hS f2_1 lt_j (zkd_of cd_j rfl) (zrf_of cd_j rfl) (Or.inl (hts _ (z_mem k83))) dX2_wayTo_62 ?_
          refine lv_iload hx hb dX2_wayTo_65 (lv_at hl 5 rfl) ?_
          obtain ⟨o35, h⟩ := h
          refine w_iald (n := 12) (i := (sI x8)) hx hb hK.1 (t0 := 0) rfl hS lt3 (zkd_of cd4 rfl) (zln_of cd4 rfl) rfl o35.1 o35.2 (by decide) dX2_wayTo_67 ?_
          refine lv_istore (lv' := [(7, .int (iI (M (j + 2) (sI x8).toNat))), (5, .long (iL (sI (M (j + 1) (sI x8).toNat)))), (3, .long (iL t32)), (0, .ref (b + j)), (1, .long (iL a0)), (8, .int (iI x8))]) hx hb dX2_wayTo_68 hl (by decide) rfl (fun ls hl => ?_)
          refine z_iinc (lv' := [(8, .int (iI (x8 + 1))), (7, .int (iI (M (j + 2) (sI x8).toNat))), (5, .long (iL (sI (M (j + 1) (sI x8).toNat)))), (3, .long (iL t32)), (0, .ref (b + j)), (1, .long (iL a0))]) hx hb dX2_wayTo_70 hl (k := 5) rfl (by decide) rfl (fun ls hl => ?_)
          refine lv_goto (tgt := 11) hx hb dX2_wayTo_73 (by decide) ?_
          obtain ⟨n36, h37, h⟩ := h
          exact i15 n36 h37 t32 (sI (M (j + 1) (sI x8).toNat)) (M (j + 2) (sI x8).toNat) (x8 + 1) _ _ _ h hS hS0 (lv_sub hl [4, 5, 3, 2, 1, 0] rfl)
  exact L13 n10 0 0 1 0 _ _ _ h11 hS hS0 (lv_sub hl [4, 5, 3, 2, 1, 0] rfl)

set_option maxRecDepth 100000 in
def wC_way (a0 : Int) (a1 : Int) (M : zM) (Q : Int → Prop) (X : Prop) : Prop := wC_isMotor a0 M (fun z2 => (z2 = 0 → X) ∧ (z2 ≠ 0 → wC_within a1 0 1000000000 M (fun z7 => (z7 ≠ 0 → wC_Studio_motorOf a0 M (fun z12 => ∃ q14, z12 = some q14 ∧ (q14 < nC ∧ zcd wC q14 = 11) ∧ (wC_Motor_wayTo q14 (sI a1) M (fun z22 => Q z22)))) ∧ (z7 = 0 → X))))
set_option maxHeartbeats 4000000 in
set_option maxRecDepth 100000 in
theorem cC_way (l : Launch) (hst : l.stackTraces = false) (D : va_G) (dA : Nat → ClassId) (b : Nat) (M : zM) (a0 : Int) (a1 : Int)  (Q : Int → Prop) (X : Prop) (h : wC_way a0 a1 M Q X) : vx_Met l yX11_way (.code yX11_way cX11_way 3 (some .long) :: zt) (z_rmT 2) (va_Pc [.ref (b + 0), .int (iI a0), .int (iI a1)] (wPreT D dA vwCl (z_tys dA) wC nC b M)) (va_Ql (wQl (fun z9 u9 => u9 = M ∧ Q z9)) (zB D dA vwCl wC nC b) (zA nC b)) (zXC D dA vwCl wC nC b M X) 1 6 (zA nC b) := by
  unfold wC_way at h
  refine vx_ofW (cc := cX11_way) (maxL := 3) (ret := (some .long)) (by decide) rfl ?_
  intro p e s m args below meth c s₁ B hml hex hv
  obtain ⟨hargs, ⟨hS, hK⟩, hZ⟩ := hv
  have hx := B.exec
  have hb := B.bytes
  have hr := B.returns
  have hts := atoms_spec (ws := .code yX11_way cX11_way 3 (some .long) :: zt) B.pre
  have hown : s.vm.findClass RX11 = some m.cls := findClass_of_methodNamed B.named
  have hlocks := B.notSynchronized
  have hS0 : va_S (zA nC b) s.heap s.heap [] := va_S.rf
  have hl := lv_entry ([.ref (b + 0), .int (iI a0), .int (iI a1)]) (n := 3) (Nat.le_of_ble_eq_true rfl)
  have hent : entryFrame m args 3 = F0 m 0 ((lg_sl ([.ref (b + 0), .int (iI a0), .int (iI a1)]) ++ List.replicate (3 - (lg_sl ([.ref (b + 0), .int (iI a0), .int (iI a1)])).length) Slot.unset).toArray) [] := by rw [hargs]; exact lg_entry_eq m ([.ref (b + 0), .int (iI a0), .int (iI a1)]) 3
  rw [hent]
  generalize (lg_sl ([.ref (b + 0), .int (iI a0), .int (iI a1)]) ++ List.replicate (3 - (lg_sl ([.ref (b + 0), .int (iI a0), .int (iI a1)])).length) Slot.unset).toArray = ls at hl ⊢
  have hl : lv_has ls 3 [(0, .ref (b + 0)), (1, .int (iI a0)), (2, .int (iI a1))] := hl
  refine lv_iload_n hx hb dX11_way_0 rfl (lv_at hl 1 rfl) ?_
  refine w_callz (va_runS (As := [.int (iI a0)]) (rest := []) ⟨hx, hb, hml, hown, hts⟩ (cC_isMotor l D dA b M a0 _ h) (va_cwS 1 hts (z_gS k379 k380 k1 k381) rfl rfl rfl dm_X11_isMotor.2 ⟨Nat.le_of_ble_eq_true rfl, Nat.le_of_ble_eq_true rfl⟩) ⟨wPre_blind, w_pre hS hK⟩ rfl rfl hl.1 rfl (lv_room (Nat.le_of_ble_eq_true rfl)) dX11_way_1 ⟨Nat.le_of_ble_eq_true rfl, Nat.le_of_ble_eq_true rfl⟩) hS0 (fun z2 M1 H locs r3 h hS hS0 => ?_)
  obtain ⟨e4, h⟩ := h
  rw [e4] at hS
  refine w_if_eq (tgt := 17) hx hb (sI_01 r3) dX11_way_4 (by decide) (fun c5 => ?_) (fun c5 => ?_)
  · skip
    have h := h.1 c5
    exact vx_throw0 (own := "TapeRings") (cls := "java/util/NoSuchElementException") (names := ["java/lang/RuntimeException", "java/lang/Exception"]) (ik := 156) (ic := 158) hx hb hst hown (by decide +kernel) (by decide +kernel) (hts _ (z_mem k883)) (hts _ (z_mem k21)) (tw_hat (fun w hw => hts w (z_mem hw)) hZ.1) tw_good hZ.2.1 hZ.2.2 hS0 (hl.1.trans hml.symm) dX11_way_17 dX11_way_20 dX11_way_21 dX11_way_24 (fun x hx9 => (hex x hx9).elim) (Nat.le_of_ble_eq_true rfl) (Nat.le_of_ble_eq_true rfl) (Nat.le_of_ble_eq_true rfl) (Nat.le_of_ble_eq_true rfl) hlocks (fun t _ h1 h2 => wX_of hS hS0 h1 h2 h) hS0.2.2 (Nat.le_of_ble_eq_true rfl) (Nat.le_of_ble_eq_true rfl)
  · skip
    have h := h.2 c5
    refine lv_iload_n hx hb dX11_way_7 rfl (lv_at hl 2 rfl) ?_
    refine z_iconst hx hb dX11_way_8 ?_
    refine z_ldc (n := 1000000000) hx hb hown (hts _ (z_mem k930)) (by decide) dX11_way_9 ?_
    refine w_callz (va_runS (As := [.int (iI a1), .int (iI 0), .int (iI 1000000000)]) (rest := []) ⟨hx, hb, hml, hown, hts⟩ (cC_within l D dA b M a1 0 1000000000 _ h) (va_cwS 3 hts (z_gS k382 k383 k1 k384) rfl rfl rfl dm_X11_within.2 ⟨Nat.le_of_ble_eq_true rfl, Nat.le_of_ble_eq_true rfl⟩) ⟨wPre_blind, w_pre hS hK⟩ rfl rfl hl.1 rfl (lv_room (Nat.le_of_ble_eq_true rfl)) dX11_way_11 ⟨Nat.le_of_ble_eq_true rfl, Nat.le_of_ble_eq_true rfl⟩) hS0 (fun z7 M6 H locs r8 h hS hS0 => ?_)
    obtain ⟨e9, h⟩ := h
    rw [e9] at hS
    refine w_if_ne (tgt := 25) hx hb (sI_01 r8) dX11_way_14 (by decide) (fun c10 => ?_) (fun c10 => ?_)
    · skip
      have h := h.1 c10
      refine lv_aload_n hx hb dX11_way_25 rfl (lv_at hl 0 rfl) ?_
      refine w_getr (j2 := 32) hx hb hts (z_memU u11) hown hK.1 hS f11_2 (by decide) (zkd_of (rfl : zcd wC 0 = 0) rfl) (zrf_of (rfl : zcd wC 0 = 0) rfl) (Or.inl (hts _ (z_mem k244))) dX11_way_26 ?_
      refine lv_iload_n hx hb dX11_way_29 rfl (lv_at hl 1 rfl) ?_
      refine w_callq (va_runV (As := [.int (iI a0)]) (rest := []) ⟨hx, hb, hml, hown, hts⟩ (cC_Studio_motorOf l D dA b M a0 _ h) (cwV 1 hts (z_gV k442 k443 k444 k4 k445) rfl rfl rfl dm_X9_motorOf ⟨Nat.le_of_ble_eq_true rfl, Nat.le_of_ble_eq_true rfl⟩) ⟨wPre_blind, (w_recv hS hK.1 (by decide) (zkd_of (rfl : zcd wC 32 = 8) rfl) (by decide) (rfl : vwCl[9]? = some (RX9, TX9, 3))), w_pre hS hK⟩ rfl rfl hl.1 rfl (lv_room (Nat.le_of_ble_eq_true rfl)) dX11_way_30 ⟨Nat.le_of_ble_eq_true rfl, Nat.le_of_ble_eq_true rfl⟩) hS0 (fun z12 M11 H locs h hS hS0 => ?_)
      obtain ⟨e13, h⟩ := h
      rw [e13] at hS
      obtain ⟨q14, rfl, ⟨lt15, cd16⟩, h⟩ := h
      obtain ⟨lt17, cd18, lt19, cd20⟩ := nx_motor q14 lt15 cd16
      refine lv_iload_n hx hb dX11_way_33 rfl (lv_at hl 2 rfl) ?_
      refine w_i2l hx hb rfl dX11_way_34 ?_
      refine w_calll (va_runV (As := [.long (iL (sI a1))]) (rest := []) ⟨hx, hb, hml, hown, hts⟩ (cC_Motor_wayTo l D dA b M q14 (sI a1) lt15 cd16 _ h) (cwV 1 hts (z_gV k931 k495 k496 k5 k497) rfl rfl rfl dm_X2_wayTo ⟨Nat.le_of_ble_eq_true rfl, Nat.le_of_ble_eq_true rfl⟩) ⟨wPre_blind, (w_recv hS hK.1 lt15 (zkd_of cd16 rfl) (by decide) (rfl : vwCl[2]? = some (RX2, TX2, 3))), w_pre hS hK⟩ rfl rfl hl.1 rfl (lv_room (Nat.le_of_ble_eq_true rfl)) dX11_way_35 ⟨Nat.le_of_ble_eq_true rfl, Nat.le_of_ble_eq_true rfl⟩) hS0 (fun z22 M21 H locs r23 h hS hS0 => ?_)
      obtain ⟨e24, h⟩ := h
      rw [e24] at hS
      refine vx_ret (W.widen (k := 1) (n := 6) (Nat.zero_le _) (Nat.zero_le _) ?_)
      exact w_lret hx hb hr hlocks hS hS0 (sL_of r23) ⟨rfl, h⟩ dX11_way_38
    · skip
      have h := h.2 c10
      exact vx_throw0 (own := "TapeRings") (cls := "java/util/NoSuchElementException") (names := ["java/lang/RuntimeException", "java/lang/Exception"]) (ik := 156) (ic := 158) hx hb hst hown (by decide +kernel) (by decide +kernel) (hts _ (z_mem k883)) (hts _ (z_mem k21)) (tw_hat (fun w hw => hts w (z_mem hw)) hZ.1) tw_good hZ.2.1 hZ.2.2 hS0 (hl.1.trans hml.symm) dX11_way_17 dX11_way_20 dX11_way_21 dX11_way_24 (fun x hx9 => (hex x hx9).elim) (Nat.le_of_ble_eq_true rfl) (Nat.le_of_ble_eq_true rfl) (Nat.le_of_ble_eq_true rfl) (Nat.le_of_ble_eq_true rfl) hlocks (fun t _ h1 h2 => wX_of hS hS0 h1 h2 h) hS0.2.2 (Nat.le_of_ble_eq_true rfl) (Nat.le_of_ble_eq_true rfl)
