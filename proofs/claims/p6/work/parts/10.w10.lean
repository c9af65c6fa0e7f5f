/-! the W layer, 10 -/
theorem dX0_comesBackIn_0 : decode cX0_comesBackIn 0 = .ok (.sipush 3981, 3) := by decide +kernel
theorem dX0_comesBackIn_10 : decode cX0_comesBackIn 10 = .ok (.getfield 9, 3) := by decide +kernel
theorem dX0_comesBackIn_13 : decode cX0_comesBackIn 13 = .ok (.if_icmp .lt 22, 3) := by decide +kernel
theorem dX0_comesBackIn_16 : decode cX0_comesBackIn 16 = .ok (.aload_n 0, 1) := by decide +kernel
theorem dX0_comesBackIn_17 : decode cX0_comesBackIn 17 = .ok (.iload_n 1, 1) := by decide +kernel
theorem dX0_comesBackIn_18 : decode cX0_comesBackIn 18 = .ok (.iload_n 1, 1) := by decide +kernel
theorem dX0_comesBackIn_19 : decode cX0_comesBackIn 19 = .ok (.iload_n 2, 1) := by decide +kernel
theorem dX0_comesBackIn_20 : decode cX0_comesBackIn 20 = .ok (.isub, 1) := by decide +kernel
theorem dX0_comesBackIn_21 : decode cX0_comesBackIn 21 = .ok (.invokevirtual 76, 3) := by decide +kernel
theorem dX0_comesBackIn_24 : decode cX0_comesBackIn 24 = .ok (.ifCond .eq 5, 3) := by decide +kernel
theorem dX0_comesBackIn_27 : decode cX0_comesBackIn 27 = .ok (.iload_n 2, 1) := by decide +kernel
theorem dX0_comesBackIn_28 : decode cX0_comesBackIn 28 = .ok (.ireturn, 1) := by decide +kernel
theorem dX0_comesBackIn_29 : decode cX0_comesBackIn 29 = .ok (.iinc 2 1, 3) := by decide +kernel
theorem dX0_comesBackIn_3 : decode cX0_comesBackIn 3 = .ok (.istore_n 1, 1) := by decide +kernel
theorem dX0_comesBackIn_32 : decode cX0_comesBackIn 32 = .ok (.goto (-26), 3) := by decide +kernel
theorem dX0_comesBackIn_35 : decode cX0_comesBackIn 35 = .ok (.iconst (-1), 1) := by decide +kernel
theorem dX0_comesBackIn_36 : decode cX0_comesBackIn 36 = .ok (.ireturn, 1) := by decide +kernel
theorem dX0_comesBackIn_4 : decode cX0_comesBackIn 4 = .ok (.iconst 1, 1) := by decide +kernel
theorem dX0_comesBackIn_5 : decode cX0_comesBackIn 5 = .ok (.istore_n 2, 1) := by decide +kernel
theorem dX0_comesBackIn_6 : decode cX0_comesBackIn 6 = .ok (.iload_n 1, 1) := by decide +kernel
theorem dX0_comesBackIn_7 : decode cX0_comesBackIn 7 = .ok (.iload_n 2, 1) := by decide +kernel
theorem dX0_comesBackIn_8 : decode cX0_comesBackIn 8 = .ok (.isub, 1) := by decide +kernel
theorem dX0_comesBackIn_9 : decode cX0_comesBackIn 9 = .ok (.aload_n 0, 1) := by decide +kernel
theorem dX0_fate_0 : decode cX0_fate 0 = .ok (.aload_n 0, 1) := by decide +kernel
theorem dX0_fate_1 : decode cX0_fate 1 = .ok (.aload_n 1, 1) := by decide +kernel
theorem dX0_fate_12 : decode cX0_fate 12 = .ok (.istore_n 2, 1) := by decide +kernel
theorem dX0_fate_13 : decode cX0_fate 13 = .ok (.iload_n 2, 1) := by decide +kernel
theorem dX0_fate_14 : decode cX0_fate 14 = .ok (.iconst (-1), 1) := by decide +kernel
theorem dX0_fate_15 : decode cX0_fate 15 = .ok (.if_icmp .eq 5, 3) := by decide +kernel
theorem dX0_fate_18 : decode cX0_fate 18 = .ok (.iload_n 2, 1) := by decide +kernel
theorem dX0_fate_19 : decode cX0_fate 19 = .ok (.ireturn, 1) := by decide +kernel
theorem dX0_fate_2 : decode cX0_fate 2 = .ok (.sipush 4000, 3) := by decide +kernel
theorem dX0_fate_20 : decode cX0_fate 20 = .ok (.aload_n 0, 1) := by decide +kernel
theorem dX0_fate_21 : decode cX0_fate 21 = .ok (.invokevirtual 73, 3) := by decide +kernel
theorem dX0_fate_24 : decode cX0_fate 24 = .ok (.istore_n 3, 1) := by decide +kernel
theorem dX0_fate_25 : decode cX0_fate 25 = .ok (.iload_n 3, 1) := by decide +kernel
theorem dX0_fate_26 : decode cX0_fate 26 = .ok (.iconst (-1), 1) := by decide +kernel
theorem dX0_fate_27 : decode cX0_fate 27 = .ok (.if_icmp .ne 6, 3) := by decide +kernel
theorem dX0_fate_30 : decode cX0_fate 30 = .ok (.bipush (-3), 2) := by decide +kernel
theorem dX0_fate_32 : decode cX0_fate 32 = .ok (.ireturn, 1) := by decide +kernel
theorem dX0_fate_33 : decode cX0_fate 33 = .ok (.sipush 4000, 3) := by decide +kernel
theorem dX0_fate_36 : decode cX0_fate 36 = .ok (.iload_n 3, 1) := by decide +kernel
theorem dX0_fate_37 : decode cX0_fate 37 = .ok (.isub, 1) := by decide +kernel
theorem dX0_fate_38 : decode cX0_fate 38 = .ok (.istore 4, 2) := by decide +kernel
theorem dX0_fate_40 : decode cX0_fate 40 = .ok (.iload 4, 2) := by decide +kernel
theorem dX0_fate_42 : decode cX0_fate 42 = .ok (.aload_n 0, 1) := by decide +kernel
theorem dX0_fate_43 : decode cX0_fate 43 = .ok (.getfield 9, 3) := by decide +kernel
theorem dX0_fate_46 : decode cX0_fate 46 = .ok (.if_icmp .le 30, 3) := by decide +kernel
theorem dX0_fate_49 : decode cX0_fate 49 = .ok (.aload_n 0, 1) := by decide +kernel
theorem dX0_fate_5 : decode cX0_fate 5 = .ok (.invokevirtual 65, 3) := by decide +kernel
theorem dX0_fate_50 : decode cX0_fate 50 = .ok (.iload 4, 2) := by decide +kernel
theorem dX0_fate_52 : decode cX0_fate 52 = .ok (.iconst 1, 1) := by decide +kernel
theorem dX0_fate_53 : decode cX0_fate 53 = .ok (.isub, 1) := by decide +kernel
theorem dX0_fate_54 : decode cX0_fate 54 = .ok (.invokevirtual 62, 3) := by decide +kernel
theorem dX0_fate_57 : decode cX0_fate 57 = .ok (.aload_n 0, 1) := by decide +kernel
theorem dX0_fate_58 : decode cX0_fate 58 = .ok (.iload 4, 2) := by decide +kernel
theorem dX0_fate_60 : decode cX0_fate 60 = .ok (.iconst 1, 1) := by decide +kernel
theorem dX0_fate_61 : decode cX0_fate 61 = .ok (.isub, 1) := by decide +kernel
theorem dX0_fate_62 : decode cX0_fate 62 = .ok (.iload_n 3, 1) := by decide +kernel
theorem dX0_fate_63 : decode cX0_fate 63 = .ok (.iadd, 1) := by decide +kernel
theorem dX0_fate_64 : decode cX0_fate 64 = .ok (.invokevirtual 62, 3) := by decide +kernel
theorem dX0_fate_67 : decode cX0_fate 67 = .ok (.if_icmp .ne 9, 3) := by decide +kernel
theorem dX0_fate_70 : decode cX0_fate 70 = .ok (.iinc 4 (-1), 3) := by decide +kernel
theorem dX0_fate_73 : decode cX0_fate 73 = .ok (.goto (-33), 3) := by decide +kernel
theorem dX0_fate_76 : decode cX0_fate 76 = .ok (.aload_n 0, 1) := by decide +kernel
theorem dX0_fate_77 : decode cX0_fate 77 = .ok (.getfield 15, 3) := by decide +kernel
theorem dX0_fate_8 : decode cX0_fate 8 = .ok (.aload_n 0, 1) := by decide +kernel
theorem dX0_fate_80 : decode cX0_fate 80 = .ok (.iconst 0, 1) := by decide +kernel
theorem dX0_fate_81 : decode cX0_fate 81 = .ok (.iload 4, 2) := by decide +kernel
theorem dX0_fate_83 : decode cX0_fate 83 = .ok (.iastore, 1) := by decide +kernel
theorem dX0_fate_84 : decode cX0_fate 84 = .ok (.aload_n 0, 1) := by decide +kernel
theorem dX0_fate_85 : decode cX0_fate 85 = .ok (.getfield 15, 3) := by decide +kernel
theorem dX0_fate_88 : decode cX0_fate 88 = .ok (.iconst 1, 1) := by decide +kernel
theorem dX0_fate_89 : decode cX0_fate 89 = .ok (.iload_n 3, 1) := by decide +kernel
theorem dX0_fate_9 : decode cX0_fate 9 = .ok (.invokevirtual 69, 3) := by decide +kernel
theorem dX0_fate_90 : decode cX0_fate 90 = .ok (.iastore, 1) := by decide +kernel
theorem dX0_fate_91 : decode cX0_fate 91 = .ok (.bipush (-2), 2) := by decide +kernel
theorem dX0_fate_93 : decode cX0_fate 93 = .ok (.ireturn, 1) := by decide +kernel
theorem dX11_dies_0 : decode cX11_dies 0 = .ok (.aload_n 0, 1) := by decide +kernel
theorem dX11_dies_1 : decode cX11_dies 1 = .ok (.getfield 47, 3) := by decide +kernel
theorem dX11_dies_11 : decode cX11_dies 11 = .ok (.istore_n 1, 1) := by decide +kernel
theorem dX11_dies_12 : decode cX11_dies 12 = .ok (.iload_n 1, 1) := by decide +kernel
theorem dX11_dies_13 : decode cX11_dies 13 = .ok (.bipush (-2), 2) := by decide +kernel
theorem dX11_dies_15 : decode cX11_dies 15 = .ok (.if_icmp .ne 15, 3) := by decide +kernel
theorem dX11_dies_18 : decode cX11_dies 18 = .ok (.aload_n 0, 1) := by decide +kernel
theorem dX11_dies_19 : decode cX11_dies 19 = .ok (.aload_n 0, 1) := by decide +kernel
theorem dX11_dies_20 : decode cX11_dies 20 = .ok (.getfield 47, 3) := by decide +kernel
theorem dX11_dies_23 : decode cX11_dies 23 = .ok (.getfield 250, 3) := by decide +kernel
theorem dX11_dies_26 : decode cX11_dies 26 = .ok (.iconst 2, 1) := by decide +kernel
theorem dX11_dies_27 : decode cX11_dies 27 = .ok (.invokevirtual 220, 3) := by decide +kernel
theorem dX11_dies_30 : decode cX11_dies 30 = .ok (.iload_n 1, 1) := by decide +kernel
theorem dX11_dies_31 : decode cX11_dies 31 = .ok (.ireturn, 1) := by decide +kernel
theorem dX11_dies_4 : decode cX11_dies 4 = .ok (.aload_n 0, 1) := by decide +kernel
theorem dX11_dies_5 : decode cX11_dies 5 = .ok (.getfield 26, 3) := by decide +kernel
theorem dX11_dies_8 : decode cX11_dies 8 = .ok (.invokevirtual 247, 3) := by decide +kernel
theorem dX11_gap_0 : decode cX11_gap 0 = .ok (.aload_n 0, 1) := by decide +kernel
theorem dX11_gap_1 : decode cX11_gap 1 = .ok (.getfield 54, 3) := by decide +kernel
theorem dX11_gap_4 : decode cX11_gap 4 = .ok (.iload_n 1, 1) := by decide +kernel
theorem dX11_gap_5 : decode cX11_gap 5 = .ok (.invokevirtual 254, 3) := by decide +kernel
theorem dX11_gap_8 : decode cX11_gap 8 = .ok (.ireturn, 1) := by decide +kernel
theorem dX11_span_0 : decode cX11_span 0 = .ok (.aload_n 0, 1) := by decide +kernel
theorem dX11_span_1 : decode cX11_span 1 = .ok (.getfield 54, 3) := by decide +kernel
theorem dX11_span_4 : decode cX11_span 4 = .ok (.iload_n 1, 1) := by decide +kernel
theorem dX11_span_5 : decode cX11_span 5 = .ok (.invokevirtual 257, 3) := by decide +kernel
theorem dX11_span_8 : decode cX11_span 8 = .ok (.ireturn, 1) := by decide +kernel
theorem dX11_take_0 : decode cX11_take 0 = .ok (.iload_n 1, 1) := by decide +kernel
theorem dX11_take_1 : decode cX11_take 1 = .ok (.iconst 0, 1) := by decide +kernel
theorem dX11_take_10 : decode cX11_take 10 = .ok (.iload_n 2, 1) := by decide +kernel
theorem dX11_take_11 : decode cX11_take 11 = .ok (.iconst 0, 1) := by decide +kernel
theorem dX11_take_12 : decode cX11_take 12 = .ok (.bipush 60, 2) := by decide +kernel
theorem dX11_take_14 : decode cX11_take 14 = .ok (.invokestatic 113, 3) := by decide +kernel
theorem dX11_take_17 : decode cX11_take 17 = .ok (.ifCond .ne 5, 3) := by decide +kernel
theorem dX11_take_2 : decode cX11_take 2 = .ok (.ldc 204, 2) := by decide +kernel
theorem dX11_take_20 : decode cX11_take 20 = .ok (.iconst 0, 1) := by decide +kernel
theorem dX11_take_21 : decode cX11_take 21 = .ok (.ireturn, 1) := by decide +kernel
theorem dX11_take_22 : decode cX11_take 22 = .ok (.aload_n 0, 1) := by decide +kernel
theorem dX11_take_23 : decode cX11_take 23 = .ok (.getfield 54, 3) := by decide +kernel
theorem dX11_take_26 : decode cX11_take 26 = .ok (.iconst 0, 1) := by decide +kernel
theorem dX11_take_27 : decode cX11_take 27 = .ok (.putfield 152, 3) := by decide +kernel
theorem dX11_take_30 : decode cX11_take 30 = .ok (.iconst 0, 1) := by decide +kernel
theorem dX11_take_31 : decode cX11_take 31 = .ok (.istore_n 3, 1) := by decide +kernel
theorem dX11_take_32 : decode cX11_take 32 = .ok (.iload_n 3, 1) := by decide +kernel
theorem dX11_take_33 : decode cX11_take 33 = .ok (.iload_n 2, 1) := by decide +kernel
theorem dX11_take_34 : decode cX11_take 34 = .ok (.if_icmp .ge 28, 3) := by decide +kernel
theorem dX11_take_37 : decode cX11_take 37 = .ok (.aload_n 0, 1) := by decide +kernel
theorem dX11_take_38 : decode cX11_take 38 = .ok (.getfield 54, 3) := by decide +kernel
theorem dX11_take_4 : decode cX11_take 4 = .ok (.invokestatic 113, 3) := by decide +kernel
theorem dX11_take_41 : decode cX11_take 41 = .ok (.aload_n 0, 1) := by decide +kernel
theorem dX11_take_42 : decode cX11_take 42 = .ok (.getfield 26, 3) := by decide +kernel
theorem dX11_take_45 : decode cX11_take 45 = .ok (.iload_n 1, 1) := by decide +kernel
theorem dX11_take_46 : decode cX11_take 46 = .ok (.iload_n 3, 1) := by decide +kernel
theorem dX11_take_47 : decode cX11_take 47 = .ok (.iadd, 1) := by decide +kernel
theorem dX11_take_48 : decode cX11_take 48 = .ok (.i2l, 1) := by decide +kernel
theorem dX11_take_49 : decode cX11_take 49 = .ok (.invokevirtual 174, 3) := by decide +kernel
theorem dX11_take_52 : decode cX11_take 52 = .ok (.invokevirtual 253, 3) := by decide +kernel
theorem dX11_take_55 : decode cX11_take 55 = .ok (.pop, 1) := by decide +kernel
theorem dX11_take_56 : decode cX11_take 56 = .ok (.iinc 3 1, 3) := by decide +kernel
theorem dX11_take_59 : decode cX11_take 59 = .ok (.goto (-27), 3) := by decide +kernel
theorem dX11_take_62 : decode cX11_take 62 = .ok (.iconst 1, 1) := by decide +kernel
theorem dX11_take_63 : decode cX11_take 63 = .ok (.ireturn, 1) := by decide +kernel
theorem dX11_take_7 : decode cX11_take 7 = .ok (.ifCond .eq 13, 3) := by decide +kernel
theorem dX11_tape_0 : decode cX11_tape 0 = .ok (.iload_n 1, 1) := by decide +kernel
theorem dX11_tape_1 : decode cX11_tape 1 = .ok (.iconst (-1), 1) := by decide +kernel
theorem dX11_tape_12 : decode cX11_tape 12 = .ok (.aload_n 0, 1) := by decide +kernel
theorem dX11_tape_13 : decode cX11_tape 13 = .ok (.getfield 54, 3) := by decide +kernel
theorem dX11_tape_16 : decode cX11_tape 16 = .ok (.iload_n 1, 1) := by decide +kernel
theorem dX11_tape_17 : decode cX11_tape 17 = .ok (.invokevirtual 253, 3) := by decide +kernel
theorem dX11_tape_2 : decode cX11_tape 2 = .ok (.if_icmp .eq 10, 3) := by decide +kernel
theorem dX11_tape_20 : decode cX11_tape 20 = .ok (.goto 4, 3) := by decide +kernel
theorem dX11_tape_23 : decode cX11_tape 23 = .ok (.iconst (-1), 1) := by decide +kernel
theorem dX11_tape_24 : decode cX11_tape 24 = .ok (.ireturn, 1) := by decide +kernel
theorem dX11_tape_5 : decode cX11_tape 5 = .ok (.iload_n 1, 1) := by decide +kernel
theorem dX11_tape_6 : decode cX11_tape 6 = .ok (.invokestatic 190, 3) := by decide +kernel
theorem dX11_tape_9 : decode cX11_tape 9 = .ok (.ifCond .eq 14, 3) := by decide +kernel
theorem dX11_wipe_0 : decode cX11_wipe 0 = .ok (.aload_n 0, 1) := by decide +kernel
theorem dX11_wipe_1 : decode cX11_wipe 1 = .ok (.getfield 54, 3) := by decide +kernel
theorem dX11_wipe_12 : decode cX11_wipe 12 = .ok (.iconst 0, 1) := by decide +kernel
theorem dX11_wipe_13 : decode cX11_wipe 13 = .ok (.putfield 152, 3) := by decide +kernel
theorem dX11_wipe_16 : decode cX11_wipe 16 = .ok (.iload_n 1, 1) := by decide +kernel
theorem dX11_wipe_17 : decode cX11_wipe 17 = .ok (.ireturn, 1) := by decide +kernel
theorem dX11_wipe_4 : decode cX11_wipe 4 = .ok (.getfield 152, 3) := by decide +kernel
theorem dX11_wipe_7 : decode cX11_wipe 7 = .ok (.istore_n 1, 1) := by decide +kernel
theorem dX11_wipe_8 : decode cX11_wipe 8 = .ok (.aload_n 0, 1) := by decide +kernel
theorem dX11_wipe_9 : decode cX11_wipe 9 = .ok (.getfield 54, 3) := by decide +kernel
theorem dX3_add_0 : decode cX3_add 0 = .ok (.aload_n 0, 1) := by decide +kernel
theorem dX3_add_1 : decode cX3_add 1 = .ok (.getfield 15, 3) := by decide +kernel
theorem dX3_add_10 : decode cX3_add 10 = .ok (.ireturn, 1) := by decide +kernel
theorem dX3_add_11 : decode cX3_add 11 = .ok (.aload_n 0, 1) := by decide +kernel
theorem dX3_add_12 : decode cX3_add 12 = .ok (.getfield 9, 3) := by decide +kernel
theorem dX3_add_15 : decode cX3_add 15 = .ok (.aload_n 0, 1) := by decide +kernel
theorem dX3_add_16 : decode cX3_add 16 = .ok (.getfield 15, 3) := by decide +kernel
theorem dX3_add_19 : decode cX3_add 19 = .ok (.iload_n 1, 1) := by decide +kernel
theorem dX3_add_20 : decode cX3_add 20 = .ok (.iastore, 1) := by decide +kernel
theorem dX3_add_21 : decode cX3_add 21 = .ok (.aload_n 0, 1) := by decide +kernel
theorem dX3_add_22 : decode cX3_add 22 = .ok (.dup, 1) := by decide +kernel
theorem dX3_add_23 : decode cX3_add 23 = .ok (.getfield 15, 3) := by decide +kernel
theorem dX3_add_26 : decode cX3_add 26 = .ok (.iconst 1, 1) := by decide +kernel
theorem dX3_add_27 : decode cX3_add 27 = .ok (.iadd, 1) := by decide +kernel
theorem dX3_add_28 : decode cX3_add 28 = .ok (.putfield 15, 3) := by decide +kernel
theorem dX3_add_31 : decode cX3_add 31 = .ok (.aload_n 0, 1) := by decide +kernel
theorem dX3_add_32 : decode cX3_add 32 = .ok (.getfield 15, 3) := by decide +kernel
theorem dX3_add_35 : decode cX3_add 35 = .ok (.ireturn, 1) := by decide +kernel
theorem dX3_add_4 : decode cX3_add 4 = .ok (.bipush 60, 2) := by decide +kernel
theorem dX3_add_6 : decode cX3_add 6 = .ok (.if_icmp .lt 5, 3) := by decide +kernel
theorem dX3_add_9 : decode cX3_add 9 = .ok (.iconst (-1), 1) := by decide +kernel
theorem dX3_makeGap_0 : decode cX3_makeGap 0 = .ok (.iload_n 1, 1) := by decide +kernel
theorem dX3_makeGap_1 : decode cX3_makeGap 1 = .ok (.ifCond .lt 11, 3) := by decide +kernel
theorem dX3_makeGap_12 : decode cX3_makeGap 12 = .ok (.iconst 0, 1) := by decide +kernel
theorem dX3_makeGap_13 : decode cX3_makeGap 13 = .ok (.ireturn, 1) := by decide +kernel
theorem dX3_makeGap_14 : decode cX3_makeGap 14 = .ok (.aload_n 0, 1) := by decide +kernel
theorem dX3_makeGap_15 : decode cX3_makeGap 15 = .ok (.getfield 9, 3) := by decide +kernel
theorem dX3_makeGap_18 : decode cX3_makeGap 18 = .ok (.iload_n 1, 1) := by decide +kernel
theorem dX3_makeGap_19 : decode cX3_makeGap 19 = .ok (.iconst (-1), 1) := by decide +kernel
theorem dX3_makeGap_20 : decode cX3_makeGap 20 = .ok (.iastore, 1) := by decide +kernel
theorem dX3_makeGap_21 : decode cX3_makeGap 21 = .ok (.iconst 1, 1) := by decide +kernel
theorem dX3_makeGap_22 : decode cX3_makeGap 22 = .ok (.ireturn, 1) := by decide +kernel
theorem dX3_makeGap_4 : decode cX3_makeGap 4 = .ok (.iload_n 1, 1) := by decide +kernel
theorem dX3_makeGap_5 : decode cX3_makeGap 5 = .ok (.aload_n 0, 1) := by decide +kernel
theorem dX3_makeGap_6 : decode cX3_makeGap 6 = .ok (.getfield 15, 3) := by decide +kernel
theorem dX3_makeGap_9 : decode cX3_makeGap 9 = .ok (.if_icmp .lt 5, 3) := by decide +kernel
theorem dX3_makeGreatest_0 : decode cX3_makeGreatest 0 = .ok (.aload_n 1, 1) := by decide +kernel
theorem dX3_makeGreatest_1 : decode cX3_makeGreatest 1 = .ok (.sipush 1022, 3) := by decide +kernel
theorem dX3_makeGreatest_10 : decode cX3_makeGreatest 10 = .ok (.aload_n 0, 1) := by decide +kernel
theorem dX3_makeGreatest_11 : decode cX3_makeGreatest 11 = .ok (.getfield 15, 3) := by decide +kernel
theorem dX3_makeGreatest_14 : decode cX3_makeGreatest 14 = .ok (.if_icmp .ge 36, 3) := by decide +kernel
theorem dX3_makeGreatest_17 : decode cX3_makeGreatest 17 = .ok (.aload_n 0, 1) := by decide +kernel
theorem dX3_makeGreatest_18 : decode cX3_makeGreatest 18 = .ok (.getfield 9, 3) := by decide +kernel
theorem dX3_makeGreatest_21 : decode cX3_makeGreatest 21 = .ok (.iload_n 3, 1) := by decide +kernel
theorem dX3_makeGreatest_22 : decode cX3_makeGreatest 22 = .ok (.iaload, 1) := by decide +kernel
theorem dX3_makeGreatest_23 : decode cX3_makeGreatest 23 = .ok (.iconst (-1), 1) := by decide +kernel
theorem dX3_makeGreatest_24 : decode cX3_makeGreatest 24 = .ok (.if_icmp .eq 20, 3) := by decide +kernel
theorem dX3_makeGreatest_27 : decode cX3_makeGreatest 27 = .ok (.aload_n 1, 1) := by decide +kernel
theorem dX3_makeGreatest_28 : decode cX3_makeGreatest 28 = .ok (.iload_n 3, 1) := by decide +kernel
theorem dX3_makeGreatest_29 : decode cX3_makeGreatest 29 = .ok (.i2l, 1) := by decide +kernel
theorem dX3_makeGreatest_30 : decode cX3_makeGreatest 30 = .ok (.iload_n 2, 1) := by decide +kernel
theorem dX3_makeGreatest_31 : decode cX3_makeGreatest 31 = .ok (.invokestatic 35, 3) := by decide +kernel
theorem dX3_makeGreatest_34 : decode cX3_makeGreatest 34 = .ok (.dup2, 1) := by decide +kernel
theorem dX3_makeGreatest_35 : decode cX3_makeGreatest 35 = .ok (.iaload, 1) := by decide +kernel
theorem dX3_makeGreatest_36 : decode cX3_makeGreatest 36 = .ok (.aload_n 0, 1) := by decide +kernel
theorem dX3_makeGreatest_37 : decode cX3_makeGreatest 37 = .ok (.getfield 9, 3) := by decide +kernel
theorem dX3_makeGreatest_4 : decode cX3_makeGreatest 4 = .ok (.invokestatic 29, 3) := by decide +kernel
theorem dX3_makeGreatest_40 : decode cX3_makeGreatest 40 = .ok (.iload_n 3, 1) := by decide +kernel
theorem dX3_makeGreatest_41 : decode cX3_makeGreatest 41 = .ok (.iaload, 1) := by decide +kernel
theorem dX3_makeGreatest_42 : decode cX3_makeGreatest 42 = .ok (.iand, 1) := by decide +kernel
theorem dX3_makeGreatest_43 : decode cX3_makeGreatest 43 = .ok (.iastore, 1) := by decide +kernel
theorem dX3_makeGreatest_44 : decode cX3_makeGreatest 44 = .ok (.iinc 3 1, 3) := by decide +kernel
theorem dX3_makeGreatest_47 : decode cX3_makeGreatest 47 = .ok (.goto (-38), 3) := by decide +kernel
theorem dX3_makeGreatest_50 : decode cX3_makeGreatest 50 = .ok (.return_, 1) := by decide +kernel
theorem dX3_makeGreatest_7 : decode cX3_makeGreatest 7 = .ok (.iconst 0, 1) := by decide +kernel
theorem dX3_makeGreatest_8 : decode cX3_makeGreatest 8 = .ok (.istore_n 3, 1) := by decide +kernel
theorem dX3_makeGreatest_9 : decode cX3_makeGreatest 9 = .ok (.iload_n 3, 1) := by decide +kernel
theorem dX3_spanFits_0 : decode cX3_spanFits 0 = .ok (.aload_n 0, 1) := by decide +kernel
theorem dX3_spanFits_1 : decode cX3_spanFits 1 = .ok (.getfield 19, 3) := by decide +kernel
theorem dX3_spanFits_10 : decode cX3_spanFits 10 = .ok (.iload_n 2, 1) := by decide +kernel
theorem dX3_spanFits_11 : decode cX3_spanFits 11 = .ok (.aload_n 0, 1) := by decide +kernel
theorem dX3_spanFits_12 : decode cX3_spanFits 12 = .ok (.getfield 15, 3) := by decide +kernel
theorem dX3_spanFits_15 : decode cX3_spanFits 15 = .ok (.if_icmp .ge 68, 3) := by decide +kernel
theorem dX3_spanFits_18 : decode cX3_spanFits 18 = .ok (.iload_n 2, 1) := by decide +kernel
theorem dX3_spanFits_19 : decode cX3_spanFits 19 = .ok (.i2l, 1) := by decide +kernel
theorem dX3_spanFits_20 : decode cX3_spanFits 20 = .ok (.iload_n 1, 1) := by decide +kernel
theorem dX3_spanFits_21 : decode cX3_spanFits 21 = .ok (.invokestatic 35, 3) := by decide +kernel
theorem dX3_spanFits_24 : decode cX3_spanFits 24 = .ok (.istore_n 3, 1) := by decide +kernel
theorem dX3_spanFits_25 : decode cX3_spanFits 25 = .ok (.aload_n 0, 1) := by decide +kernel
theorem dX3_spanFits_26 : decode cX3_spanFits 26 = .ok (.getfield 19, 3) := by decide +kernel
theorem dX3_spanFits_29 : decode cX3_spanFits 29 = .ok (.iload_n 3, 1) := by decide +kernel
theorem dX3_spanFits_30 : decode cX3_spanFits 30 = .ok (.iaload, 1) := by decide +kernel
theorem dX3_spanFits_31 : decode cX3_spanFits 31 = .ok (.iconst (-1), 1) := by decide +kernel
theorem dX3_spanFits_32 : decode cX3_spanFits 32 = .ok (.if_icmp .ne 18, 3) := by decide +kernel
theorem dX3_spanFits_35 : decode cX3_spanFits 35 = .ok (.aload_n 0, 1) := by decide +kernel
theorem dX3_spanFits_36 : decode cX3_spanFits 36 = .ok (.getfield 19, 3) := by decide +kernel
theorem dX3_spanFits_39 : decode cX3_spanFits 39 = .ok (.iload_n 3, 1) := by decide +kernel
theorem dX3_spanFits_4 : decode cX3_spanFits 4 = .ok (.iconst (-1), 1) := by decide +kernel
theorem dX3_spanFits_40 : decode cX3_spanFits 40 = .ok (.aload_n 0, 1) := by decide +kernel
theorem dX3_spanFits_41 : decode cX3_spanFits 41 = .ok (.getfield 9, 3) := by decide +kernel
theorem dX3_spanFits_44 : decode cX3_spanFits 44 = .ok (.iload_n 2, 1) := by decide +kernel
theorem dX3_spanFits_45 : decode cX3_spanFits 45 = .ok (.iaload, 1) := by decide +kernel
theorem dX3_spanFits_46 : decode cX3_spanFits 46 = .ok (.iastore, 1) := by decide +kernel
theorem dX3_spanFits_47 : decode cX3_spanFits 47 = .ok (.goto 30, 3) := by decide +kernel
theorem dX3_spanFits_5 : decode cX3_spanFits 5 = .ok (.invokestatic 29, 3) := by decide +kernel
theorem dX3_spanFits_50 : decode cX3_spanFits 50 = .ok (.aload_n 0, 1) := by decide +kernel
theorem dX3_spanFits_51 : decode cX3_spanFits 51 = .ok (.getfield 9, 3) := by decide +kernel
theorem dX3_spanFits_54 : decode cX3_spanFits 54 = .ok (.iload_n 2, 1) := by decide +kernel
theorem dX3_spanFits_55 : decode cX3_spanFits 55 = .ok (.iaload, 1) := by decide +kernel
theorem dX3_spanFits_56 : decode cX3_spanFits 56 = .ok (.iconst (-1), 1) := by decide +kernel
theorem dX3_spanFits_57 : decode cX3_spanFits 57 = .ok (.if_icmp .eq 20, 3) := by decide +kernel
theorem dX3_spanFits_60 : decode cX3_spanFits 60 = .ok (.aload_n 0, 1) := by decide +kernel
theorem dX3_spanFits_61 : decode cX3_spanFits 61 = .ok (.getfield 9, 3) := by decide +kernel
theorem dX3_spanFits_64 : decode cX3_spanFits 64 = .ok (.iload_n 2, 1) := by decide +kernel
theorem dX3_spanFits_65 : decode cX3_spanFits 65 = .ok (.iaload, 1) := by decide +kernel
theorem dX3_spanFits_66 : decode cX3_spanFits 66 = .ok (.aload_n 0, 1) := by decide +kernel
theorem dX3_spanFits_67 : decode cX3_spanFits 67 = .ok (.getfield 19, 3) := by decide +kernel
theorem dX3_spanFits_70 : decode cX3_spanFits 70 = .ok (.iload_n 3, 1) := by decide +kernel
theorem dX3_spanFits_71 : decode cX3_spanFits 71 = .ok (.iaload, 1) := by decide +kernel
theorem dX3_spanFits_72 : decode cX3_spanFits 72 = .ok (.if_icmp .eq 5, 3) := by decide +kernel
theorem dX3_spanFits_75 : decode cX3_spanFits 75 = .ok (.iconst 0, 1) := by decide +kernel
theorem dX3_spanFits_76 : decode cX3_spanFits 76 = .ok (.ireturn, 1) := by decide +kernel
theorem dX3_spanFits_77 : decode cX3_spanFits 77 = .ok (.iinc 2 1, 3) := by decide +kernel
theorem dX3_spanFits_8 : decode cX3_spanFits 8 = .ok (.iconst 0, 1) := by decide +kernel
theorem dX3_spanFits_80 : decode cX3_spanFits 80 = .ok (.goto (-70), 3) := by decide +kernel
theorem dX3_spanFits_83 : decode cX3_spanFits 83 = .ok (.iconst 1, 1) := by decide +kernel
theorem dX3_spanFits_84 : decode cX3_spanFits 84 = .ok (.ireturn, 1) := by decide +kernel
theorem dX3_spanFits_9 : decode cX3_spanFits 9 = .ok (.istore_n 2, 1) := by decide +kernel
theorem dX3_spanNumber_0 : decode cX3_spanNumber 0 = .ok (.iconst 0, 1) := by decide +kernel
theorem dX3_spanNumber_1 : decode cX3_spanNumber 1 = .ok (.istore_n 2, 1) := by decide +kernel
theorem dX3_spanNumber_10 : decode cX3_spanNumber 10 = .ok (.aload_n 0, 1) := by decide +kernel
theorem dX3_spanNumber_11 : decode cX3_spanNumber 11 = .ok (.iload_n 3, 1) := by decide +kernel
theorem dX3_spanNumber_12 : decode cX3_spanNumber 12 = .ok (.invokevirtual 25, 3) := by decide +kernel
theorem dX3_spanNumber_15 : decode cX3_spanNumber 15 = .ok (.ifCond .eq 13, 3) := by decide +kernel
theorem dX3_spanNumber_18 : decode cX3_spanNumber 18 = .ok (.iload_n 2, 1) := by decide +kernel
theorem dX3_spanNumber_19 : decode cX3_spanNumber 19 = .ok (.iload_n 1, 1) := by decide +kernel
theorem dX3_spanNumber_2 : decode cX3_spanNumber 2 = .ok (.iconst 1, 1) := by decide +kernel
theorem dX3_spanNumber_20 : decode cX3_spanNumber 20 = .ok (.if_icmp .ne 5, 3) := by decide +kernel
theorem dX3_spanNumber_23 : decode cX3_spanNumber 23 = .ok (.iload_n 3, 1) := by decide +kernel
theorem dX3_spanNumber_24 : decode cX3_spanNumber 24 = .ok (.ireturn, 1) := by decide +kernel
theorem dX3_spanNumber_25 : decode cX3_spanNumber 25 = .ok (.iinc 2 1, 3) := by decide +kernel
theorem dX3_spanNumber_28 : decode cX3_spanNumber 28 = .ok (.iinc 3 1, 3) := by decide +kernel
theorem dX3_spanNumber_3 : decode cX3_spanNumber 3 = .ok (.istore_n 3, 1) := by decide +kernel
theorem dX3_spanNumber_31 : decode cX3_spanNumber 31 = .ok (.goto (-27), 3) := by decide +kernel
theorem dX3_spanNumber_34 : decode cX3_spanNumber 34 = .ok (.iconst (-1), 1) := by decide +kernel
theorem dX3_spanNumber_35 : decode cX3_spanNumber 35 = .ok (.ireturn, 1) := by decide +kernel
theorem dX3_spanNumber_4 : decode cX3_spanNumber 4 = .ok (.iload_n 3, 1) := by decide +kernel
theorem dX3_spanNumber_5 : decode cX3_spanNumber 5 = .ok (.bipush 24, 2) := by decide +kernel
theorem dX3_spanNumber_7 : decode cX3_spanNumber 7 = .ok (.if_icmp .gt 27, 3) := by decide +kernel
theorem dm_X0_alike : yX0_alike.cls = RX0 ∧ yX0_alike.cls ≠ "java/lang/invoke/MethodHandle" ∧ yX0_alike.cls ≠ "java/lang/invoke/VarHandle" ∧ (parseMethodDescriptor yX0_alike.desc).map (fun d => d.parameters.length) = some 2 := by decide +kernel
theorem dm_X0_firstSilence : yX0_firstSilence.cls = RX0 ∧ yX0_firstSilence.cls ≠ "java/lang/invoke/MethodHandle" ∧ yX0_firstSilence.cls ≠ "java/lang/invoke/VarHandle" ∧ (parseMethodDescriptor yX0_firstSilence.desc).map (fun d => d.parameters.length) = some 0 := by decide +kernel
theorem dm_X0_comesBackIn : yX0_comesBackIn.cls = RX0 ∧ yX0_comesBackIn.cls ≠ "java/lang/invoke/MethodHandle" ∧ yX0_comesBackIn.cls ≠ "java/lang/invoke/VarHandle" ∧ (parseMethodDescriptor yX0_comesBackIn.desc).map (fun d => d.parameters.length) = some 0 := by decide +kernel
theorem dm_X0_fate : yX0_fate.cls = RX0 ∧ yX0_fate.cls ≠ "java/lang/invoke/MethodHandle" ∧ yX0_fate.cls ≠ "java/lang/invoke/VarHandle" ∧ (parseMethodDescriptor yX0_fate.desc).map (fun d => d.parameters.length) = some 1 := by decide +kernel
theorem dm_X3_add : yX3_add.cls = RX3 ∧ yX3_add.cls ≠ "java/lang/invoke/MethodHandle" ∧ yX3_add.cls ≠ "java/lang/invoke/VarHandle" ∧ (parseMethodDescriptor yX3_add.desc).map (fun d => d.parameters.length) = some 1 := by decide +kernel
theorem dm_X3_makeGap : yX3_makeGap.cls = RX3 ∧ yX3_makeGap.cls ≠ "java/lang/invoke/MethodHandle" ∧ yX3_makeGap.cls ≠ "java/lang/invoke/VarHandle" ∧ (parseMethodDescriptor yX3_makeGap.desc).map (fun d => d.parameters.length) = some 1 := by decide +kernel
theorem dm_X3_spanFits : yX3_spanFits.cls = RX3 ∧ yX3_spanFits.cls ≠ "java/lang/invoke/MethodHandle" ∧ yX3_spanFits.cls ≠ "java/lang/invoke/VarHandle" ∧ (parseMethodDescriptor yX3_spanFits.desc).map (fun d => d.parameters.length) = some 1 := by decide +kernel
theorem dm_X3_spanNumber : yX3_spanNumber.cls = RX3 ∧ yX3_spanNumber.cls ≠ "java/lang/invoke/MethodHandle" ∧ yX3_spanNumber.cls ≠ "java/lang/invoke/VarHandle" ∧ (parseMethodDescriptor yX3_spanNumber.desc).map (fun d => d.parameters.length) = some 1 := by decide +kernel
set_option maxRecDepth 100000 in
def wC_Echo_comesBackIn  (M : zM) (Q : Int → Prop) : Prop := pL1 (fun K6 x1 => ((sI (3981 - x1)) < (sI (M 78 0)) → Q (-1)) ∧ ((sI (M 78 0)) ≤ (sI (3981 - x1)) → wC_Echo_alike 3981 (3981 - x1) M (fun z11 => (z11 = 0 → K6 (x1 + 1)) ∧ (z11 ≠ 0 → Q (sI x1))))) 1
set_option maxHeartbeats 4000000 in
set_option maxRecDepth 100000 in
theorem cC_Echo_comesBackIn (l : Launch) (D : va_G) (dA : Nat → ClassId) (b : Nat) (M : zM)   (Q : Int → Prop) (h : wC_Echo_comesBackIn  M Q) : Met l yX0_comesBackIn (.code yX0_comesBackIn cX0_comesBackIn 3 (some .int) :: zt) (z_rm 2) (va_Pc [.ref (b + 78)] (wPre D dA vwCl (z_tys dA) wC nC b M)) (va_Qi (wQi (fun z9 u9 => u9 = M ∧ Q z9)) (zB D dA vwCl wC nC b) (zA nC b)) 0 0 (zA nC b) := by
  unfold wC_Echo_comesBackIn at h
  refine Met.ofW (cc := cX0_comesBackIn) (maxL := 3) (ret := (some .int)) (by decide) rfl ?_
  intro p e s m args below meth c s₁ B hml hv
  obtain ⟨hargs, hS, hK⟩ := hv
  have hx := B.exec
  have hb := B.bytes
  have hr := B.returns
  have hts := atoms_spec (ws := .code yX0_comesBackIn cX0_comesBackIn 3 (some .int) :: zt) B.pre
  have hown : s.vm.findClass RX0 = some m.cls := findClass_of_methodNamed B.named
  have hlocks := B.notSynchronized
  have hS0 : va_S (zA nC b) s.heap s.heap [] := va_S.rf
  have hl := lv_entry ([.ref (b + 78)]) (n := 3) (Nat.le_of_ble_eq_true rfl)
  have hent : entryFrame m args 3 = F0 m 0 ((lg_sl ([.ref (b + 78)]) ++ List.replicate (3 - (lg_sl ([.ref (b + 78)])).length) Slot.unset).toArray) [] := by rw [hargs]; exact lg_entry_eq m ([.ref (b + 78)]) 3
  rw [hent]
  generalize (lg_sl ([.ref (b + 78)]) ++ List.replicate (3 - (lg_sl ([.ref (b + 78)])).length) Slot.unset).toArray = ls at hl ⊢
  have hl : lv_has ls 3 [(0, .ref (b + 78))] := hl
  refine z_sipush hx hb (by decide) dX0_comesBackIn_0 ?_
  refine lv_istore_n (lv' := [(1, .int (iI 3981)), (0, .ref (b + 78))]) hx hb dX0_comesBackIn_3 rfl hl (by decide) rfl (fun ls hl => ?_)
  refine z_iconst hx hb dX0_comesBackIn_4 ?_
  refine lv_istore_n (lv' := [(2, .int (iI 1)), (1, .int (iI 3981)), (0, .ref (b + 78))]) hx hb dX0_comesBackIn_5 rfl hl (by decide) rfl (fun ls hl => ?_)
  obtain ⟨I2, ⟨n3, h4⟩, h5⟩ := h
  have L6 : ∀ (n7 : Nat) (x1 : Int) (H : Heap) (locs : List Loc) (ls : Array Slot), I2 n7 x1 → zR D dA vwCl wC nC b M H → va_S (zA nC b) s.heap H locs → lv_has ls 3 [(0, .ref (b + 78)), (1, .int (iI 3981)), (2, .int (iI x1))] → W p l e (headSpec (.code yX0_comesBackIn cX0_comesBackIn 3 (some .int) :: zt) (z_rm 2)).room s m args below meth c H locs 0 0 (MQ below (va_Qi (wQi (fun z9 u9 => u9 = M ∧ Q z9)) (zB D dA vwCl wC nC b) (zA nC b)) args s 0 0 (zA nC b)) (F0 m 6 ls []) := by
    intro n7
    induction n7 using Nat.strongRecOn with
    | ind n7 i8 =>
      intro x1 H locs ls h hS hS0 hl
      have h := h5 n7 x1 h
      refine lv_iload_n hx hb dX0_comesBackIn_6 rfl (lv_at hl 1 rfl) ?_
      refine lv_iload_n hx hb dX0_comesBackIn_7 rfl (lv_at hl 2 rfl) ?_
      refine z_isub hx hb dX0_comesBackIn_8 ?_
      refine lv_aload_n hx hb dX0_comesBackIn_9 rfl (lv_at hl 0 rfl) ?_
      refine w_geti hx hb hts (z_memU u0) hown hK.1 hS f0_0 (by decide) (zkd_of (rfl : zcd wC 78 = 30) rfl) (Or.inl (hts _ (z_mem k172))) dX0_comesBackIn_10 ?_
      refine w_icmp_lt (tgt := 35) hx hb rfl rfl dX0_comesBackIn_13 (by decide) (fun c9 => ?_) (fun c9 => ?_)
      · skip
        have h := h.1 c9
        refine z_iconst hx hb dX0_comesBackIn_35 ?_
        exact w_iret hx hb hr hlocks hS hS0 (sI_of (by decide)) ⟨rfl, h⟩ dX0_comesBackIn_36
      · skip
        have h := h.2 c9
        refine lv_aload_n hx hb dX0_comesBackIn_16 rfl (lv_at hl 0 rfl) ?_
        refine lv_iload_n hx hb dX0_comesBackIn_17 rfl (lv_at hl 1 rfl) ?_
        refine lv_iload_n hx hb dX0_comesBackIn_18 rfl (lv_at hl 1 rfl) ?_
        refine lv_iload_n hx hb dX0_comesBackIn_19 rfl (lv_at hl 2 rfl) ?_
        refine z_isub hx hb dX0_comesBackIn_20 ?_
        refine w_callz (va_runV (As := [.int (iI 3981), .int (iI (3981 - x1))]) (rest := []) ⟨hx, hb, hml, hown, hts⟩ (cC_Echo_alike l D dA b M 3981 (3981 - x1) _ h) (cwV 2 hts (z_gV k731 k732 k1380 k9 k733) rfl rfl rfl dm_X0_alike ⟨Nat.le_of_ble_eq_true rfl, Nat.le_of_ble_eq_true rfl⟩) ⟨wPre_blind, (w_recv hS hK.1 (by decide) (zkd_of (rfl : zcd wC 78 = 30) rfl) (by decide) (rfl : vwCl[0]? = some (RX0, TX0, 8))), w_pre hS hK⟩ rfl rfl hl.1 rfl (lv_room (Nat.le_of_ble_eq_true rfl)) dX0_comesBackIn_21 ⟨Nat.le_refl _, Nat.le_refl _⟩) hS0 (fun z11 M10 H locs r12 h hS hS0 => ?_)
        obtain ⟨e13, h⟩ := h
        rw [e13] at hS
        refine w_if_eq (tgt := 29) hx hb (sI_01 r12) dX0_comesBackIn_24 (by decide) (fun c14 => ?_) (fun c14 => ?_)
        · skip
          have h := h.1 c14
          refine z_iinc (lv' := [(2, .int (iI (x1 + 1))), (0, .ref (b + 78)), (1, .int (iI 3981))]) hx hb dX0_comesBackIn_29 hl (k := 2) rfl (by decide) rfl (fun ls hl => ?_)
          refine lv_goto (tgt := 6) hx hb dX0_comesBackIn_32 (by decide) ?_
          obtain ⟨n15, h16, h⟩ := h
          exact i8 n15 h16 (x1 + 1) _ _ _ h hS hS0 (lv_sub hl [1, 2, 0] rfl)
        · skip
          have h := h.2 c14
          refine lv_iload_n hx hb dX0_comesBackIn_27 rfl (lv_at hl 2 rfl) ?_
          exact w_iret hx hb hr hlocks hS hS0 rfl ⟨rfl, h⟩ dX0_comesBackIn_28
  exact L6 n3 1 _ _ _ h4 hS hS0 (lv_sub hl [2, 1, 0] rfl)

set_option maxRecDepth 100000 in
def wC_Echo_fate  (M : zM) (Q : Int → zM → Prop) : Prop := wC_Echo_run 4000 M (fun M1 => wC_Echo_firstSilence  M1 (fun z3 => (z3 = (-1) → wC_Echo_comesBackIn  M1 (fun z8 => (z8 ≠ (-1) → pL1 (fun K40 x12 => pJ0 (fun J76 => ((sI x12) ≤ (sI (M1 78 0)) → J76) ∧ ((sI (M1 78 0)) < (sI x12) → wC_Echo_outAt (x12 - 1) M1 (fun z40 => wC_Echo_outAt ((x12 - 1) + z8) M1 (fun z44 => (z40 ≠ z44 → J76) ∧ (z40 = z44 → K40 (x12 + (-1))))))) ((∀ M34 : zM, M34 = zup M1 79 0 x12 → (∀ M36 : zM, M36 = zup M34 79 1 z8 → Q (-2) M36)))) (4000 - z8)) ∧ (z8 = (-1) → Q (-3) M1))) ∧ (z3 ≠ (-1) → Q z3 M1)))
set_option maxHeartbeats 4000000 in
set_option maxRecDepth 100000 in
theorem cC_Echo_fate (l : Launch) (D : va_G) (dA : Nat → ClassId) (b : Nat) (M : zM)   (Q : Int → zM → Prop) (h : wC_Echo_fate  M Q) : Met l yX0_fate (.code yX0_fate cX0_fate 5 (some .int) :: zt) (z_rm 5) (va_Pc [.ref (b + 78), .ref (b + 32)] (wPre D dA vwCl (z_tys dA) wC nC b M)) (va_Qi (wQi Q) (zB D dA vwCl wC nC b) (zA nC b)) 0 0 (zA nC b) := by
  unfold wC_Echo_fate at h
  refine Met.ofW (cc := cX0_fate) (maxL := 5) (ret := (some .int)) (by decide) rfl ?_
  intro p e s m args below meth c s₁ B hml hv
  obtain ⟨hargs, hS, hK⟩ := hv
  have hx := B.exec
  have hb := B.bytes
  have hr := B.returns
  have hts := atoms_spec (ws := .code yX0_fate cX0_fate 5 (some .int) :: zt) B.pre
  have hown : s.vm.findClass RX0 = some m.cls := findClass_of_methodNamed B.named
  have hlocks := B.notSynchronized
  have hS0 : va_S (zA nC b) s.heap s.heap [] := va_S.rf
  have hl := lv_entry ([.ref (b + 78), .ref (b + 32)]) (n := 5) (Nat.le_of_ble_eq_true rfl)
  have hent : entryFrame m args 5 = F0 m 0 ((lg_sl ([.ref (b + 78), .ref (b + 32)]) ++ List.replicate (5 - (lg_sl ([.ref (b + 78), .ref (b + 32)])).length) Slot.unset).toArray) [] := by rw [hargs]; exact lg_entry_eq m ([.ref (b + 78), .ref (b + 32)]) 5
  rw [hent]
  generalize (lg_sl ([.ref (b + 78), .ref (b + 32)]) ++ List.replicate (5 - (lg_sl ([.ref (b + 78), .ref (b + 32)])).length) Slot.unset).toArray = ls at hl ⊢
  have hl : lv_has ls 5 [(0, .ref (b + 78)), (1, .ref (b + 32))] := hl
  refine lv_aload_n hx hb dX0_fate_0 rfl (lv_at hl 0 rfl) ?_
  refine lv_aload_n hx hb dX0_fate_1 rfl (lv_at hl 1 rfl) ?_
  refine z_sipush hx hb (by decide) dX0_fate_2 ?_
  refine w_callv (va_runV (As := [.ref (b + 32), .int (iI 4000)]) (rest := []) ⟨hx, hb, hml, hown, hts⟩ (cC_Echo_run l D dA b M 4000 _ h) (cwV 2 hts (z_gV k724 k700 k701 k9 k702) rfl rfl rfl dm_X0_run ⟨Nat.le_of_ble_eq_true rfl, Nat.le_of_ble_eq_true rfl⟩) ⟨wPre_blind, (w_recv hS hK.1 (by decide) (zkd_of (rfl : zcd wC 78 = 30) rfl) (by decide) (rfl : vwCl[0]? = some (RX0, TX0, 8))), w_pre hS hK⟩ rfl rfl hl.1 rfl (lv_room (Nat.le_of_ble_eq_true rfl)) dX0_fate_5 ⟨Nat.le_refl _, Nat.le_refl _⟩) hS0 (fun M1 H locs h hS hS0 => ?_)
  refine lv_aload_n hx hb dX0_fate_8 rfl (lv_at hl 0 rfl) ?_
  refine w_calli (va_runV (As := []) (rest := []) ⟨hx, hb, hml, hown, hts⟩ (cC_Echo_firstSilence l D dA b M1  _ h) (cwV 0 hts (z_gV k725 k726 k1378 k9 k727) rfl rfl rfl dm_X0_firstSilence ⟨Nat.le_of_ble_eq_true rfl, Nat.le_of_ble_eq_true rfl⟩) ⟨wPre_blind, (w_recv hS hK.1 (by decide) (zkd_of (rfl : zcd wC 78 = 30) rfl) (by decide) (rfl : vwCl[0]? = some (RX0, TX0, 8))), w_pre hS hK⟩ rfl rfl hl.1 rfl (lv_room (Nat.le_of_ble_eq_true rfl)) dX0_fate_9 ⟨Nat.le_refl _, Nat.le_refl _⟩) hS0 (fun z3 M2 H locs r4 h hS hS0 => ?_)
  obtain ⟨e5, h⟩ := h
  rw [e5] at hS
  refine lv_istore_n (lv' := [(2, .int (iI z3)), (0, .ref (b + 78)), (1, .ref (b + 32))]) hx hb dX0_fate_12 rfl hl (by decide) rfl (fun ls hl => ?_)
  refine lv_iload_n hx hb dX0_fate_13 rfl (lv_at hl 0 rfl) ?_
  refine z_iconst hx hb dX0_fate_14 ?_
  refine w_icmp_eq (tgt := 20) hx hb (sI_of r4) (sI_of (by decide)) dX0_fate_15 (by decide) (fun c6 => ?_) (fun c6 => ?_)
  · skip
    have h := h.1 c6
    refine lv_aload_n hx hb dX0_fate_20 rfl (lv_at hl 1 rfl) ?_
    refine w_calli (va_runV (As := []) (rest := []) ⟨hx, hb, hml, hown, hts⟩ (cC_Echo_comesBackIn l D dA b M1  _ h) (cwV 0 hts (z_gV k728 k729 k1379 k9 k730) rfl rfl rfl dm_X0_comesBackIn ⟨Nat.le_of_ble_eq_true rfl, Nat.le_of_ble_eq_true rfl⟩) ⟨wPre_blind, (w_recv hS hK.1 (by decide) (zkd_of (rfl : zcd wC 78 = 30) rfl) (by decide) (rfl : vwCl[0]? = some (RX0, TX0, 8))), w_pre hS hK⟩ rfl rfl hl.1 rfl (lv_room (Nat.le_of_ble_eq_true rfl)) dX0_fate_21 ⟨Nat.le_refl _, Nat.le_refl _⟩) hS0 (fun z8 M7 H locs r9 h hS hS0 => ?_)
    obtain ⟨e10, h⟩ := h
    rw [e10] at hS
    refine lv_istore_n (lv' := [(3, .int (iI z8)), (2, .int (iI z3)), (0, .ref (b + 78)), (1, .ref (b + 32))]) hx hb dX0_fate_24 rfl hl (by decide) rfl (fun ls hl => ?_)
    refine lv_iload_n hx hb dX0_fate_25 rfl (lv_at hl 0 rfl) ?_
    refine z_iconst hx hb dX0_fate_26 ?_
    refine w_icmp_ne (tgt := 33) hx hb (sI_of r9) (sI_of (by decide)) dX0_fate_27 (by decide) (fun c11 => ?_) (fun c11 => ?_)
    · skip
      have h := h.1 c11
      refine z_sipush hx hb (by decide) dX0_fate_33 ?_
      refine lv_iload_n hx hb dX0_fate_36 rfl (lv_at hl 0 rfl) ?_
      refine z_isub hx hb dX0_fate_37 ?_
      refine lv_istore (lv' := [(4, .int (iI (4000 - z8))), (3, .int (iI z8)), (2, .int (iI z3)), (0, .ref (b + 78)), (1, .ref (b + 32))]) hx hb dX0_fate_38 hl (by decide) rfl (fun ls hl => ?_)
      obtain ⟨I13, ⟨n14, h15⟩, h16⟩ := h
      have L17 : ∀ (n18 : Nat) (x12 : Int) (H : Heap) (locs : List Loc) (ls : Array Slot), I13 n18 x12 → zR D dA vwCl wC nC b M1 H → va_S (zA nC b) s.heap H locs → lv_has ls 5 [(0, .ref (b + 78)), (3, .int (iI z8)), (4, .int (iI x12))] → W p l e (headSpec (.code yX0_fate cX0_fate 5 (some .int) :: zt) (z_rm 5)).room s m args below meth c H locs 0 0 (MQ below (va_Qi (wQi Q) (zB D dA vwCl wC nC b) (zA nC b)) args s 0 0 (zA nC b)) (F0 m 40 ls []) := by
        intro n18
        induction n18 using Nat.strongRecOn with
        | ind n18 i19 =>
          intro x12 H locs ls h hS hS0 hl
          have h := h16 n18 x12 h
          refine lv_iload hx hb dX0_fate_40 (lv_at hl 2 rfl) ?_
          refine lv_aload_n hx hb dX0_fate_42 rfl (lv_at hl 0 rfl) ?_
          refine w_geti hx hb hts (z_memU u0) hown hK.1 hS f0_0 (by decide) (zkd_of (rfl : zcd wC 78 = 30) rfl) (Or.inl (hts _ (z_mem k172))) dX0_fate_43 ?_
          obtain ⟨J76, B33, h⟩ := h
          have L32 : ∀ (H : Heap) (locs : List Loc) (ls : Array Slot), J76 → zR D dA vwCl wC nC b M1 H → va_S (zA nC b) s.heap H locs → lv_has ls 5 [(0, .ref (b + 78)), (3, .int (iI z8)), (4, .int (iI x12))] → W p l e (headSpec (.code yX0_fate cX0_fate 5 (some .int) :: zt) (z_rm 5)).room s m args below meth c H locs 0 0 (MQ below (va_Qi (wQi Q) (zB D dA vwCl wC nC b) (zA nC b)) args s 0 0 (zA nC b)) (F0 m 76 ls []) := by
            intro  H locs ls h hS hS0 hl
            have h := B33 h
            refine lv_aload_n hx hb dX0_fate_76 rfl (lv_at hl 0 rfl) ?_
            refine w_getr (j2 := 79) hx hb hts (z_memU u0) hown hK.1 hS f0_1 (by decide) (zkd_of (rfl : zcd wC 78 = 30) rfl) (zrf_of (rfl : zcd wC 78 = 30) rfl) (Or.inl (hts _ (z_mem k174))) dX0_fate_77 ?_
            refine z_iconst hx hb dX0_fate_80 ?_
            refine lv_iload hx hb dX0_fate_81 (lv_at hl 2 rfl) ?_
            refine w_iast (z := x12) (n := 2) (i := 0) hx hb hK.1 (t0 := 0) rfl hS hS0 (by decide) (zkd_of (rfl : zcd wC 79 = 31) rfl) (zln_of (rfl : zcd wC 79 = 31) rfl) (sI_of (by decide)) (by decide) (by decide) (by decide) dX0_fate_83 (fun H locs hS hS0 => ?_)
            rw [show ((0 : Int).toNat) = 0 from rfl] at hS
            obtain ⟨M34, e35⟩ : ∃ M34 : zM, M34 = zup M1 79 0 x12 := ⟨_, rfl⟩
            rw [← e35] at hS
            have h := h M34 e35
            refine lv_aload_n hx hb dX0_fate_84 rfl (lv_at hl 0 rfl) ?_
            refine w_getr (j2 := 79) hx hb hts (z_memU u0) hown hK.1 hS f0_1 (by decide) (zkd_of (rfl : zcd wC 78 = 30) rfl) (zrf_of (rfl : zcd wC 78 = 30) rfl) (Or.inl (hts _ (z_mem k174))) dX0_fate_85 ?_
            refine z_iconst hx hb dX0_fate_88 ?_
            refine lv_iload_n hx hb dX0_fate_89 rfl (lv_at hl 1 rfl) ?_
            refine w_iast (z := z8) (n := 2) (i := 1) hx hb hK.1 (t0 := 0) rfl hS hS0 (by decide) (zkd_of (rfl : zcd wC 79 = 31) rfl) (zln_of (rfl : zcd wC 79 = 31) rfl) (sI_of (by decide)) (by decide) (by decide) (by decide) dX0_fate_90 (fun H locs hS hS0 => ?_)
            rw [show ((1 : Int).toNat) = 1 from rfl] at hS
            obtain ⟨M36, e37⟩ : ∃ M36 : zM, M36 = zup M34 79 1 z8 := ⟨_, rfl⟩
            rw [← e37] at hS
            have h := h M36 e37
            refine z_bipush hx hb (by decide) dX0_fate_91 ?_
            exact w_iret hx hb hr hlocks hS hS0 (sI_of (by decide)) h dX0_fate_93
          refine w_icmp_le (tgt := 76) hx hb rfl rfl dX0_fate_46 (by decide) (fun c38 => ?_) (fun c38 => ?_)
          · skip
            have h := h.1 c38
            exact L32 _ _ _ h hS hS0 (lv_sub hl [0, 1, 2] rfl)
          · skip
            have h := h.2 c38
            refine lv_aload_n hx hb dX0_fate_49 rfl (lv_at hl 0 rfl) ?_
            refine lv_iload hx hb dX0_fate_50 (lv_at hl 2 rfl) ?_
            refine z_iconst hx hb dX0_fate_52 ?_
            refine z_isub hx hb dX0_fate_53 ?_
            refine w_calli (va_runV (As := [.int (iI (x12 - 1))]) (rest := []) ⟨hx, hb, hml, hown, hts⟩ (cC_Echo_outAt l D dA b M1 (x12 - 1) _ h) (cwV 1 hts (z_gV k710 k711 k712 k9 k713) rfl rfl rfl dm_X0_outAt ⟨Nat.le_of_ble_eq_true rfl, Nat.le_of_ble_eq_true rfl⟩) ⟨wPre_blind, (w_recv hS hK.1 (by decide) (zkd_of (rfl : zcd wC 78 = 30) rfl) (by decide) (rfl : vwCl[0]? = some (RX0, TX0, 8))), w_pre hS hK⟩ rfl rfl hl.1 rfl (lv_room (Nat.le_of_ble_eq_true rfl)) dX0_fate_54 ⟨Nat.le_refl _, Nat.le_refl _⟩) hS0 (fun z40 M39 H locs r41 h hS hS0 => ?_)
            obtain ⟨e42, h⟩ := h
            rw [e42] at hS
            refine lv_aload_n hx hb dX0_fate_57 rfl (lv_at hl 0 rfl) ?_
            refine lv_iload hx hb dX0_fate_58 (lv_at hl 2 rfl) ?_
            refine z_iconst hx hb dX0_fate_60 ?_
            refine z_isub hx hb dX0_fate_61 ?_
            refine lv_iload_n hx hb dX0_fate_62 rfl (lv_at hl 1 rfl) ?_
            refine z_iadd hx hb dX0_fate_63 ?_
            refine w_calli (va_runV (As := [.int (iI ((x12 - 1) + z8))]) (rest := [.int (iI z40)]) ⟨hx, hb, hml, hown, hts⟩ (cC_Echo_outAt l D dA b M1 ((x12 - 1) + z8) _ h) (cwV 1 hts (z_gV k710 k711 k712 k9 k713) rfl rfl rfl dm_X0_outAt ⟨Nat.le_of_ble_eq_true rfl, Nat.le_of_ble_eq_true rfl⟩) ⟨wPre_blind, (w_recv hS hK.1 (by decide) (zkd_of (rfl : zcd wC 78 = 30) rfl) (by decide) (rfl : vwCl[0]? = some (RX0, TX0, 8))), w_pre hS hK⟩ rfl rfl hl.1 rfl (lv_room (Nat.le_of_ble_eq_true rfl)) dX0_fate_64 ⟨Nat.le_refl _, Nat.le_refl _⟩) hS0 (fun z44 M43 H locs r45 h hS hS0 => ?_)
            obtain ⟨e46, h⟩ := h
            rw [e46] at hS
            refine w_icmp_ne (tgt := 76) hx hb (sI_of r41) (sI_of r45) dX0_fate_67 (by decide) (fun c47 => ?_) (fun c47 => ?_)
            · skip
              have h := h.1 c47
              exact L32 _ _ _ h hS hS0 (lv_sub hl [0, 1, 2] rfl)
            · skip
              have h := h.2 c47
              refine z_iinc (lv' := [(4, .int (iI (x12 + (-1)))), (0, .ref (b + 78)), (3, .int (iI z8))]) hx hb dX0_fate_70 hl (k := 2) rfl (by decide) rfl (fun ls hl => ?_)
              refine lv_goto (tgt := 40) hx hb dX0_fate_73 (by decide) ?_
              obtain ⟨n48, h49, h⟩ := h
              exact i19 n48 h49 (x12 + (-1)) _ _ _ h hS hS0 (lv_sub hl [1, 2, 0] rfl)
      exact L17 n14 (4000 - z8) _ _ _ h15 hS hS0 (lv_sub hl [3, 1, 0] rfl)
    · skip
      have h := h.2 c11
      refine z_bipush hx hb (by decide) dX0_fate_30 ?_
      exact w_iret hx hb hr hlocks hS hS0 (sI_of (by decide)) h dX0_fate_32
  · skip
    have h := h.2 c6
    refine lv_iload_n hx hb dX0_fate_18 rfl (lv_at hl 0 rfl) ?_
    exact w_iret hx hb hr hlocks hS hS0 (sI_of r4) h dX0_fate_19

set_option maxRecDepth 100000 in
def wC_dies  (M : zM) (Q : Int → zM → Prop) : Prop := wC_Echo_fate  M (fun z2 M1 => (z2 ≠ (-2) → Q z2 M1) ∧ (z2 = (-2) → wC_tell 79 2 M1 (fun M5 => Q z2 M5)))
set_option maxHeartbeats 4000000 in
set_option maxRecDepth 100000 in
theorem cC_dies (l : Launch) (D : va_G) (dA : Nat → ClassId) (b : Nat) (M : zM)   (Q : Int → zM → Prop) (h : wC_dies  M Q) : Met l yX11_dies (.code yX11_dies cX11_dies 2 (some .int) :: zt) (z_rm 6) (va_Pc [.ref (b + 0)] (wPre D dA vwCl (z_tys dA) wC nC b M)) (va_Qi (wQi Q) (zB D dA vwCl wC nC b) (zA nC b)) 0 0 (zA nC b) := by
  unfold wC_dies at h
  refine Met.ofW (cc := cX11_dies) (maxL := 2) (ret := (some .int)) (by decide) rfl ?_
  intro p e s m args below meth c s₁ B hml hv
  obtain ⟨hargs, hS, hK⟩ := hv
  have hx := B.exec
  have hb := B.bytes
  have hr := B.returns
  have hts := atoms_spec (ws := .code yX11_dies cX11_dies 2 (some .int) :: zt) B.pre
  have hown : s.vm.findClass RX11 = some m.cls := findClass_of_methodNamed B.named
  have hlocks := B.notSynchronized
  have hS0 : va_S (zA nC b) s.heap s.heap [] := va_S.rf
  have hl := lv_entry ([.ref (b + 0)]) (n := 2) (Nat.le_of_ble_eq_true rfl)
  have hent : entryFrame m args 2 = F0 m 0 ((lg_sl ([.ref (b + 0)]) ++ List.replicate (2 - (lg_sl ([.ref (b + 0)])).length) Slot.unset).toArray) [] := by rw [hargs]; exact lg_entry_eq m ([.ref (b + 0)]) 2
  rw [hent]
  generalize (lg_sl ([.ref (b + 0)]) ++ List.replicate (2 - (lg_sl ([.ref (b + 0)])).length) Slot.unset).toArray = ls at hl ⊢
  have hl : lv_has ls 2 [(0, .ref (b + 0))] := hl
  refine lv_aload_n hx hb dX11_dies_0 rfl (lv_at hl 0 rfl) ?_
  refine w_getr (j2 := 78) hx hb hts (z_memU u11) hown hK.1 hS f11_5 (by decide) (zkd_of (rfl : zcd wC 0 = 0) rfl) (zrf_of (rfl : zcd wC 0 = 0) rfl) (Or.inl (hts _ (z_mem k247))) dX11_dies_1 ?_
  refine lv_aload_n hx hb dX11_dies_4 rfl (lv_at hl 0 rfl) ?_
  refine w_getr (j2 := 32) hx hb hts (z_memU u11) hown hK.1 hS f11_2 (by decide) (zkd_of (rfl : zcd wC 0 = 0) rfl) (zrf_of (rfl : zcd wC 0 = 0) rfl) (Or.inl (hts _ (z_mem k244))) dX11_dies_5 ?_
  refine w_calli (va_runV (As := [.ref (b + 32)]) (rest := []) ⟨hx, hb, hml, hown, hts⟩ (cC_Echo_fate l D dA b M  _ h) (cwV 1 hts (z_gV k720 k721 k722 k9 k723) rfl rfl rfl dm_X0_fate ⟨Nat.le_of_ble_eq_true rfl, Nat.le_of_ble_eq_true rfl⟩) ⟨wPre_blind, (w_recv hS hK.1 (by decide) (zkd_of (rfl : zcd wC 78 = 30) rfl) (by decide) (rfl : vwCl[0]? = some (RX0, TX0, 8))), w_pre hS hK⟩ rfl rfl hl.1 rfl (lv_room (Nat.le_of_ble_eq_true rfl)) dX11_dies_8 ⟨Nat.le_refl _, Nat.le_refl _⟩) hS0 (fun z2 M1 H locs r3 h hS hS0 => ?_)
  refine lv_istore_n (lv' := [(1, .int (iI z2)), (0, .ref (b + 0))]) hx hb dX11_dies_11 rfl hl (by decide) rfl (fun ls hl => ?_)
  refine lv_iload_n hx hb dX11_dies_12 rfl (lv_at hl 0 rfl) ?_
  refine z_bipush hx hb (by decide) dX11_dies_13 ?_
  refine w_icmp_ne (tgt := 30) hx hb (sI_of r3) (sI_of (by decide)) dX11_dies_15 (by decide) (fun c4 => ?_) (fun c4 => ?_)
  · skip
    have h := h.1 c4
    refine lv_iload_n hx hb dX11_dies_30 rfl (lv_at hl 0 rfl) ?_
    exact w_iret hx hb hr hlocks hS hS0 (sI_of r3) h dX11_dies_31
  · skip
    have h := h.2 c4
    refine lv_aload_n hx hb dX11_dies_18 rfl (lv_at hl 1 rfl) ?_
    refine lv_aload_n hx hb dX11_dies_19 rfl (lv_at hl 1 rfl) ?_
    refine w_getr (j2 := 78) hx hb hts (z_memU u11) hown hK.1 hS f11_5 (by decide) (zkd_of (rfl : zcd wC 0 = 0) rfl) (zrf_of (rfl : zcd wC 0 = 0) rfl) (Or.inl (hts _ (z_mem k247))) dX11_dies_20 ?_
    refine w_getr (j2 := 79) hx hb hts (z_memU u0) hown hK.1 hS f0_1 (by decide) (zkd_of (rfl : zcd wC 78 = 30) rfl) (zrf_of (rfl : zcd wC 78 = 30) rfl) (Or.inl (hts _ (z_mem k175))) dX11_dies_23 ?_
    refine z_iconst hx hb dX11_dies_26 ?_
    refine w_callv (va_runV (As := [.ref (b + 79), .int (iI 2)]) (rest := []) ⟨hx, hb, hml, hown, hts⟩ (cC_tell l D dA b M1 79 2 (by decide) (zkd_of (rfl : zcd wC 79 = 31) rfl) (Nat.lt_of_le_of_lt (Nat.le_of_eq (zln_of (rfl : zcd wC 79 = 31) rfl)) (by decide)) _ h) (cwV 2 hts (z_gV k653 k654 k1375 k1 k655) rfl rfl rfl dm_X11_tell ⟨Nat.le_of_ble_eq_true rfl, Nat.le_of_ble_eq_true rfl⟩) ⟨wPre_blind, (w_recv hS hK.1 (by decide) (zkd_of (rfl : zcd wC 0 = 0) rfl) (by decide) (rfl : vwCl[11]? = some (RX11, TX11, 11))), w_pre hS hK⟩ rfl rfl hl.1 rfl (lv_room (Nat.le_of_ble_eq_true rfl)) dX11_dies_27 ⟨Nat.le_refl _, Nat.le_refl _⟩) hS0 (fun M5 H locs h hS hS0 => ?_)
    refine lv_iload_n hx hb dX11_dies_30 rfl (lv_at hl 0 rfl) ?_
    exact w_iret hx hb hr hlocks hS hS0 (sI_of r3) h dX11_dies_31

set_option maxRecDepth 100000 in
def wC_OldTape_add (a0 : Int) (M : zM) (Q : Int → zM → Prop) : Prop := ((sI (M 82 1)) < 60 → ((0 ≤ (sI (M 82 1)) ∧ (sI (M 82 1)) < 60) ∧ (∀ M3 : zM, M3 = zup M 83 (sI (M 82 1)).toNat a0 → (∀ M5 : zM, M5 = zup M3 82 1 ((M3 82 1) + 1) → Q (sI (M5 82 1)) M5)))) ∧ (60 ≤ (sI (M 82 1)) → Q (-1) M)
set_option maxHeartbeats 4000000 in
set_option maxRecDepth 100000 in
theorem cC_OldTape_add (l : Launch) (D : va_G) (dA : Nat → ClassId) (b : Nat) (M : zM) (a0 : Int)  (Q : Int → zM → Prop) (h : wC_OldTape_add a0 M Q) : Met l yX3_add (.code yX3_add cX3_add 2 (some .int) :: zt) (z_rm 0) (va_Pc [.ref (b + 82), .int (iI a0)] (wPre D dA vwCl (z_tys dA) wC nC b M)) (va_Qi (wQi Q) (zB D dA vwCl wC nC b) (zA nC b)) 0 0 (zA nC b) := by
  unfold wC_OldTape_add at h
  refine Met.ofW (cc := cX3_add) (maxL := 2) (ret := (some .int)) (by decide) rfl ?_
  intro p e s m args below meth c s₁ B hml hv
  obtain ⟨hargs, hS, hK⟩ := hv
  have hx := B.exec
  have hb := B.bytes
  have hr := B.returns
  have hts := atoms_spec (ws := .code yX3_add cX3_add 2 (some .int) :: zt) B.pre
  have hown : s.vm.findClass RX3 = some m.cls := findClass_of_methodNamed B.named
  have hlocks := B.notSynchronized
  have hS0 : va_S (zA nC b) s.heap s.heap [] := va_S.rf
  have hl := lv_entry ([.ref (b + 82), .int (iI a0)]) (n := 2) (Nat.le_of_ble_eq_true rfl)
  have hent : entryFrame m args 2 = F0 m 0 ((lg_sl ([.ref (b + 82), .int (iI a0)]) ++ List.replicate (2 - (lg_sl ([.ref (b + 82), .int (iI a0)])).length) Slot.unset).toArray) [] := by rw [hargs]; exact lg_entry_eq m ([.ref (b + 82), .int (iI a0)]) 2
  rw [hent]
  generalize (lg_sl ([.ref (b + 82), .int (iI a0)]) ++ List.replicate (2 - (lg_sl ([.ref (b + 82), .int (iI a0)])).length) Slot.unset).toArray = ls at hl ⊢
  have hl : lv_has ls 2 [(0, .ref (b + 82)), (1, .int (iI a0))] := hl
  refine lv_aload_n hx hb dX3_add_0 rfl (lv_at hl 0 rfl) ?_
  refine w_geti hx hb hts (z_memU u3) hown hK.1 hS f3_1 (by decide) (zkd_of (rfl : zcd wC 82 = 34) rfl) (Or.inl (hts _ (z_mem k196))) dX3_add_1 ?_
  refine z_bipush hx hb (by decide) dX3_add_4 ?_
  refine w_icmp_lt (tgt := 11) hx hb rfl (sI_of (by decide)) dX3_add_6 (by decide) (fun c1 => ?_) (fun c1 => ?_)
  · skip
    have h := h.1 c1
    refine lv_aload_n hx hb dX3_add_11 rfl (lv_at hl 0 rfl) ?_
    refine w_getr (j2 := 83) hx hb hts (z_memU u3) hown hK.1 hS f3_0 (by decide) (zkd_of (rfl : zcd wC 82 = 34) rfl) (zrf_of (rfl : zcd wC 82 = 34) rfl) (Or.inl (hts _ (z_mem k195))) dX3_add_12 ?_
    refine lv_aload_n hx hb dX3_add_15 rfl (lv_at hl 0 rfl) ?_
    refine w_geti hx hb hts (z_memU u3) hown hK.1 hS f3_1 (by decide) (zkd_of (rfl : zcd wC 82 = 34) rfl) (Or.inl (hts _ (z_mem k196))) dX3_add_16 ?_
    refine lv_iload_n hx hb dX3_add_19 rfl (lv_at hl 1 rfl) ?_
    obtain ⟨o2, h⟩ := h
    refine w_iast (z := a0) (n := 60) (i := (sI (M 82 1))) hx hb hK.1 (t0 := 0) rfl hS hS0 (by decide) (zkd_of (rfl : zcd wC 83 = 35) rfl) (zln_of (rfl : zcd wC 83 = 35) rfl) rfl o2.1 o2.2 (by decide) dX3_add_20 (fun H locs hS hS0 => ?_)
    obtain ⟨M3, e4⟩ : ∃ M3 : zM, M3 = zup M 83 (sI (M 82 1)).toNat a0 := ⟨_, rfl⟩
    rw [← e4] at hS
    have h := h M3 e4
    refine lv_aload_n hx hb dX3_add_21 rfl (lv_at hl 0 rfl) ?_
    refine lv_dup hx hb dX3_add_22 rfl ?_
    refine w_geti hx hb hts (z_memU u3) hown hK.1 hS f3_1 (by decide) (zkd_of (rfl : zcd wC 82 = 34) rfl) (Or.inl (hts _ (z_mem k196))) dX3_add_23 ?_
    refine z_iconst hx hb dX3_add_26 ?_
    refine z_iadd hx hb dX3_add_27 ?_
    refine w_puti hx hb hts (z_memU u3) tyX3 tyX3_ok nmX3 hown hK.1 hS hS0 f3_1 (by decide) (zkd_of (rfl : zcd wC 82 = 34) rfl) (Or.inl (hts _ (z_mem k196))) rfl (z := ((M3 82 1) + 1)) (by decide +kernel) dX3_add_28 (fun H locs hS hS0 => ?_)
    obtain ⟨M5, e6⟩ : ∃ M5 : zM, M5 = zup M3 82 1 ((M3 82 1) + 1) := ⟨_, rfl⟩
    rw [← e6] at hS
    have h := h M5 e6
    refine lv_aload_n hx hb dX3_add_31 rfl (lv_at hl 0 rfl) ?_
    refine w_geti hx hb hts (z_memU u3) hown hK.1 hS f3_1 (by decide) (zkd_of (rfl : zcd wC 82 = 34) rfl) (Or.inl (hts _ (z_mem k196))) dX3_add_32 ?_
    exact w_iret hx hb hr hlocks hS hS0 rfl h dX3_add_35
  · skip
    have h := h.2 c1
    refine z_iconst hx hb dX3_add_9 ?_
    exact w_iret hx hb hr hlocks hS hS0 (sI_of (by decide)) h dX3_add_10

set_option maxRecDepth 100000 in
def wC_tape (a0 : Int) (M : zM) (Q : Int → zM → Prop) : Prop := ((sI a0) = (-1) → wC_OldTape_add a0 M (fun z3 M2 => Q z3 M2)) ∧ ((sI a0) ≠ (-1) → wC_isSounds a0 M (fun z6 => (z6 = 0 → Q (-1) M) ∧ (z6 ≠ 0 → wC_OldTape_add a0 M (fun z11 M10 => Q z11 M10))))
set_option maxHeartbeats 4000000 in
set_option maxRecDepth 100000 in
theorem cC_tape (l : Launch) (D : va_G) (dA : Nat → ClassId) (b : Nat) (M : zM) (a0 : Int)  (Q : Int → zM → Prop) (h : wC_tape a0 M Q) : Met l yX11_tape (.code yX11_tape cX11_tape 2 (some .int) :: zt) (z_rm 1) (va_Pc [.ref (b + 0), .int (iI a0)] (wPre D dA vwCl (z_tys dA) wC nC b M)) (va_Qi (wQi Q) (zB D dA vwCl wC nC b) (zA nC b)) 0 0 (zA nC b) := by
  unfold wC_tape at h
  refine Met.ofW (cc := cX11_tape) (maxL := 2) (ret := (some .int)) (by decide) rfl ?_
  intro p e s m args below meth c s₁ B hml hv
  obtain ⟨hargs, hS, hK⟩ := hv
  have hx := B.exec
  have hb := B.bytes
  have hr := B.returns
  have hts := atoms_spec (ws := .code yX11_tape cX11_tape 2 (some .int) :: zt) B.pre
  have hown : s.vm.findClass RX11 = some m.cls := findClass_of_methodNamed B.named
  have hlocks := B.notSynchronized
  have hS0 : va_S (zA nC b) s.heap s.heap [] := va_S.rf
  have hl := lv_entry ([.ref (b + 0), .int (iI a0)]) (n := 2) (Nat.le_of_ble_eq_true rfl)
  have hent : entryFrame m args 2 = F0 m 0 ((lg_sl ([.ref (b + 0), .int (iI a0)]) ++ List.replicate (2 - (lg_sl ([.ref (b + 0), .int (iI a0)])).length) Slot.unset).toArray) [] := by rw [hargs]; exact lg_entry_eq m ([.ref (b + 0), .int (iI a0)]) 2
  rw [hent]
  generalize (lg_sl ([.ref (b + 0), .int (iI a0)]) ++ List.replicate (2 - (lg_sl ([.ref (b + 0), .int (iI a0)])).length) Slot.unset).toArray = ls at hl ⊢
  have hl : lv_has ls 2 [(0, .ref (b + 0)), (1, .int (iI a0))] := hl
  refine lv_iload_n hx hb dX11_tape_0 rfl (lv_at hl 1 rfl) ?_
  refine z_iconst hx hb dX11_tape_1 ?_
  refine w_icmp_eq (tgt := 12) hx hb rfl (sI_of (by decide)) dX11_tape_2 (by decide) (fun c1 => ?_) (fun c1 => ?_)
  · skip
    have h := h.1 c1
    refine lv_aload_n hx hb dX11_tape_12 rfl (lv_at hl 0 rfl) ?_
    refine w_getr (j2 := 82) hx hb hts (z_memU u11) hown hK.1 hS f11_6 (by decide) (zkd_of (rfl : zcd wC 0 = 0) rfl) (zrf_of (rfl : zcd wC 0 = 0) rfl) (Or.inl (hts _ (z_mem k248))) dX11_tape_13 ?_
    refine lv_iload_n hx hb dX11_tape_16 rfl (lv_at hl 1 rfl) ?_
    refine w_calli (va_runV (As := [.int (iI a0)]) (rest := []) ⟨hx, hb, hml, hown, hts⟩ (cC_OldTape_add l D dA b M a0 _ h) (cwV 1 hts (z_gV k738 k739 k740 k11 k741) rfl rfl rfl dm_X3_add ⟨Nat.le_of_ble_eq_true rfl, Nat.le_of_ble_eq_true rfl⟩) ⟨wPre_blind, (w_recv hS hK.1 (by decide) (zkd_of (rfl : zcd wC 82 = 34) rfl) (by decide) (rfl : vwCl[3]? = some (RX3, TX3, 4))), w_pre hS hK⟩ rfl rfl hl.1 rfl (lv_room (Nat.le_of_ble_eq_true rfl)) dX11_tape_17 ⟨Nat.le_refl _, Nat.le_refl _⟩) hS0 (fun z3 M2 H locs r4 h hS hS0 => ?_)
    refine lv_goto (tgt := 24) hx hb dX11_tape_20 (by decide) ?_
    exact w_iret hx hb hr hlocks hS hS0 (sI_of r4) h dX11_tape_24
  · skip
    have h := h.2 c1
    refine lv_iload_n hx hb dX11_tape_5 rfl (lv_at hl 1 rfl) ?_
    refine w_callz (va_runS (As := [.int (iI a0)]) (rest := []) ⟨hx, hb, hml, hown, hts⟩ (cC_isSounds l D dA b M a0 _ h) (va_cwS 1 hts (z_gS k553 k554 k1 k555) rfl rfl rfl dm_X11_isSounds.2 ⟨Nat.le_of_ble_eq_true rfl, Nat.le_of_ble_eq_true rfl⟩) ⟨wPre_blind, w_pre hS hK⟩ rfl rfl hl.1 rfl (lv_room (Nat.le_of_ble_eq_true rfl)) dX11_tape_6 ⟨Nat.le_refl _, Nat.le_refl _⟩) hS0 (fun z6 M5 H locs r7 h hS hS0 => ?_)
    obtain ⟨e8, h⟩ := h
    rw [e8] at hS
    refine w_if_eq (tgt := 23) hx hb (sI_01 r7) dX11_tape_9 (by decide) (fun c9 => ?_) (fun c9 => ?_)
    · skip
      have h := h.1 c9
      refine z_iconst hx hb dX11_tape_23 ?_
      exact w_iret hx hb hr hlocks hS hS0 (sI_of (by decide)) h dX11_tape_24
    · skip
      have h := h.2 c9
      refine lv_aload_n hx hb dX11_tape_12 rfl (lv_at hl 0 rfl) ?_
      refine w_getr (j2 := 82) hx hb hts (z_memU u11) hown hK.1 hS f11_6 (by decide) (zkd_of (rfl : zcd wC 0 = 0) rfl) (zrf_of (rfl : zcd wC 0 = 0) rfl) (Or.inl (hts _ (z_mem k248))) dX11_tape_13 ?_
      refine lv_iload_n hx hb dX11_tape_16 rfl (lv_at hl 1 rfl) ?_
      refine w_calli (va_runV (As := [.int (iI a0)]) (rest := []) ⟨hx, hb, hml, hown, hts⟩ (cC_OldTape_add l D dA b M a0 _ h) (cwV 1 hts (z_gV k738 k739 k740 k11 k741) rfl rfl rfl dm_X3_add ⟨Nat.le_of_ble_eq_true rfl, Nat.le_of_ble_eq_true rfl⟩) ⟨wPre_blind, (w_recv hS hK.1 (by decide) (zkd_of (rfl : zcd wC 82 = 34) rfl) (by decide) (rfl : vwCl[3]? = some (RX3, TX3, 4))), w_pre hS hK⟩ rfl rfl hl.1 rfl (lv_room (Nat.le_of_ble_eq_true rfl)) dX11_tape_17 ⟨Nat.le_refl _, Nat.le_refl _⟩) hS0 (fun z11 M10 H locs r12 h hS hS0 => ?_)
      refine lv_goto (tgt := 24) hx hb dX11_tape_20 (by decide) ?_
      exact w_iret hx hb hr hlocks hS hS0 (sI_of r12) h dX11_tape_24

set_option maxRecDepth 100000 in
def wC_take (a0 : Int) (a1 : Int) (M : zM) (Q : Int → zM → Prop) : Prop := wC_within a0 0 100000 M (fun z2 => (z2 = 0 → Q 0 M) ∧ (z2 ≠ 0 → wC_within a1 0 60 M (fun z7 => (z7 ≠ 0 → (∀ M11 : zM, M11 = zup M 82 1 0 → wL1 (fun K32 x13 M14 => ((sI a1) ≤ (sI x13) → Q 1 M14) ∧ ((sI x13) < (sI a1) → wC_Studio_heardInAll (sI (a0 + x13)) M14 (fun z24 => wC_OldTape_add z24 M14 (fun z28 M27 => K32 (x13 + 1) M27)))) 0 M11)) ∧ (z7 = 0 → Q 0 M))))
set_option maxHeartbeats 4000000 in
set_option maxRecDepth 100000 in
theorem cC_take (l : Launch) (D : va_G) (dA : Nat → ClassId) (b : Nat) (M : zM) (a0 : Int) (a1 : Int)  (Q : Int → zM → Prop) (h : wC_take a0 a1 M Q) : Met l yX11_take (.code yX11_take cX11_take 4 (some .boolean) :: zt) (z_rm 4) (va_Pc [.ref (b + 0), .int (iI a0), .int (iI a1)] (wPre D dA vwCl (z_tys dA) wC nC b M)) (va_Qi (wQz Q) (zB D dA vwCl wC nC b) (zA nC b)) 0 0 (zA nC b) := by
  unfold wC_take at h
  refine Met.ofW (cc := cX11_take) (maxL := 4) (ret := (some .boolean)) (by decide) rfl ?_
  intro p e s m args below meth c s₁ B hml hv
  obtain ⟨hargs, hS, hK⟩ := hv
  have hx := B.exec
  have hb := B.bytes
  have hr := B.returns
  have hts := atoms_spec (ws := .code yX11_take cX11_take 4 (some .boolean) :: zt) B.pre
  have hown : s.vm.findClass RX11 = some m.cls := findClass_of_methodNamed B.named
  have hlocks := B.notSynchronized
  have hS0 : va_S (zA nC b) s.heap s.heap [] := va_S.rf
  have hl := lv_entry ([.ref (b + 0), .int (iI a0), .int (iI a1)]) (n := 4) (Nat.le_of_ble_eq_true rfl)
  have hent : entryFrame m args 4 = F0 m 0 ((lg_sl ([.ref (b + 0), .int (iI a0), .int (iI a1)]) ++ List.replicate (4 - (lg_sl ([.ref (b + 0), .int (iI a0), .int (iI a1)])).length) Slot.unset).toArray) [] := by rw [hargs]; exact lg_entry_eq m ([.ref (b + 0), .int (iI a0), .int (iI a1)]) 4
  rw [hent]
  generalize (lg_sl ([.ref (b + 0), .int (iI a0), .int (iI a1)]) ++ List.replicate (4 - (lg_sl ([.ref (b + 0), .int (iI a0), .int (iI a1)])).length) Slot.unset).toArray = ls at hl ⊢
  have hl : lv_has ls 4 [(0, .ref (b + 0)), (1, .int (iI a0)), (2, .int (iI a1))] := hl
  refine lv_iload_n hx hb dX11_take_0 rfl (lv_at hl 1 rfl) ?_
  refine z_iconst hx hb dX11_take_1 ?_
  refine z_ldc (n := 100000) hx hb hown (hts _ (z_mem k600)) (by decide) dX11_take_2 ?_
  refine w_callz (va_runS (As := [.int (iI a0), .int (iI 0), .int (iI 100000)]) (rest := []) ⟨hx, hb, hml, hown, hts⟩ (cC_within l D dA b M a0 0 100000 _ h) (va_cwS 3 hts (z_gS k382 k383 k1 k384) rfl rfl rfl dm_X11_within.2 ⟨Nat.le_of_ble_eq_true rfl, Nat.le_of_ble_eq_true rfl⟩) ⟨wPre_blind, w_pre hS hK⟩ rfl rfl hl.1 rfl (lv_room (Nat.le_of_ble_eq_true rfl)) dX11_take_4 ⟨Nat.le_refl _, Nat.le_refl _⟩) hS0 (fun z2 M1 H locs r3 h hS hS0 => ?_)
  obtain ⟨e4, h⟩ := h
  rw [e4] at hS
  refine w_if_eq (tgt := 20) hx hb (sI_01 r3) dX11_take_7 (by decide) (fun c5 => ?_) (fun c5 => ?_)
  · skip
    have h := h.1 c5
    refine z_iconst hx hb dX11_take_20 ?_
    exact w_zret hx hb hr hlocks hS hS0 (sI_of (by decide)) (by decide) h dX11_take_21
  · skip
    have h := h.2 c5
    refine lv_iload_n hx hb dX11_take_10 rfl (lv_at hl 2 rfl) ?_
    refine z_iconst hx hb dX11_take_11 ?_
    refine z_bipush hx hb (by decide) dX11_take_12 ?_
    refine w_callz (va_runS (As := [.int (iI a1), .int (iI 0), .int (iI 60)]) (rest := []) ⟨hx, hb, hml, hown, hts⟩ (cC_within l D dA b M a1 0 60 _ h) (va_cwS 3 hts (z_gS k382 k383 k1 k384) rfl rfl rfl dm_X11_within.2 ⟨Nat.le_of_ble_eq_true rfl, Nat.le_of_ble_eq_true rfl⟩) ⟨wPre_blind, w_pre hS hK⟩ rfl rfl hl.1 rfl (lv_room (Nat.le_of_ble_eq_true rfl)) dX11_take_14 ⟨Nat.le_refl _, Nat.le_refl _⟩) hS0 (fun z7 M6 H locs r8 h hS hS0 => ?_)
    obtain ⟨e9, h⟩ := h
    rw [e9] at hS
    refine w_if_ne (tgt := 22) hx hb (sI_01 r8) dX11_take_17 (by decide) (fun c10 => ?_) (fun c10 => ?_)
    · skip
      have h := h.1 c10
      refine lv_aload_n hx hb dX11_take_22 rfl (lv_at hl 0 rfl) ?_
      refine w_getr (j2 := 82) hx hb hts (z_memU u11) hown hK.1 hS f11_6 (by decide) (zkd_of (rfl : zcd wC 0 = 0) rfl) (zrf_of (rfl : zcd wC 0 = 0) rfl) (Or.inl (hts _ (z_mem k248))) dX11_take_23 ?_
      refine z_iconst hx hb dX11_take_26 ?_
      refine w_puti hx hb hts (z_memU u3) tyX3 tyX3_ok nmX3 hown hK.1 hS hS0 f3_1 (by decide) (zkd_of (rfl : zcd wC 82 = 34) rfl) (Or.inl (hts _ (z_mem k197))) rfl (z := 0) (by decide +kernel) dX11_take_27 (fun H locs hS hS0 => ?_)
      obtain ⟨M11, e12⟩ : ∃ M11 : zM, M11 = zup M 82 1 0 := ⟨_, rfl⟩
      rw [← e12] at hS
      have h := h M11 e12
      refine z_iconst hx hb dX11_take_30 ?_
      refine lv_istore_n (lv' := [(3, .int (iI 0)), (0, .ref (b + 0)), (1, .int (iI a0)), (2, .int (iI a1))]) hx hb dX11_take_31 rfl hl (by decide) rfl (fun ls hl => ?_)
      obtain ⟨I15, ⟨n16, h17⟩, h18⟩ := h
      have L19 : ∀ (n20 : Nat) (x13 : Int) (M14 : zM) (H : Heap) (locs : List Loc) (ls : Array Slot), I15 n20 x13 M14 → zR D dA vwCl wC nC b M14 H → va_S (zA nC b) s.heap H locs → lv_has ls 4 [(0, .ref (b + 0)), (1, .int (iI a0)), (2, .int (iI a1)), (3, .int (iI x13))] → W p l e (headSpec (.code yX11_take cX11_take 4 (some .boolean) :: zt) (z_rm 4)).room s m args below meth c H locs 0 0 (MQ below (va_Qi (wQz Q) (zB D dA vwCl wC nC b) (zA nC b)) args s 0 0 (zA nC b)) (F0 m 32 ls []) := by
        intro n20
        induction n20 using Nat.strongRecOn with
        | ind n20 i21 =>
          intro x13 M14 H locs ls h hS hS0 hl
          have h := h18 n20 x13 M14 h
          refine lv_iload_n hx hb dX11_take_32 rfl (lv_at hl 3 rfl) ?_
          refine lv_iload_n hx hb dX11_take_33 rfl (lv_at hl 2 rfl) ?_
          refine w_icmp_ge (tgt := 62) hx hb rfl rfl dX11_take_34 (by decide) (fun c22 => ?_) (fun c22 => ?_)
          · skip
            have h := h.1 c22
            refine z_iconst hx hb dX11_take_62 ?_
            exact w_zret hx hb hr hlocks hS hS0 (sI_of (by decide)) (by decide) h dX11_take_63
          · skip
            have h := h.2 c22
            refine lv_aload_n hx hb dX11_take_37 rfl (lv_at hl 0 rfl) ?_
            refine w_getr (j2 := 82) hx hb hts (z_memU u11) hown hK.1 hS f11_6 (by decide) (zkd_of (rfl : zcd wC 0 = 0) rfl) (zrf_of (rfl : zcd wC 0 = 0) rfl) (Or.inl (hts _ (z_mem k248))) dX11_take_38 ?_
            refine lv_aload_n hx hb dX11_take_41 rfl (lv_at hl 0 rfl) ?_
            refine w_getr (j2 := 32) hx hb hts (z_memU u11) hown hK.1 hS f11_2 (by decide) (zkd_of (rfl : zcd wC 0 = 0) rfl) (zrf_of (rfl : zcd wC 0 = 0) rfl) (Or.inl (hts _ (z_mem k244))) dX11_take_42 ?_
            refine lv_iload_n hx hb dX11_take_45 rfl (lv_at hl 1 rfl) ?_
            refine lv_iload_n hx hb dX11_take_46 rfl (lv_at hl 3 rfl) ?_
            refine z_iadd hx hb dX11_take_47 ?_
            refine w_i2l hx hb rfl dX11_take_48 ?_
            refine w_calli (va_runV (As := [.long (iL (sI (a0 + x13)))]) (rest := [.ref (b + 82)]) ⟨hx, hb, hml, hown, hts⟩ (cC_Studio_heardInAll l D dA b M14 (sI (a0 + x13)) _ h) (cwV 1 hts (z_gV k474 k475 k476 k4 k477) rfl rfl rfl dm_X9_heardInAll ⟨Nat.le_of_ble_eq_true rfl, Nat.le_of_ble_eq_true rfl⟩) ⟨wPre_blind, (w_recv hS hK.1 (by decide) (zkd_of (rfl : zcd wC 32 = 8) rfl) (by decide) (rfl : vwCl[9]? = some (RX9, TX9, 3))), w_pre hS hK⟩ rfl rfl hl.1 rfl (lv_room (Nat.le_of_ble_eq_true rfl)) dX11_take_49 ⟨Nat.le_refl _, Nat.le_refl _⟩) hS0 (fun z24 M23 H locs r25 h hS hS0 => ?_)
            obtain ⟨e26, h⟩ := h
            rw [e26] at hS
            refine w_calli (va_runV (As := [.int (iI z24)]) (rest := []) ⟨hx, hb, hml, hown, hts⟩ (cC_OldTape_add l D dA b M14 z24 _ h) (cwV 1 hts (z_gV k738 k739 k740 k11 k741) rfl rfl rfl dm_X3_add ⟨Nat.le_of_ble_eq_true rfl, Nat.le_of_ble_eq_true rfl⟩) ⟨wPre_blind, (w_recv hS hK.1 (by decide) (zkd_of (rfl : zcd wC 82 = 34) rfl) (by decide) (rfl : vwCl[3]? = some (RX3, TX3, 4))), w_pre hS hK⟩ rfl rfl hl.1 rfl (lv_room (Nat.le_of_ble_eq_true rfl)) dX11_take_52 ⟨Nat.le_refl _, Nat.le_refl _⟩) hS0 (fun z28 M27 H locs r29 h hS hS0 => ?_)
            refine lv_pop hx hb dX11_take_55 rfl ?_
            refine z_iinc (lv' := [(3, .int (iI (x13 + 1))), (0, .ref (b + 0)), (1, .int (iI a0)), (2, .int (iI a1))]) hx hb dX11_take_56 hl (k := 3) rfl (by decide) rfl (fun ls hl => ?_)
            refine lv_goto (tgt := 32) hx hb dX11_take_59 (by decide) ?_
            obtain ⟨n30, h31, h⟩ := h
            exact i21 n30 h31 (x13 + 1) M27 _ _ _ h hS hS0 (lv_sub hl [1, 2, 3, 0] rfl)
      exact L19 n16 0 M11 _ _ _ h17 hS hS0 (lv_sub hl [1, 2, 3, 0] rfl)
    · skip
      have h := h.2 c10
      refine z_iconst hx hb dX11_take_20 ?_
      exact w_zret hx hb hr hlocks hS hS0 (sI_of (by decide)) (by decide) h dX11_take_21

set_option maxRecDepth 100000 in
def wC_OldTape_makeGap (a0 : Int) (M : zM) (Q : Int → zM → Prop) : Prop := ((sI a0) < 0 → Q 0 M) ∧ (0 ≤ (sI a0) → ((sI a0) < (sI (M 82 1)) → ((0 ≤ (sI a0) ∧ (sI a0) < 60) ∧ (∀ M4 : zM, M4 = zup M 83 (sI a0).toNat (-1) → Q 1 M4))) ∧ ((sI (M 82 1)) ≤ (sI a0) → Q 0 M))
set_option maxHeartbeats 4000000 in
set_option maxRecDepth 100000 in
theorem cC_OldTape_makeGap (l : Launch) (D : va_G) (dA : Nat → ClassId) (b : Nat) (M : zM) (a0 : Int)  (Q : Int → zM → Prop) (h : wC_OldTape_makeGap a0 M Q) : Met l yX3_makeGap (.code yX3_makeGap cX3_makeGap 2 (some .boolean) :: zt) (z_rm 0) (va_Pc [.ref (b + 82), .int (iI a0)] (wPre D dA vwCl (z_tys dA) wC nC b M)) (va_Qi (wQz Q) (zB D dA vwCl wC nC b) (zA nC b)) 0 0 (zA nC b) := by
  unfold wC_OldTape_makeGap at h
  refine Met.ofW (cc := cX3_makeGap) (maxL := 2) (ret := (some .boolean)) (by decide) rfl ?_
  intro p e s m args below meth c s₁ B hml hv
  obtain ⟨hargs, hS, hK⟩ := hv
  have hx := B.exec
  have hb := B.bytes
  have hr := B.returns
  have hts := atoms_spec (ws := .code yX3_makeGap cX3_makeGap 2 (some .boolean) :: zt) B.pre
  have hown : s.vm.findClass RX3 = some m.cls := findClass_of_methodNamed B.named
  have hlocks := B.notSynchronized
  have hS0 : va_S (zA nC b) s.heap s.heap [] := va_S.rf
  have hl := lv_entry ([.ref (b + 82), .int (iI a0)]) (n := 2) (Nat.le_of_ble_eq_true rfl)
  have hent : entryFrame m args 2 = F0 m 0 ((lg_sl ([.ref (b + 82), .int (iI a0)]) ++ List.replicate (2 - (lg_sl ([.ref (b + 82), .int (iI a0)])).length) Slot.unset).toArray) [] := by rw [hargs]; exact lg_entry_eq m ([.ref (b + 82), .int (iI a0)]) 2
  rw [hent]
  generalize (lg_sl ([.ref (b + 82), .int (iI a0)]) ++ List.replicate (2 - (lg_sl ([.ref (b + 82), .int (iI a0)])).length) Slot.unset).toArray = ls at hl ⊢
  have hl : lv_has ls 2 [(0, .ref (b + 82)), (1, .int (iI a0))] := hl
  refine lv_iload_n hx hb dX3_makeGap_0 rfl (lv_at hl 1 rfl) ?_
  refine w_if_lt (tgt := 12) hx hb rfl dX3_makeGap_1 (by decide) (fun c1 => ?_) (fun c1 => ?_)
  · skip
    have h := h.1 c1
    refine z_iconst hx hb dX3_makeGap_12 ?_
    exact w_zret hx hb hr hlocks hS hS0 (sI_of (by decide)) (by decide) h dX3_makeGap_13
  · skip
    have h := h.2 c1
    refine lv_iload_n hx hb dX3_makeGap_4 rfl (lv_at hl 1 rfl) ?_
    refine lv_aload_n hx hb dX3_makeGap_5 rfl (lv_at hl 0 rfl) ?_
    refine w_geti hx hb hts (z_memU u3) hown hK.1 hS f3_1 (by decide) (zkd_of (rfl : zcd wC 82 = 34) rfl) (Or.inl (hts _ (z_mem k196))) dX3_makeGap_6 ?_
    refine w_icmp_lt (tgt := 14) hx hb rfl rfl dX3_makeGap_9 (by decide) (fun c2 => ?_) (fun c2 => ?_)
    · skip
      have h := h.1 c2
      refine lv_aload_n hx hb dX3_makeGap_14 rfl (lv_at hl 0 rfl) ?_
      refine w_getr (j2 := 83) hx hb hts (z_memU u3) hown hK.1 hS f3_0 (by decide) (zkd_of (rfl : zcd wC 82 = 34) rfl) (zrf_of (rfl : zcd wC 82 = 34) rfl) (Or.inl (hts _ (z_mem k195))) dX3_makeGap_15 ?_
      refine lv_iload_n hx hb dX3_makeGap_18 rfl (lv_at hl 1 rfl) ?_
      refine z_iconst hx hb dX3_makeGap_19 ?_
      obtain ⟨o3, h⟩ := h
      refine w_iast (z := (-1)) (n := 60) (i := (sI a0)) hx hb hK.1 (t0 := 0) rfl hS hS0 (by decide) (zkd_of (rfl : zcd wC 83 = 35) rfl) (zln_of (rfl : zcd wC 83 = 35) rfl) rfl o3.1 o3.2 (by decide) dX3_makeGap_20 (fun H locs hS hS0 => ?_)
      obtain ⟨M4, e5⟩ : ∃ M4 : zM, M4 = zup M 83 (sI a0).toNat (-1) := ⟨_, rfl⟩
      rw [← e5] at hS
      have h := h M4 e5
      refine z_iconst hx hb dX3_makeGap_21 ?_
      exact w_zret hx hb hr hlocks hS hS0 (sI_of (by decide)) (by decide) h dX3_makeGap_22
    · skip
      have h := h.2 c2
      refine z_iconst hx hb dX3_makeGap_12 ?_
      exact w_zret hx hb hr hlocks hS hS0 (sI_of (by decide)) (by decide) h dX3_makeGap_13

set_option maxRecDepth 100000 in
def wC_gap (a0 : Int) (M : zM) (Q : Int → zM → Prop) : Prop := wC_OldTape_makeGap a0 M (fun z2 M1 => Q z2 M1)
set_option maxHeartbeats 4000000 in
set_option maxRecDepth 100000 in
theorem cC_gap (l : Launch) (D : va_G) (dA : Nat → ClassId) (b : Nat) (M : zM) (a0 : Int)  (Q : Int → zM → Prop) (h : wC_gap a0 M Q) : Met l yX11_gap (.code yX11_gap cX11_gap 2 (some .boolean) :: zt) (z_rm 1) (va_Pc [.ref (b + 0), .int (iI a0)] (wPre D dA vwCl (z_tys dA) wC nC b M)) (va_Qi (wQz Q) (zB D dA vwCl wC nC b) (zA nC b)) 0 0 (zA nC b) := by
  unfold wC_gap at h
  refine Met.ofW (cc := cX11_gap) (maxL := 2) (ret := (some .boolean)) (by decide) rfl ?_
  intro p e s m args below meth c s₁ B hml hv
  obtain ⟨hargs, hS, hK⟩ := hv
  have hx := B.exec
  have hb := B.bytes
  have hr := B.returns
  have hts := atoms_spec (ws := .code yX11_gap cX11_gap 2 (some .boolean) :: zt) B.pre
  have hown : s.vm.findClass RX11 = some m.cls := findClass_of_methodNamed B.named
  have hlocks := B.notSynchronized
  have hS0 : va_S (zA nC b) s.heap s.heap [] := va_S.rf
  have hl := lv_entry ([.ref (b + 0), .int (iI a0)]) (n := 2) (Nat.le_of_ble_eq_true rfl)
  have hent : entryFrame m args 2 = F0 m 0 ((lg_sl ([.ref (b + 0), .int (iI a0)]) ++ List.replicate (2 - (lg_sl ([.ref (b + 0), .int (iI a0)])).length) Slot.unset).toArray) [] := by rw [hargs]; exact lg_entry_eq m ([.ref (b + 0), .int (iI a0)]) 2
  rw [hent]
  generalize (lg_sl ([.ref (b + 0), .int (iI a0)]) ++ List.replicate (2 - (lg_sl ([.ref (b + 0), .int (iI a0)])).length) Slot.unset).toArray = ls at hl ⊢
  have hl : lv_has ls 2 [(0, .ref (b + 0)), (1, .int (iI a0))] := hl
  refine lv_aload_n hx hb dX11_gap_0 rfl (lv_at hl 0 rfl) ?_
  refine w_getr (j2 := 82) hx hb hts (z_memU u11) hown hK.1 hS f11_6 (by decide) (zkd_of (rfl : zcd wC 0 = 0) rfl) (zrf_of (rfl : zcd wC 0 = 0) rfl) (Or.inl (hts _ (z_mem k248))) dX11_gap_1 ?_
  refine lv_iload_n hx hb dX11_gap_4 rfl (lv_at hl 1 rfl) ?_
  refine w_callz (va_runV (As := [.int (iI a0)]) (rest := []) ⟨hx, hb, hml, hown, hts⟩ (cC_OldTape_makeGap l D dA b M a0 _ h) (cwV 1 hts (z_gV k750 k751 k752 k11 k753) rfl rfl rfl dm_X3_makeGap ⟨Nat.le_of_ble_eq_true rfl, Nat.le_of_ble_eq_true rfl⟩) ⟨wPre_blind, (w_recv hS hK.1 (by decide) (zkd_of (rfl : zcd wC 82 = 34) rfl) (by decide) (rfl : vwCl[3]? = some (RX3, TX3, 4))), w_pre hS hK⟩ rfl rfl hl.1 rfl (lv_room (Nat.le_of_ble_eq_true rfl)) dX11_gap_5 ⟨Nat.le_refl _, Nat.le_refl _⟩) hS0 (fun z2 M1 H locs r3 h hS hS0 => ?_)
  exact w_zret hx hb hr hlocks hS hS0 (sI_01 r3) r3 h dX11_gap_8

set_option maxRecDepth 100000 in
def wC_wipe  (M : zM) (Q : Int → zM → Prop) : Prop := (∀ M1 : zM, M1 = zup M 82 1 0 → Q (sI (M 82 1)) M1)
set_option maxHeartbeats 4000000 in
set_option maxRecDepth 100000 in
theorem cC_wipe (l : Launch) (D : va_G) (dA : Nat → ClassId) (b : Nat) (M : zM)   (Q : Int → zM → Prop) (h : wC_wipe  M Q) : Met l yX11_wipe (.code yX11_wipe cX11_wipe 2 (some .int) :: zt) (z_rm 0) (va_Pc [.ref (b + 0)] (wPre D dA vwCl (z_tys dA) wC nC b M)) (va_Qi (wQi Q) (zB D dA vwCl wC nC b) (zA nC b)) 0 0 (zA nC b) := by
  unfold wC_wipe at h
  refine Met.ofW (cc := cX11_wipe) (maxL := 2) (ret := (some .int)) (by decide) rfl ?_
  intro p e s m args below meth c s₁ B hml hv
  obtain ⟨hargs, hS, hK⟩ := hv
  have hx := B.exec
  have hb := B.bytes
  have hr := B.returns
  have hts := atoms_spec (ws := .code yX11_wipe cX11_wipe 2 (some .int) :: zt) B.pre
  have hown : s.vm.findClass RX11 = some m.cls := findClass_of_methodNamed B.named
  have hlocks := B.notSynchronized
  have hS0 : va_S (zA nC b) s.heap s.heap [] := va_S.rf
  have hl := lv_entry ([.ref (b + 0)]) (n := 2) (Nat.le_of_ble_eq_true rfl)
  have hent : entryFrame m args 2 = F0 m 0 ((lg_sl ([.ref (b + 0)]) ++ List.replicate (2 - (lg_sl ([.ref (b + 0)])).length) Slot.unset).toArray) [] := by rw [hargs]; exact lg_entry_eq m ([.ref (b + 0)]) 2
  rw [hent]
  generalize (lg_sl ([.ref (b + 0)]) ++ List.replicate (2 - (lg_sl ([.ref (b + 0)])).length) Slot.unset).toArray = ls at hl ⊢
  have hl : lv_has ls 2 [(0, .ref (b + 0))] := hl
  refine lv_aload_n hx hb dX11_wipe_0 rfl (lv_at hl 0 rfl) ?_
  refine w_getr (j2 := 82) hx hb hts (z_memU u11) hown hK.1 hS f11_6 (by decide) (zkd_of (rfl : zcd wC 0 = 0) rfl) (zrf_of (rfl : zcd wC 0 = 0) rfl) (Or.inl (hts _ (z_mem k248))) dX11_wipe_1 ?_
  refine w_geti hx hb hts (z_memU u3) hown hK.1 hS f3_1 (by decide) (zkd_of (rfl : zcd wC 82 = 34) rfl) (Or.inl (hts _ (z_mem k197))) dX11_wipe_4 ?_
  refine lv_istore_n (lv' := [(1, .int (iI (M 82 1))), (0, .ref (b + 0))]) hx hb dX11_wipe_7 rfl hl (by decide) rfl (fun ls hl => ?_)
  refine lv_aload_n hx hb dX11_wipe_8 rfl (lv_at hl 1 rfl) ?_
  refine w_getr (j2 := 82) hx hb hts (z_memU u11) hown hK.1 hS f11_6 (by decide) (zkd_of (rfl : zcd wC 0 = 0) rfl) (zrf_of (rfl : zcd wC 0 = 0) rfl) (Or.inl (hts _ (z_mem k248))) dX11_wipe_9 ?_
  refine z_iconst hx hb dX11_wipe_12 ?_
  refine w_puti hx hb hts (z_memU u3) tyX3 tyX3_ok nmX3 hown hK.1 hS hS0 f3_1 (by decide) (zkd_of (rfl : zcd wC 82 = 34) rfl) (Or.inl (hts _ (z_mem k197))) rfl (z := 0) (by decide +kernel) dX11_wipe_13 (fun H locs hS hS0 => ?_)
  obtain ⟨M1, e2⟩ : ∃ M1 : zM, M1 = zup M 82 1 0 := ⟨_, rfl⟩
  rw [← e2] at hS
  have h := h M1 e2
  refine lv_iload_n hx hb dX11_wipe_16 rfl (lv_at hl 0 rfl) ?_
  exact w_iret hx hb hr hlocks hS hS0 rfl h dX11_wipe_17

set_option maxRecDepth 100000 in
def wC_OldTape_spanFits (a0 : Int) (M : zM) (Q : Int → zM → Prop) : Prop := wC_fill 84 (-1) M (fun M1 => wL1 (fun K10 x2 M3 => ((sI (M3 82 1)) ≤ (sI x2) → Q 1 M3) ∧ ((sI x2) < (sI (M3 82 1)) → wC_by (sI x2) a0 M3 (fun z13 => ((0 ≤ z13 ∧ z13 < 24) ∧ ((sI (M3 84 z13.toNat)) ≠ (-1) → ((0 ≤ (sI x2) ∧ (sI x2) < 60) ∧ ((sI (M3 83 (sI x2).toNat)) = (-1) → K10 (x2 + 1) M3) ∧ ((sI (M3 83 (sI x2).toNat)) ≠ (-1) → ((0 ≤ (sI x2) ∧ (sI x2) < 60) ∧ ((0 ≤ z13 ∧ z13 < 24) ∧ ((sI (M3 83 (sI x2).toNat)) = (sI (M3 84 z13.toNat)) → K10 (x2 + 1) M3) ∧ ((sI (M3 83 (sI x2).toNat)) ≠ (sI (M3 84 z13.toNat)) → Q 0 M3)))))) ∧ ((sI (M3 84 z13.toNat)) = (-1) → ((0 ≤ (sI x2) ∧ (sI x2) < 60) ∧ ((0 ≤ z13 ∧ z13 < 24) ∧ (∀ M29 : zM, M29 = zup M3 84 z13.toNat (M3 83 (sI x2).toNat) → K10 (x2 + 1) M29)))))))) 0 M1)
set_option maxHeartbeats 4000000 in
set_option maxRecDepth 100000 in
theorem cC_OldTape_spanFits (l : Launch) (D : va_G) (dA : Nat → ClassId) (b : Nat) (M : zM) (a0 : Int)  (Q : Int → zM → Prop) (h : wC_OldTape_spanFits a0 M Q) : Met l yX3_spanFits (.code yX3_spanFits cX3_spanFits 4 (some .boolean) :: zt) (z_rm 1) (va_Pc [.ref (b + 82), .int (iI a0)] (wPre D dA vwCl (z_tys dA) wC nC b M)) (va_Qi (wQz Q) (zB D dA vwCl wC nC b) (zA nC b)) 0 0 (zA nC b) := by
  unfold wC_OldTape_spanFits at h
  refine Met.ofW (cc := cX3_spanFits) (maxL := 4) (ret := (some .boolean)) (by decide) rfl ?_
  intro p e s m args below meth c s₁ B hml hv
  obtain ⟨hargs, hS, hK⟩ := hv
  have hx := B.exec
  have hb := B.bytes
  have hr := B.returns
  have hts := atoms_spec (ws := .code yX3_spanFits cX3_spanFits 4 (some .boolean) :: zt) B.pre
  have hown : s.vm.findClass RX3 = some m.cls := findClass_of_methodNamed B.named
  have hlocks := B.notSynchronized
  have hS0 : va_S (zA nC b) s.heap s.heap [] := va_S.rf
  have hl := lv_entry ([.ref (b + 82), .int (iI a0)]) (n := 4) (Nat.le_of_ble_eq_true rfl)
  have hent : entryFrame m args 4 = F0 m 0 ((lg_sl ([.ref (b + 82), .int (iI a0)]) ++ List.replicate (4 - (lg_sl ([.ref (b + 82), .int (iI a0)])).length) Slot.unset).toArray) [] := by rw [hargs]; exact lg_entry_eq m ([.ref (b + 82), .int (iI a0)]) 4
  rw [hent]
  generalize (lg_sl ([.ref (b + 82), .int (iI a0)]) ++ List.replicate (4 - (lg_sl ([.ref (b + 82), .int (iI a0)])).length) Slot.unset).toArray = ls at hl ⊢
  have hl : lv_has ls 4 [(0, .ref (b + 82)), (1, .int (iI a0))] := hl
  refine lv_aload_n hx hb dX3_spanFits_0 rfl (lv_at hl 0 rfl) ?_
  refine w_getr (j2 := 84) hx hb hts (z_memU u3) hown hK.1 hS f3_2 (by decide) (zkd_of (rfl : zcd wC 82 = 34) rfl) (zrf_of (rfl : zcd wC 82 = 34) rfl) (Or.inl (hts _ (z_mem k198))) dX3_spanFits_1 ?_
  refine z_iconst hx hb dX3_spanFits_4 ?_
  refine w_callv (va_runS (As := [.ref (b + 84), .int (iI (-1))]) (rest := []) ⟨hx, hb, hml, hown, hts⟩ (cC_fill l D dA b M 84 (-1) (by decide) (zkd_of (rfl : zcd wC 84 = 36) rfl) (Nat.lt_of_le_of_lt (Nat.le_of_eq (zln_of (rfl : zcd wC 84 = 36) rfl)) (by decide)) _ h) (va_cwS 2 hts (z_gS k769 k170 k10 k171) rfl rfl rfl dm_J7_fill_53178.2 ⟨Nat.le_of_ble_eq_true rfl, Nat.le_of_ble_eq_true rfl⟩) ⟨wPre_blind, w_pre hS hK⟩ rfl rfl hl.1 rfl (lv_room (Nat.le_of_ble_eq_true rfl)) dX3_spanFits_5 ⟨Nat.le_refl _, Nat.le_refl _⟩) hS0 (fun M1 H locs h hS hS0 => ?_)
  refine z_iconst hx hb dX3_spanFits_8 ?_
  refine lv_istore_n (lv' := [(2, .int (iI 0)), (0, .ref (b + 82)), (1, .int (iI a0))]) hx hb dX3_spanFits_9 rfl hl (by decide) rfl (fun ls hl => ?_)
  obtain ⟨I4, ⟨n5, h6⟩, h7⟩ := h
  have L8 : ∀ (n9 : Nat) (x2 : Int) (M3 : zM) (H : Heap) (locs : List Loc) (ls : Array Slot), I4 n9 x2 M3 → zR D dA vwCl wC nC b M3 H → va_S (zA nC b) s.heap H locs → lv_has ls 4 [(0, .ref (b + 82)), (1, .int (iI a0)), (2, .int (iI x2))] → W p l e (headSpec (.code yX3_spanFits cX3_spanFits 4 (some .boolean) :: zt) (z_rm 1)).room s m args below meth c H locs 0 0 (MQ below (va_Qi (wQz Q) (zB D dA vwCl wC nC b) (zA nC b)) args s 0 0 (zA nC b)) (F0 m 10 ls []) := by
    intro n9
    induction n9 using Nat.strongRecOn with
    | ind n9 i10 =>
      intro x2 M3 H locs ls h hS hS0 hl
      have h := h7 n9 x2 M3 h
      refine lv_iload_n hx hb dX3_spanFits_10 rfl (lv_at hl 2 rfl) ?_
      refine lv_aload_n hx hb dX3_spanFits_11 rfl (lv_at hl 0 rfl) ?_
      refine w_geti hx hb hts (z_memU u3) hown hK.1 hS f3_1 (by decide) (zkd_of (rfl : zcd wC 82 = 34) rfl) (Or.inl (hts _ (z_mem k196))) dX3_spanFits_12 ?_
      refine w_icmp_ge (tgt := 83) hx hb rfl rfl dX3_spanFits_15 (by decide) (fun c11 => ?_) (fun c11 => ?_)
      · skip
        have h := h.1 c11
        refine z_iconst hx hb dX3_spanFits_83 ?_
        exact w_zret hx hb hr hlocks hS hS0 (sI_of (by decide)) (by decide) h dX3_spanFits_84
      · skip
        have h := h.2 c11
        refine lv_iload_n hx hb dX3_spanFits_18 rfl (lv_at hl 2 rfl) ?_
        refine w_i2l hx hb rfl dX3_spanFits_19 ?_
        refine lv_iload_n hx hb dX3_spanFits_20 rfl (lv_at hl 1 rfl) ?_
        refine w_calli (va_runSN (As := [.long (iL (sI x2)), .int (iI a0)]) (rest := []) ⟨hx, hb, hml, hown, hts⟩ (cC_by l D dA b M3 (sI x2) a0 _ h) ⟨va_cnB 2 hts (z_gN k406) rfl rfl rfl (hK.2 (RX3, 35, yX11_by, RX11) (List.mem_of_getElem? (i := 17) rfl)) (hts _ (z_mem k1)) dm_X11_by.2 ⟨Nat.le_of_ble_eq_true rfl, Nat.le_of_ble_eq_true rfl⟩, (hts _ (z_mem k405)), trivial⟩ ⟨wPre_blind, w_pre hS hK⟩ rfl rfl hl.1 rfl (lv_room (Nat.le_of_ble_eq_true rfl)) dX3_spanFits_21 ⟨Nat.le_refl _, Nat.le_refl _⟩) hS0 (fun z13 M12 H locs r14 h hS hS0 => ?_)
        obtain ⟨e15, h⟩ := h
        rw [e15] at hS
        refine lv_istore_n (lv' := [(3, .int (iI z13)), (0, .ref (b + 82)), (1, .int (iI a0)), (2, .int (iI x2))]) hx hb dX3_spanFits_24 rfl hl (by decide) rfl (fun ls hl => ?_)
        refine lv_aload_n hx hb dX3_spanFits_25 rfl (lv_at hl 1 rfl) ?_
        refine w_getr (j2 := 84) hx hb hts (z_memU u3) hown hK.1 hS f3_2 (by decide) (zkd_of (rfl : zcd wC 82 = 34) rfl) (zrf_of (rfl : zcd wC 82 = 34) rfl) (Or.inl (hts _ (z_mem k198))) dX3_spanFits_26 ?_
        refine lv_iload_n hx hb dX3_spanFits_29 rfl (lv_at hl 0 rfl) ?_
        obtain ⟨o16, h⟩ := h
        refine w_iald (n := 24) (i := z13) hx hb hK.1 (t0 := 0) rfl hS (by decide) (zkd_of (rfl : zcd wC 84 = 36) rfl) (zln_of (rfl : zcd wC 84 = 36) rfl) (sI_of r14) o16.1 o16.2 (by decide) dX3_spanFits_30 ?_
        refine z_iconst hx hb dX3_spanFits_31 ?_
        refine w_icmp_ne (tgt := 50) hx hb rfl (sI_of (by decide)) dX3_spanFits_32 (by decide) (fun c17 => ?_) (fun c17 => ?_)
        · skip
          have h := h.1 c17
          refine lv_aload_n hx hb dX3_spanFits_50 rfl (lv_at hl 1 rfl) ?_
          refine w_getr (j2 := 83) hx hb hts (z_memU u3) hown hK.1 hS f3_0 (by decide) (zkd_of (rfl : zcd wC 82 = 34) rfl) (zrf_of (rfl : zcd wC 82 = 34) rfl) (Or.inl (hts _ (z_mem k195))) dX3_spanFits_51 ?_
          refine lv_iload_n hx hb dX3_spanFits_54 rfl (lv_at hl 3 rfl) ?_
          obtain ⟨o18, h⟩ := h
          refine w_iald (n := 60) (i := (sI x2)) hx hb hK.1 (t0 := 0) rfl hS (by decide) (zkd_of (rfl : zcd wC 83 = 35) rfl) (zln_of (rfl : zcd wC 83 = 35) rfl) rfl o18.1 o18.2 (by decide) dX3_spanFits_55 ?_
          refine z_iconst hx hb dX3_spanFits_56 ?_
          refine w_icmp_eq (tgt := 77) hx hb rfl (sI_of (by decide)) dX3_spanFits_57 (by decide) (fun c19 => ?_) (fun c19 => ?_)
          · skip
            have h := h.1 c19
            refine z_iinc (lv' := [(2, .int (iI (x2 + 1))), (3, .int (iI z13)), (0, .ref (b + 82)), (1, .int (iI a0))]) hx hb dX3_spanFits_77 hl (k := 3) rfl (by decide) rfl (fun ls hl => ?_)
            refine lv_goto (tgt := 10) hx hb dX3_spanFits_80 (by decide) ?_
            obtain ⟨n20, h21, h⟩ := h
            exact i10 n20 h21 (x2 + 1) M3 _ _ _ h hS hS0 (lv_sub hl [2, 3, 0] rfl)
          · skip
            have h := h.2 c19
            refine lv_aload_n hx hb dX3_spanFits_60 rfl (lv_at hl 1 rfl) ?_
            refine w_getr (j2 := 83) hx hb hts (z_memU u3) hown hK.1 hS f3_0 (by decide) (zkd_of (rfl : zcd wC 82 = 34) rfl) (zrf_of (rfl : zcd wC 82 = 34) rfl) (Or.inl (hts _ (z_mem k195))) dX3_spanFits_61 ?_
            refine lv_iload_n hx hb dX3_spanFits_64 rfl (lv_at hl 3 rfl) ?_
            obtain ⟨o22, h⟩ := h
            refine w_iald (n := 60) (i := (sI x2)) hx hb hK.1 (t0 := 0) rfl hS (by decide) (zkd_of (rfl : zcd wC 83 = 35) rfl) (zln_of (rfl : zcd wC 83 = 35) rfl) rfl o22.1 o22.2 (by decide) dX3_spanFits_65 ?_
            refine lv_aload_n hx hb dX3_spanFits_66 rfl (lv_at hl 1 rfl) ?_
            refine w_getr (j2 := 84) hx hb hts (z_memU u3) hown hK.1 hS f3_2 (by decide) (zkd_of (rfl : zcd wC 82 = 34) rfl) (zrf_of (rfl : zcd wC 82 = 34) rfl) (Or.inl (hts _ (z_mem k198))) dX3_spanFits_67 ?_
            refine lv_iload_n hx hb dX3_spanFits_70 rfl (lv_at hl 0 rfl) ?_
            obtain ⟨o23, h⟩ := h
            refine w_iald (n := 24) (i := z13) hx hb hK.1 (t0 := 0) rfl hS (by decide) (zkd_of (rfl : zcd wC 84 = 36) rfl) (zln_of (rfl : zcd wC 84 = 36) rfl) (sI_of r14) o23.1 o23.2 (by decide) dX3_spanFits_71 ?_
            refine w_icmp_eq (tgt := 77) hx hb rfl rfl dX3_spanFits_72 (by decide) (fun c24 => ?_) (fun c24 => ?_)
            · skip
              have h := h.1 c24
              refine z_iinc (lv' := [(2, .int (iI (x2 + 1))), (3, .int (iI z13)), (0, .ref (b + 82)), (1, .int (iI a0))]) hx hb dX3_spanFits_77 hl (k := 3) rfl (by decide) rfl (fun ls hl => ?_)
              refine lv_goto (tgt := 10) hx hb dX3_spanFits_80 (by decide) ?_
              obtain ⟨n25, h26, h⟩ := h
              exact i10 n25 h26 (x2 + 1) M3 _ _ _ h hS hS0 (lv_sub hl [2, 3, 0] rfl)
            · skip
              have h := h.2 c24
              refine z_iconst hx hb dX3_spanFits_75 ?_
              exact w_zret hx hb hr hlocks hS hS0 (sI_of (by decide)) (by decide) h dX3_spanFits_76
        · skip
          have h := h.2 c17
          refine lv_aload_n hx hb dX3_spanFits_35 rfl (lv_at hl 1 rfl) ?_
          refine w_getr (j2 := 84) hx hb hts (z_memU u3) hown hK.1 hS f3_2 (by decide) (zkd_of (rfl : zcd wC 82 = 34) rfl) (zrf_of (rfl : zcd wC 82 = 34) rfl) (Or.inl (hts _ (z_mem k198))) dX3_spanFits_36 ?_
          refine lv_iload_n hx hb dX3_spanFits_39 rfl (lv_at hl 0 rfl) ?_
          refine lv_aload_n hx hb dX3_spanFits_40 rfl (lv_at hl 1 rfl) ?_
          refine w_getr (j2 := 83) hx hb hts (z_memU u3) hown hK.1 hS f3_0 (by decide) (zkd_of (rfl : zcd wC 82 = 34) rfl) (zrf_of (rfl : zcd wC 82 = 34) rfl) (Or.inl (hts _ (z_mem k195))) dX3_spanFits_41 ?_
          refine lv_iload_n hx hb dX3_spanFits_44 rfl (lv_at hl 3 rfl) ?_
          obtain ⟨o27, h⟩ := h
          refine w_iald (n := 60) (i := (sI x2)) hx hb hK.1 (t0 := 0) rfl hS (by decide) (zkd_of (rfl : zcd wC 83 = 35) rfl) (zln_of (rfl : zcd wC 83 = 35) rfl) rfl o27.1 o27.2 (by decide) dX3_spanFits_45 ?_
          obtain ⟨o28, h⟩ := h
          refine w_iast (z := (M3 83 (sI x2).toNat)) (n := 24) (i := z13) hx hb hK.1 (t0 := 0) rfl hS hS0 (by decide) (zkd_of (rfl : zcd wC 84 = 36) rfl) (zln_of (rfl : zcd wC 84 = 36) rfl) (sI_of r14) o28.1 o28.2 (by decide) dX3_spanFits_46 (fun H locs hS hS0 => ?_)
          obtain ⟨M29, e30⟩ : ∃ M29 : zM, M29 = zup M3 84 z13.toNat (M3 83 (sI x2).toNat) := ⟨_, rfl⟩
          rw [← e30] at hS
          have h := h M29 e30
          refine lv_goto (tgt := 77) hx hb dX3_spanFits_47 (by decide) ?_
          refine z_iinc (lv' := [(2, .int (iI (x2 + 1))), (3, .int (iI z13)), (0, .ref (b + 82)), (1, .int (iI a0))]) hx hb dX3_spanFits_77 hl (k := 3) rfl (by decide) rfl (fun ls hl => ?_)
          refine lv_goto (tgt := 10) hx hb dX3_spanFits_80 (by decide) ?_
          obtain ⟨n31, h32, h⟩ := h
          exact i10 n31 h32 (x2 + 1) M29 _ _ _ h hS hS0 (lv_sub hl [2, 3, 0] rfl)
  exact L8 n5 0 M1 _ _ _ h6 hS hS0 (lv_sub hl [1, 2, 0] rfl)

set_option maxRecDepth 100000 in
def wC_OldTape_spanNumber (a0 : Int) (M : zM) (Q : Int → zM → Prop) : Prop := wL2 (fun K4 x1 x2 M3 => (24 < (sI x2) → Q (-1) M3) ∧ ((sI x2) ≤ 24 → wC_OldTape_spanFits x2 M3 (fun z13 M12 => (z13 = 0 → K4 x1 (x2 + 1) M12) ∧ (z13 ≠ 0 → ((sI x1) ≠ (sI a0) → K4 (x1 + 1) (x2 + 1) M12) ∧ ((sI x1) = (sI a0) → Q (sI x2) M12))))) 0 1 M
set_option maxHeartbeats 4000000 in
set_option maxRecDepth 100000 in
theorem cC_OldTape_spanNumber (l : Launch) (D : va_G) (dA : Nat → ClassId) (b : Nat) (M : zM) (a0 : Int)  (Q : Int → zM → Prop) (h : wC_OldTape_spanNumber a0 M Q) : Met l yX3_spanNumber (.code yX3_spanNumber cX3_spanNumber 4 (some .int) :: zt) (z_rm 2) (va_Pc [.ref (b + 82), .int (iI a0)] (wPre D dA vwCl (z_tys dA) wC nC b M)) (va_Qi (wQi Q) (zB D dA vwCl wC nC b) (zA nC b)) 0 0 (zA nC b) := by
  unfold wC_OldTape_spanNumber at h
  refine Met.ofW (cc := cX3_spanNumber) (maxL := 4) (ret := (some .int)) (by decide) rfl ?_
  intro p e s m args below meth c s₁ B hml hv
  obtain ⟨hargs, hS, hK⟩ := hv
  have hx := B.exec
  have hb := B.bytes
  have hr := B.returns
  have hts := atoms_spec (ws := .code yX3_spanNumber cX3_spanNumber 4 (some .int) :: zt) B.pre
  have hown : s.vm.findClass RX3 = some m.cls := findClass_of_methodNamed B.named
  have hlocks := B.notSynchronized
  have hS0 : va_S (zA nC b) s.heap s.heap [] := va_S.rf
  have hl := lv_entry ([.ref (b + 82), .int (iI a0)]) (n := 4) (Nat.le_of_ble_eq_true rfl)
  have hent : entryFrame m args 4 = F0 m 0 ((lg_sl ([.ref (b + 82), .int (iI a0)]) ++ List.replicate (4 - (lg_sl ([.ref (b + 82), .int (iI a0)])).length) Slot.unset).toArray) [] := by rw [hargs]; exact lg_entry_eq m ([.ref (b + 82), .int (iI a0)]) 4
  rw [hent]
  generalize (lg_sl ([.ref (b + 82), .int (iI a0)]) ++ List.replicate (4 - (lg_sl ([.ref (b + 82), .int (iI a0)])).length) Slot.unset).toArray = ls at hl ⊢
  have hl : lv_has ls 4 [(0, .ref (b + 82)), (1, .int (iI a0))] := hl
  refine z_iconst hx hb dX3_spanNumber_0 ?_
  refine lv_istore_n (lv' := [(2, .int (iI 0)), (0, .ref (b + 82)), (1, .int (iI a0))]) hx hb dX3_spanNumber_1 rfl hl (by decide) rfl (fun ls hl => ?_)
  refine z_iconst hx hb dX3_spanNumber_2 ?_
  refine lv_istore_n (lv' := [(3, .int (iI 1)), (2, .int (iI 0)), (0, .ref (b + 82)), (1, .int (iI a0))]) hx hb dX3_spanNumber_3 rfl hl (by decide) rfl (fun ls hl => ?_)
  obtain ⟨I4, ⟨n5, h6⟩, h7⟩ := h
  have L8 : ∀ (n9 : Nat) (x1 x2 : Int) (M3 : zM) (H : Heap) (locs : List Loc) (ls : Array Slot), I4 n9 x1 x2 M3 → zR D dA vwCl wC nC b M3 H → va_S (zA nC b) s.heap H locs → lv_has ls 4 [(0, .ref (b + 82)), (1, .int (iI a0)), (2, .int (iI x1)), (3, .int (iI x2))] → W p l e (headSpec (.code yX3_spanNumber cX3_spanNumber 4 (some .int) :: zt) (z_rm 2)).room s m args below meth c H locs 0 0 (MQ below (va_Qi (wQi Q) (zB D dA vwCl wC nC b) (zA nC b)) args s 0 0 (zA nC b)) (F0 m 4 ls []) := by
    intro n9
    induction n9 using Nat.strongRecOn with
    | ind n9 i10 =>
      intro x1 x2 M3 H locs ls h hS hS0 hl
      have h := h7 n9 x1 x2 M3 h
      refine lv_iload_n hx hb dX3_spanNumber_4 rfl (lv_at hl 3 rfl) ?_
      refine z_bipush hx hb (by decide) dX3_spanNumber_5 ?_
      refine w_icmp_gt (tgt := 34) hx hb rfl (sI_of (by decide)) dX3_spanNumber_7 (by decide) (fun c11 => ?_) (fun c11 => ?_)
      · skip
        have h := h.1 c11
        refine z_iconst hx hb dX3_spanNumber_34 ?_
        exact w_iret hx hb hr hlocks hS hS0 (sI_of (by decide)) h dX3_spanNumber_35
      · skip
        have h := h.2 c11
        refine lv_aload_n hx hb dX3_spanNumber_10 rfl (lv_at hl 0 rfl) ?_
        refine lv_iload_n hx hb dX3_spanNumber_11 rfl (lv_at hl 3 rfl) ?_
        refine w_callz (va_runV (As := [.int (iI x2)]) (rest := []) ⟨hx, hb, hml, hown, hts⟩ (cC_OldTape_spanFits l D dA b M3 x2 _ h) (cwV 1 hts (z_gV k766 k767 k1381 k11 k768) rfl rfl rfl dm_X3_spanFits ⟨Nat.le_of_ble_eq_true rfl, Nat.le_of_ble_eq_true rfl⟩) ⟨wPre_blind, (w_recv hS hK.1 (by decide) (zkd_of (rfl : zcd wC 82 = 34) rfl) (by decide) (rfl : vwCl[3]? = some (RX3, TX3, 4))), w_pre hS hK⟩ rfl rfl hl.1 rfl (lv_room (Nat.le_of_ble_eq_true rfl)) dX3_spanNumber_12 ⟨Nat.le_refl _, Nat.le_refl _⟩) hS0 (fun z13 M12 H locs r14 h hS hS0 => ?_)
        refine w_if_eq (tgt := 28) hx hb (sI_01 r14) dX3_spanNumber_15 (by decide) (fun c15 => ?_) (fun c15 => ?_)
        · skip
          have h := h.1 c15
          refine z_iinc (lv' := [(3, .int (iI (x2 + 1))), (0, .ref (b + 82)), (1, .int (iI a0)), (2, .int (iI x1))]) hx hb dX3_spanNumber_28 hl (k := 3) rfl (by decide) rfl (fun ls hl => ?_)
          refine lv_goto (tgt := 4) hx hb dX3_spanNumber_31 (by decide) ?_
          obtain ⟨n16, h17, h⟩ := h
          exact i10 n16 h17 x1 (x2 + 1) M12 _ _ _ h hS hS0 (lv_sub hl [1, 2, 3, 0] rfl)
        · skip
          have h := h.2 c15
          refine lv_iload_n hx hb dX3_spanNumber_18 rfl (lv_at hl 2 rfl) ?_
          refine lv_iload_n hx hb dX3_spanNumber_19 rfl (lv_at hl 1 rfl) ?_
          refine w_icmp_ne (tgt := 25) hx hb rfl rfl dX3_spanNumber_20 (by decide) (fun c18 => ?_) (fun c18 => ?_)
          · skip
            have h := h.1 c18
            refine z_iinc (lv' := [(2, .int (iI (x1 + 1))), (0, .ref (b + 82)), (1, .int (iI a0)), (3, .int (iI x2))]) hx hb dX3_spanNumber_25 hl (k := 2) rfl (by decide) rfl (fun ls hl => ?_)
            refine z_iinc (lv' := [(3, .int (iI (x2 + 1))), (2, .int (iI (x1 + 1))), (0, .ref (b + 82)), (1, .int (iI a0))]) hx hb dX3_spanNumber_28 hl (k := 3) rfl (by decide) rfl (fun ls hl => ?_)
            refine lv_goto (tgt := 4) hx hb dX3_spanNumber_31 (by decide) ?_
            obtain ⟨n19, h20, h⟩ := h
            exact i10 n19 h20 (x1 + 1) (x2 + 1) M12 _ _ _ h hS hS0 (lv_sub hl [2, 3, 1, 0] rfl)
          · skip
            have h := h.2 c18
            refine lv_iload_n hx hb dX3_spanNumber_23 rfl (lv_at hl 3 rfl) ?_
            exact w_iret hx hb hr hlocks hS hS0 rfl h dX3_spanNumber_24
  exact L8 n5 0 1 M _ _ _ h6 hS hS0 (lv_sub hl [2, 3, 1, 0] rfl)

set_option maxRecDepth 100000 in
def wC_span (a0 : Int) (M : zM) (Q : Int → zM → Prop) : Prop := wC_OldTape_spanNumber a0 M (fun z2 M1 => Q z2 M1)
set_option maxHeartbeats 4000000 in
set_option maxRecDepth 100000 in
theorem cC_span (l : Launch) (D : va_G) (dA : Nat → ClassId) (b : Nat) (M : zM) (a0 : Int)  (Q : Int → zM → Prop) (h : wC_span a0 M Q) : Met l yX11_span (.code yX11_span cX11_span 2 (some .int) :: zt) (z_rm 3) (va_Pc [.ref (b + 0), .int (iI a0)] (wPre D dA vwCl (z_tys dA) wC nC b M)) (va_Qi (wQi Q) (zB D dA vwCl wC nC b) (zA nC b)) 0 0 (zA nC b) := by
  unfold wC_span at h
  refine Met.ofW (cc := cX11_span) (maxL := 2) (ret := (some .int)) (by decide) rfl ?_
  intro p e s m args below meth c s₁ B hml hv
  obtain ⟨hargs, hS, hK⟩ := hv
  have hx := B.exec
  have hb := B.bytes
  have hr := B.returns
  have hts := atoms_spec (ws := .code yX11_span cX11_span 2 (some .int) :: zt) B.pre
  have hown : s.vm.findClass RX11 = some m.cls := findClass_of_methodNamed B.named
  have hlocks := B.notSynchronized
  have hS0 : va_S (zA nC b) s.heap s.heap [] := va_S.rf
  have hl := lv_entry ([.ref (b + 0), .int (iI a0)]) (n := 2) (Nat.le_of_ble_eq_true rfl)
  have hent : entryFrame m args 2 = F0 m 0 ((lg_sl ([.ref (b + 0), .int (iI a0)]) ++ List.replicate (2 - (lg_sl ([.ref (b + 0), .int (iI a0)])).length) Slot.unset).toArray) [] := by rw [hargs]; exact lg_entry_eq m ([.ref (b + 0), .int (iI a0)]) 2
  rw [hent]
  generalize (lg_sl ([.ref (b + 0), .int (iI a0)]) ++ List.replicate (2 - (lg_sl ([.ref (b + 0), .int (iI a0)])).length) Slot.unset).toArray = ls at hl ⊢
  have hl : lv_has ls 2 [(0, .ref (b + 0)), (1, .int (iI a0))] := hl
  refine lv_aload_n hx hb dX11_span_0 rfl (lv_at hl 0 rfl) ?_
  refine w_getr (j2 := 82) hx hb hts (z_memU u11) hown hK.1 hS f11_6 (by decide) (zkd_of (rfl : zcd wC 0 = 0) rfl) (zrf_of (rfl : zcd wC 0 = 0) rfl) (Or.inl (hts _ (z_mem k248))) dX11_span_1 ?_
  refine lv_iload_n hx hb dX11_span_4 rfl (lv_at hl 1 rfl) ?_
  refine w_calli (va_runV (As := [.int (iI a0)]) (rest := []) ⟨hx, hb, hml, hown, hts⟩ (cC_OldTape_spanNumber l D dA b M a0 _ h) (cwV 1 hts (z_gV k762 k763 k764 k11 k765) rfl rfl rfl dm_X3_spanNumber ⟨Nat.le_of_ble_eq_true rfl, Nat.le_of_ble_eq_true rfl⟩) ⟨wPre_blind, (w_recv hS hK.1 (by decide) (zkd_of (rfl : zcd wC 82 = 34) rfl) (by decide) (rfl : vwCl[3]? = some (RX3, TX3, 4))), w_pre hS hK⟩ rfl rfl hl.1 rfl (lv_room (Nat.le_of_ble_eq_true rfl)) dX11_span_5 ⟨Nat.le_refl _, Nat.le_refl _⟩) hS0 (fun z2 M1 H locs r3 h hS hS0 => ?_)
  exact w_iret hx hb hr hlocks hS hS0 (sI_of r3) h dX11_span_8

set_option maxRecDepth 100000 in
def wC_OldTape_makeGreatest (a0 : Nat) (a1 : Int) (M : zM) (Q : zM → Prop) : Prop := wC_fill a0 1022 M (fun M1 => wL1 (fun K9 x2 M3 => ((sI (M3 82 1)) ≤ (sI x2) → Q M3) ∧ ((sI x2) < (sI (M3 82 1)) → ((0 ≤ (sI x2) ∧ (sI x2) < 60) ∧ ((sI (M3 83 (sI x2).toNat)) = (-1) → K9 (x2 + 1) M3) ∧ ((sI (M3 83 (sI x2).toNat)) ≠ (-1) → wC_by (sI x2) a1 M3 (fun z17 => ((0 ≤ z17 ∧ z17 < (zln wC a0)) ∧ ((0 ≤ (sI x2) ∧ (sI x2) < 60) ∧ ((0 ≤ z17 ∧ z17 < (zln wC a0)) ∧ (∀ M23 : zM, M23 = zup M3 a0 z17.toNat (andI (M3 a0 z17.toNat) (M3 83 (sI x2).toNat)) → K9 (x2 + 1) M23))))))))) 0 M1)
set_option maxHeartbeats 4000000 in
set_option maxRecDepth 100000 in
theorem cC_OldTape_makeGreatest (l : Launch) (D : va_G) (dA : Nat → ClassId) (b : Nat) (M : zM) (a0 : Nat) (a1 : Int) (lt_a0 : a0 < nC) (kd_a0 : zkd wC a0 = 100) (ln_a0 : zln wC a0 < 2147483648) (Q : zM → Prop) (h : wC_OldTape_makeGreatest a0 a1 M Q) : Met l yX3_makeGreatest (.code yX3_makeGreatest cX3_makeGreatest 4 none :: zt) (z_rm 1) (va_Pc [.ref (b + 82), .ref (b + a0), .int (iI a1)] (wPre D dA vwCl (z_tys dA) wC nC b M)) (va_Qv (wQv Q) (zB D dA vwCl wC nC b) (zA nC b)) 0 0 (zA nC b) := by
  unfold wC_OldTape_makeGreatest at h
  refine Met.ofW (cc := cX3_makeGreatest) (maxL := 4) (ret := none) (by decide) rfl ?_
  intro p e s m args below meth c s₁ B hml hv
  obtain ⟨hargs, hS, hK⟩ := hv
  have hx := B.exec
  have hb := B.bytes
  have hr := B.returns
  have hts := atoms_spec (ws := .code yX3_makeGreatest cX3_makeGreatest 4 none :: zt) B.pre
  have hown : s.vm.findClass RX3 = some m.cls := findClass_of_methodNamed B.named
  have hlocks := B.notSynchronized
  have hS0 : va_S (zA nC b) s.heap s.heap [] := va_S.rf
  have hl := lv_entry ([.ref (b + 82), .ref (b + a0), .int (iI a1)]) (n := 4) (Nat.le_of_ble_eq_true rfl)
  have hent : entryFrame m args 4 = F0 m 0 ((lg_sl ([.ref (b + 82), .ref (b + a0), .int (iI a1)]) ++ List.replicate (4 - (lg_sl ([.ref (b + 82), .ref (b + a0), .int (iI a1)])).length) Slot.unset).toArray) [] := by rw [hargs]; exact lg_entry_eq m ([.ref (b + 82), .ref (b + a0), .int (iI a1)]) 4
  rw [hent]
  generalize (lg_sl ([.ref (b + 82), .ref (b + a0), .int (iI a1)]) ++ List.replicate (4 - (lg_sl ([.ref (b + 82), .ref (b + a0), .int (iI a1)])).length) Slot.unset).toArray = ls at hl ⊢
  have hl : lv_has ls 4 [(0, .ref (b + 82)), (1, .ref (b + a0)), (2, .int (iI a1))] := hl
  refine lv_aload_n hx hb dX3_makeGreatest_0 rfl (lv_at hl 1 rfl) ?_
  refine z_sipush hx hb (by decide) dX3_makeGreatest_1 ?_
  refine w_callv (va_runS (As := [.ref (b + a0), .int (iI 1022)]) (rest := []) ⟨hx, hb, hml, hown, hts⟩ (cC_fill l D dA b M a0 1022 lt_a0 kd_a0 ln_a0 _ h) (va_cwS 2 hts (z_gS k769 k170 k10 k171) rfl rfl rfl dm_J7_fill_53178.2 ⟨Nat.le_of_ble_eq_true rfl, Nat.le_of_ble_eq_true rfl⟩) ⟨wPre_blind, w_pre hS hK⟩ rfl rfl hl.1 rfl (lv_room (Nat.le_of_ble_eq_true rfl)) dX3_makeGreatest_4 ⟨Nat.le_refl _, Nat.le_refl _⟩) hS0 (fun M1 H locs h hS hS0 => ?_)
  refine z_iconst hx hb dX3_makeGreatest_7 ?_
  refine lv_istore_n (lv' := [(3, .int (iI 0)), (0, .ref (b + 82)), (1, .ref (b + a0)), (2, .int (iI a1))]) hx hb dX3_makeGreatest_8 rfl hl (by decide) rfl (fun ls hl => ?_)
  obtain ⟨I4, ⟨n5, h6⟩, h7⟩ := h
  have L8 : ∀ (n9 : Nat) (x2 : Int) (M3 : zM) (H : Heap) (locs : List Loc) (ls : Array Slot), I4 n9 x2 M3 → zR D dA vwCl wC nC b M3 H → va_S (zA nC b) s.heap H locs → lv_has ls 4 [(0, .ref (b + 82)), (1, .ref (b + a0)), (2, .int (iI a1)), (3, .int (iI x2))] → W p l e (headSpec (.code yX3_makeGreatest cX3_makeGreatest 4 none :: zt) (z_rm 1)).room s m args below meth c H locs 0 0 (MQ below (va_Qv (wQv Q) (zB D dA vwCl wC nC b) (zA nC b)) args s 0 0 (zA nC b)) (F0 m 9 ls []) := by
    intro n9
    induction n9 using Nat.strongRecOn with
    | ind n9 i10 =>
      intro x2 M3 H locs ls h hS hS0 hl
      have h := h7 n9 x2 M3 h
      refine lv_iload_n hx hb dX3_makeGreatest_9 rfl (lv_at hl 3 rfl) ?_
      refine lv_aload_n hx hb dX3_makeGreatest_10 rfl (lv_at hl 0 rfl) ?_
      refine w_geti hx hb hts (z_memU u3) hown hK.1 hS f3_1 (by decide) (zkd_of (rfl : zcd wC 82 = 34) rfl) (Or.inl (hts _ (z_mem k196))) dX3_makeGreatest_11 ?_
      refine w_icmp_ge (tgt := 50) hx hb rfl rfl dX3_makeGreatest_14 (by decide) (fun c11 => ?_) (fun c11 => ?_)
      · skip
        have h := h.1 c11
        exact w_vret hx hb hr hlocks hS hS0 h dX3_makeGreatest_50
      · skip
        have h := h.2 c11
        refine lv_aload_n hx hb dX3_makeGreatest_17 rfl (lv_at hl 0 rfl) ?_
        refine w_getr (j2 := 83) hx hb hts (z_memU u3) hown hK.1 hS f3_0 (by decide) (zkd_of (rfl : zcd wC 82 = 34) rfl) (zrf_of (rfl : zcd wC 82 = 34) rfl) (Or.inl (hts _ (z_mem k195))) dX3_makeGreatest_18 ?_
        refine lv_iload_n hx hb dX3_makeGreatest_21 rfl (lv_at hl 3 rfl) ?_
        obtain ⟨o12, h⟩ := h
        refine w_iald (n := 60) (i := (sI x2)) hx hb hK.1 (t0 := 0) rfl hS (by decide) (zkd_of (rfl : zcd wC 83 = 35) rfl) (zln_of (rfl : zcd wC 83 = 35) rfl) rfl o12.1 o12.2 (by decide) dX3_makeGreatest_22 ?_
        refine z_iconst hx hb dX3_makeGreatest_23 ?_
        refine w_icmp_eq (tgt := 44) hx hb rfl (sI_of (by decide)) dX3_makeGreatest_24 (by decide) (fun c13 => ?_) (fun c13 => ?_)
        · skip
          have h := h.1 c13
          refine z_iinc (lv' := [(3, .int (iI (x2 + 1))), (0, .ref (b + 82)), (1, .ref (b + a0)), (2, .int (iI a1))]) hx hb dX3_makeGreatest_44 hl (k := 3) rfl (by decide) rfl (fun ls hl => ?_)
          refine lv_goto (tgt := 9) hx hb dX3_makeGreatest_47 (by decide) ?_
          obtain ⟨n14, h15, h⟩ := h
          exact i10 n14 h15 (x2 + 1) M3 _ _ _ h hS hS0 (lv_sub hl [1, 2, 3, 0] rfl)
        · skip
          have h := h.2 c13
          refine lv_aload_n hx hb dX3_makeGreatest_27 rfl (lv_at hl 1 rfl) ?_
          refine lv_iload_n hx hb dX3_makeGreatest_28 rfl (lv_at hl 3 rfl) ?_
          refine w_i2l hx hb rfl dX3_makeGreatest_29 ?_
          refine lv_iload_n hx hb dX3_makeGreatest_30 rfl (lv_at hl 2 rfl) ?_
          refine w_calli (va_runSN (As := [.long (iL (sI x2)), .int (iI a1)]) (rest := [.ref (b + a0)]) ⟨hx, hb, hml, hown, hts⟩ (cC_by l D dA b M3 (sI x2) a1 _ h) ⟨va_cnB 2 hts (z_gN k406) rfl rfl rfl (hK.2 (RX3, 35, yX11_by, RX11) (List.mem_of_getElem? (i := 17) rfl)) (hts _ (z_mem k1)) dm_X11_by.2 ⟨Nat.le_of_ble_eq_true rfl, Nat.le_of_ble_eq_true rfl⟩, (hts _ (z_mem k405)), trivial⟩ ⟨wPre_blind, w_pre hS hK⟩ rfl rfl hl.1 rfl (lv_room (Nat.le_of_ble_eq_true rfl)) dX3_makeGreatest_31 ⟨Nat.le_refl _, Nat.le_refl _⟩) hS0 (fun z17 M16 H locs r18 h hS hS0 => ?_)
          obtain ⟨e19, h⟩ := h
          rw [e19] at hS
          refine lv_dup2_11 hx hb dX3_makeGreatest_34 rfl rfl ?_
          obtain ⟨o20, h⟩ := h
          refine w_iald (n := (zln wC a0)) (i := z17) hx hb hK.1 (t0 := 0) rfl hS lt_a0 kd_a0 rfl (sI_of r18) o20.1 o20.2 ln_a0 dX3_makeGreatest_35 ?_
          refine lv_aload_n hx hb dX3_makeGreatest_36 rfl (lv_at hl 0 rfl) ?_
          refine w_getr (j2 := 83) hx hb hts (z_memU u3) hown hK.1 hS f3_0 (by decide) (zkd_of (rfl : zcd wC 82 = 34) rfl) (zrf_of (rfl : zcd wC 82 = 34) rfl) (Or.inl (hts _ (z_mem k195))) dX3_makeGreatest_37 ?_
          refine lv_iload_n hx hb dX3_makeGreatest_40 rfl (lv_at hl 3 rfl) ?_
          obtain ⟨o21, h⟩ := h
          refine w_iald (n := 60) (i := (sI x2)) hx hb hK.1 (t0 := 0) rfl hS (by decide) (zkd_of (rfl : zcd wC 83 = 35) rfl) (zln_of (rfl : zcd wC 83 = 35) rfl) rfl o21.1 o21.2 (by decide) dX3_makeGreatest_41 ?_
          refine w_iand hx hb dX3_makeGreatest_42 ?_
          obtain ⟨o22, h⟩ := h
          refine w_iast (z := (andI (M3 a0 z17.toNat) (M3 83 (sI x2).toNat))) (n := (zln wC a0)) (i := z17) hx hb hK.1 (t0 := 0) rfl hS hS0 lt_a0 kd_a0 rfl (sI_of r18) o22.1 o22.2 ln_a0 dX3_makeGreatest_43 (fun H locs hS hS0 => ?_)
          obtain ⟨M23, e24⟩ : ∃ M23 : zM, M23 = zup M3 a0 z17.toNat (andI (M3 a0 z17.toNat) (M3 83 (sI x2).toNat)) := ⟨_, rfl⟩
          rw [← e24] at hS
          have h := h M23 e24
          refine z_iinc (lv' := [(3, .int (iI (x2 + 1))), (0, .ref (b + 82)), (1, .ref (b + a0)), (2, .int (iI a1))]) hx hb dX3_makeGreatest_44 hl (k := 3) rfl (by decide) rfl (fun ls hl => ?_)
          refine lv_goto (tgt := 9) hx hb dX3_makeGreatest_47 (by decide) ?_
          obtain ⟨n25, h26, h⟩ := h
          exact i10 n25 h26 (x2 + 1) M23 _ _ _ h hS hS0 (lv_sub hl [1, 2, 3, 0] rfl)
  exact L8 n5 0 M1 _ _ _ h6 hS hS0 (lv_sub hl [1, 2, 3, 0] rfl)
