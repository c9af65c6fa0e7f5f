theorem dJ7_fill_53178_0 : decode cJ7_fill_53178 0 = .ok (.iconst 0, 1) := by decide +kernel
theorem dJ7_fill_53178_1 : decode cJ7_fill_53178 1 = .ok (.istore_n 2, 1) := by decide +kernel
theorem dJ7_fill_53178_10 : decode cJ7_fill_53178 10 = .ok (.aload_n 0, 1) := by decide +kernel
theorem dJ7_fill_53178_11 : decode cJ7_fill_53178 11 = .ok (.iload_n 2, 1) := by decide +kernel
theorem dJ7_fill_53178_12 : decode cJ7_fill_53178 12 = .ok (.iload_n 1, 1) := by decide +kernel
theorem dJ7_fill_53178_13 : decode cJ7_fill_53178 13 = .ok (.iastore, 1) := by decide +kernel
theorem dJ7_fill_53178_14 : decode cJ7_fill_53178 14 = .ok (.iinc 2 1, 3) := by decide +kernel
theorem dJ7_fill_53178_17 : decode cJ7_fill_53178 17 = .ok (.goto (-12), 3) := by decide +kernel
theorem dJ7_fill_53178_2 : decode cJ7_fill_53178 2 = .ok (.aload_n 0, 1) := by decide +kernel
theorem dJ7_fill_53178_20 : decode cJ7_fill_53178 20 = .ok (.return_, 1) := by decide +kernel
theorem dJ7_fill_53178_3 : decode cJ7_fill_53178 3 = .ok (.arraylength, 1) := by decide +kernel
theorem dJ7_fill_53178_4 : decode cJ7_fill_53178 4 = .ok (.istore_n 3, 1) := by decide +kernel
theorem dJ7_fill_53178_5 : decode cJ7_fill_53178 5 = .ok (.iload_n 2, 1) := by decide +kernel
theorem dJ7_fill_53178_6 : decode cJ7_fill_53178 6 = .ok (.iload_n 3, 1) := by decide +kernel
theorem dJ7_fill_53178_7 : decode cJ7_fill_53178 7 = .ok (.if_icmp .ge 13, 3) := by decide +kernel
theorem dX0_behind_0 : decode cX0_behind 0 = .ok (.aload_n 0, 1) := by decide +kernel
theorem dX0_behind_1 : decode cX0_behind 1 = .ok (.iload_n 1, 1) := by decide +kernel
theorem dX0_behind_10 : decode cX0_behind 10 = .ok (.ireturn, 1) := by decide +kernel
theorem dX0_behind_2 : decode cX0_behind 2 = .ok (.invokevirtual 62, 3) := by decide +kernel
theorem dX0_behind_5 : decode cX0_behind 5 = .ok (.iload_n 2, 1) := by decide +kernel
theorem dX0_behind_6 : decode cX0_behind 6 = .ok (.imul, 1) := by decide +kernel
theorem dX0_behind_7 : decode cX0_behind 7 = .ok (.bipush 100, 2) := by decide +kernel
theorem dX0_behind_9 : decode cX0_behind 9 = .ok (.idiv, 1) := by decide +kernel
theorem dX0_fate_0 : decode cX0_fate 0 = .ok (.aload_n 0, 1) := by decide +kernel
theorem dX0_fate_1 : decode cX0_fate 1 = .ok (.aload_n 1, 1) := by decide +kernel
theorem dX0_fate_12 : decode cX0_fate 12 = .ok (.istore_n 2, 1) := by decide +kernel
theorem dX0_fate_13 : decode cX0_fate 13 = .ok (.iload_n 2, 1) := by decide +kernel
theorem dX0_fate_14 : decode cX0_fate 14 = .ok (.iconst (-1), 1) := by decide +kernel
theorem dX0_fate_15 : decode cX0_fate 15 = .ok (.if_icmp .eq 5, 3) := by decide +kernel
theorem dX0_fate_18 : decode cX0_fate 18 = .ok (.iload_n 2, 1) := by decide +kernel
theorem dX0_fate_19 : decode cX0_fate 19 = .ok (.ireturn, 1) := by decide +kernel
theorem dX0_fate_2 : decode cX0_fate 2 = .ok (.sipush 4000, 3) := by decide +kernel
theorem dX0_fate_5 : decode cX0_fate 5 = .ok (.invokevirtual 65, 3) := by decide +kernel
theorem dX0_fate_8 : decode cX0_fate 8 = .ok (.aload_n 0, 1) := by decide +kernel
theorem dX0_fate_9 : decode cX0_fate 9 = .ok (.invokevirtual 69, 3) := by decide +kernel
theorem dX0_firstSilence_0 : decode cX0_firstSilence 0 = .ok (.iconst 0, 1) := by decide +kernel
theorem dX0_firstSilence_1 : decode cX0_firstSilence 1 = .ok (.istore_n 1, 1) := by decide +kernel
theorem dX0_firstSilence_11 : decode cX0_firstSilence 11 = .ok (.if_icmp .gt 38, 3) := by decide +kernel
theorem dX0_firstSilence_14 : decode cX0_firstSilence 14 = .ok (.aload_n 0, 1) := by decide +kernel
theorem dX0_firstSilence_15 : decode cX0_firstSilence 15 = .ok (.iload_n 2, 1) := by decide +kernel
theorem dX0_firstSilence_16 : decode cX0_firstSilence 16 = .ok (.invokevirtual 62, 3) := by decide +kernel
theorem dX0_firstSilence_19 : decode cX0_firstSilence 19 = .ok (.ifCond .ne 9, 3) := by decide +kernel
theorem dX0_firstSilence_2 : decode cX0_firstSilence 2 = .ok (.aload_n 0, 1) := by decide +kernel
theorem dX0_firstSilence_22 : decode cX0_firstSilence 22 = .ok (.iload_n 1, 1) := by decide +kernel
theorem dX0_firstSilence_23 : decode cX0_firstSilence 23 = .ok (.iconst 1, 1) := by decide +kernel
theorem dX0_firstSilence_24 : decode cX0_firstSilence 24 = .ok (.iadd, 1) := by decide +kernel
theorem dX0_firstSilence_25 : decode cX0_firstSilence 25 = .ok (.goto 4, 3) := by decide +kernel
theorem dX0_firstSilence_29 : decode cX0_firstSilence 29 = .ok (.istore_n 1, 1) := by decide +kernel
theorem dX0_firstSilence_3 : decode cX0_firstSilence 3 = .ok (.getfield 9, 3) := by decide +kernel
theorem dX0_firstSilence_30 : decode cX0_firstSilence 30 = .ok (.iload_n 1, 1) := by decide +kernel
theorem dX0_firstSilence_31 : decode cX0_firstSilence 31 = .ok (.bipush 20, 2) := by decide +kernel
theorem dX0_firstSilence_33 : decode cX0_firstSilence 33 = .ok (.if_icmp .ne 10, 3) := by decide +kernel
theorem dX0_firstSilence_36 : decode cX0_firstSilence 36 = .ok (.iload_n 2, 1) := by decide +kernel
theorem dX0_firstSilence_37 : decode cX0_firstSilence 37 = .ok (.bipush 20, 2) := by decide +kernel
theorem dX0_firstSilence_39 : decode cX0_firstSilence 39 = .ok (.isub, 1) := by decide +kernel
theorem dX0_firstSilence_40 : decode cX0_firstSilence 40 = .ok (.iconst 1, 1) := by decide +kernel
theorem dX0_firstSilence_41 : decode cX0_firstSilence 41 = .ok (.iadd, 1) := by decide +kernel
theorem dX0_firstSilence_42 : decode cX0_firstSilence 42 = .ok (.ireturn, 1) := by decide +kernel
theorem dX0_firstSilence_43 : decode cX0_firstSilence 43 = .ok (.iinc 2 1, 3) := by decide +kernel
theorem dX0_firstSilence_46 : decode cX0_firstSilence 46 = .ok (.goto (-39), 3) := by decide +kernel
theorem dX0_firstSilence_6 : decode cX0_firstSilence 6 = .ok (.istore_n 2, 1) := by decide +kernel
theorem dX0_firstSilence_7 : decode cX0_firstSilence 7 = .ok (.iload_n 2, 1) := by decide +kernel
theorem dX0_firstSilence_8 : decode cX0_firstSilence 8 = .ok (.sipush 4000, 3) := by decide +kernel
theorem dX0_outAt_0 : decode cX0_outAt 0 = .ok (.iload_n 1, 1) := by decide +kernel
theorem dX0_outAt_1 : decode cX0_outAt 1 = .ok (.ifCond .lt 21, 3) := by decide +kernel
theorem dX0_outAt_10 : decode cX0_outAt 10 = .ok (.if_icmp .ge 12, 3) := by decide +kernel
theorem dX0_outAt_13 : decode cX0_outAt 13 = .ok (.aload_n 0, 1) := by decide +kernel
theorem dX0_outAt_14 : decode cX0_outAt 14 = .ok (.getfield 34, 3) := by decide +kernel
theorem dX0_outAt_17 : decode cX0_outAt 17 = .ok (.iload_n 1, 1) := by decide +kernel
theorem dX0_outAt_18 : decode cX0_outAt 18 = .ok (.iaload, 1) := by decide +kernel
theorem dX0_outAt_19 : decode cX0_outAt 19 = .ok (.goto 4, 3) := by decide +kernel
theorem dX0_outAt_22 : decode cX0_outAt 22 = .ok (.iconst 0, 1) := by decide +kernel
theorem dX0_outAt_23 : decode cX0_outAt 23 = .ok (.ireturn, 1) := by decide +kernel
theorem dX0_outAt_4 : decode cX0_outAt 4 = .ok (.iload_n 1, 1) := by decide +kernel
theorem dX0_outAt_5 : decode cX0_outAt 5 = .ok (.aload_n 0, 1) := by decide +kernel
theorem dX0_outAt_6 : decode cX0_outAt 6 = .ok (.getfield 34, 3) := by decide +kernel
theorem dX0_outAt_9 : decode cX0_outAt 9 = .ok (.arraylength, 1) := by decide +kernel
theorem dX0_place_0 : decode cX0_place 0 = .ok (.aload_n 0, 1) := by decide +kernel
theorem dX0_place_1 : decode cX0_place 1 = .ok (.iload_n 1, 1) := by decide +kernel
theorem dX0_place_10 : decode cX0_place 10 = .ok (.aload_n 0, 1) := by decide +kernel
theorem dX0_place_11 : decode cX0_place 11 = .ok (.iload_n 3, 1) := by decide +kernel
theorem dX0_place_12 : decode cX0_place 12 = .ok (.putfield 28, 3) := by decide +kernel
theorem dX0_place_15 : decode cX0_place 15 = .ok (.aload_n 0, 1) := by decide +kernel
theorem dX0_place_16 : decode cX0_place 16 = .ok (.iload 4, 2) := by decide +kernel
theorem dX0_place_18 : decode cX0_place 18 = .ok (.putfield 31, 3) := by decide +kernel
theorem dX0_place_2 : decode cX0_place 2 = .ok (.putfield 22, 3) := by decide +kernel
theorem dX0_place_21 : decode cX0_place 21 = .ok (.return_, 1) := by decide +kernel
theorem dX0_place_5 : decode cX0_place 5 = .ok (.aload_n 0, 1) := by decide +kernel
theorem dX0_place_6 : decode cX0_place 6 = .ok (.iload_n 2, 1) := by decide +kernel
theorem dX0_place_7 : decode cX0_place 7 = .ok (.putfield 25, 3) := by decide +kernel
theorem dX0_run_0 : decode cX0_run 0 = .ok (.iconst 0, 1) := by decide +kernel
theorem dX0_run_1 : decode cX0_run 1 = .ok (.istore_n 3, 1) := by decide +kernel
theorem dX0_run_12 : decode cX0_run 12 = .ok (.arraylength, 1) := by decide +kernel
theorem dX0_run_13 : decode cX0_run 13 = .ok (.if_icmp .ge 81, 3) := by decide +kernel
theorem dX0_run_16 : decode cX0_run 16 = .ok (.iload_n 3, 1) := by decide +kernel
theorem dX0_run_17 : decode cX0_run 17 = .ok (.aload_n 0, 1) := by decide +kernel
theorem dX0_run_18 : decode cX0_run 18 = .ok (.getfield 9, 3) := by decide +kernel
theorem dX0_run_2 : decode cX0_run 2 = .ok (.iload_n 3, 1) := by decide +kernel
theorem dX0_run_21 : decode cX0_run 21 = .ok (.if_icmp .ge 16, 3) := by decide +kernel
theorem dX0_run_3 : decode cX0_run 3 = .ok (.iload_n 2, 1) := by decide +kernel
theorem dX0_run_37 : decode cX0_run 37 = .ok (.iconst 0, 1) := by decide +kernel
theorem dX0_run_38 : decode cX0_run 38 = .ok (.istore 4, 2) := by decide +kernel
theorem dX0_run_4 : decode cX0_run 4 = .ok (.if_icmp .gt 90, 3) := by decide +kernel
theorem dX0_run_40 : decode cX0_run 40 = .ok (.iload 4, 2) := by decide +kernel
theorem dX0_run_42 : decode cX0_run 42 = .ok (.aload_n 0, 1) := by decide +kernel
theorem dX0_run_43 : decode cX0_run 43 = .ok (.iload_n 3, 1) := by decide +kernel
theorem dX0_run_44 : decode cX0_run 44 = .ok (.aload_n 0, 1) := by decide +kernel
theorem dX0_run_45 : decode cX0_run 45 = .ok (.getfield 22, 3) := by decide +kernel
theorem dX0_run_48 : decode cX0_run 48 = .ok (.isub, 1) := by decide +kernel
theorem dX0_run_49 : decode cX0_run 49 = .ok (.aload_n 0, 1) := by decide +kernel
theorem dX0_run_50 : decode cX0_run 50 = .ok (.getfield 25, 3) := by decide +kernel
theorem dX0_run_53 : decode cX0_run 53 = .ok (.invokevirtual 53, 3) := by decide +kernel
theorem dX0_run_56 : decode cX0_run 56 = .ok (.iadd, 1) := by decide +kernel
theorem dX0_run_57 : decode cX0_run 57 = .ok (.aload_n 0, 1) := by decide +kernel
theorem dX0_run_58 : decode cX0_run 58 = .ok (.iload_n 3, 1) := by decide +kernel
theorem dX0_run_59 : decode cX0_run 59 = .ok (.aload_n 0, 1) := by decide +kernel
theorem dX0_run_60 : decode cX0_run 60 = .ok (.getfield 28, 3) := by decide +kernel
theorem dX0_run_63 : decode cX0_run 63 = .ok (.isub, 1) := by decide +kernel
theorem dX0_run_64 : decode cX0_run 64 = .ok (.aload_n 0, 1) := by decide +kernel
theorem dX0_run_65 : decode cX0_run 65 = .ok (.getfield 31, 3) := by decide +kernel
theorem dX0_run_68 : decode cX0_run 68 = .ok (.invokevirtual 53, 3) := by decide +kernel
theorem dX0_run_7 : decode cX0_run 7 = .ok (.iload_n 3, 1) := by decide +kernel
theorem dX0_run_71 : decode cX0_run 71 = .ok (.iadd, 1) := by decide +kernel
theorem dX0_run_72 : decode cX0_run 72 = .ok (.istore 5, 2) := by decide +kernel
theorem dX0_run_74 : decode cX0_run 74 = .ok (.aload_n 0, 1) := by decide +kernel
theorem dX0_run_75 : decode cX0_run 75 = .ok (.getfield 34, 3) := by decide +kernel
theorem dX0_run_78 : decode cX0_run 78 = .ok (.iload_n 3, 1) := by decide +kernel
theorem dX0_run_79 : decode cX0_run 79 = .ok (.iload 5, 2) := by decide +kernel
theorem dX0_run_8 : decode cX0_run 8 = .ok (.aload_n 0, 1) := by decide +kernel
theorem dX0_run_81 : decode cX0_run 81 = .ok (.sipush 5000, 3) := by decide +kernel
theorem dX0_run_84 : decode cX0_run 84 = .ok (.invokestatic 57, 3) := by decide +kernel
theorem dX0_run_87 : decode cX0_run 87 = .ok (.iastore, 1) := by decide +kernel
theorem dX0_run_88 : decode cX0_run 88 = .ok (.iinc 3 1, 3) := by decide +kernel
theorem dX0_run_9 : decode cX0_run 9 = .ok (.getfield 34, 3) := by decide +kernel
theorem dX0_run_91 : decode cX0_run 91 = .ok (.goto (-89), 3) := by decide +kernel
theorem dX0_run_94 : decode cX0_run 94 = .ok (.return_, 1) := by decide +kernel
theorem dX0_weigh_0 : decode cX0_weigh 0 = .ok (.aload_n 0, 1) := by decide +kernel
theorem dX0_weigh_1 : decode cX0_weigh 1 = .ok (.getfield 19, 3) := by decide +kernel
theorem dX0_weigh_11 : decode cX0_weigh 11 = .ok (.iload_n 1, 1) := by decide +kernel
theorem dX0_weigh_12 : decode cX0_weigh 12 = .ok (.iload_n 2, 1) := by decide +kernel
theorem dX0_weigh_13 : decode cX0_weigh 13 = .ok (.iastore, 1) := by decide +kernel
theorem dX0_weigh_14 : decode cX0_weigh 14 = .ok (.iload_n 3, 1) := by decide +kernel
theorem dX0_weigh_15 : decode cX0_weigh 15 = .ok (.ireturn, 1) := by decide +kernel
theorem dX0_weigh_4 : decode cX0_weigh 4 = .ok (.iload_n 1, 1) := by decide +kernel
theorem dX0_weigh_5 : decode cX0_weigh 5 = .ok (.iaload, 1) := by decide +kernel
theorem dX0_weigh_6 : decode cX0_weigh 6 = .ok (.istore_n 3, 1) := by decide +kernel
theorem dX0_weigh_7 : decode cX0_weigh 7 = .ok (.aload_n 0, 1) := by decide +kernel
theorem dX0_weigh_8 : decode cX0_weigh 8 = .ok (.getfield 19, 3) := by decide +kernel
theorem dX10_find_0 : decode cX10_find 0 = .ok (.iload_n 1, 1) := by decide +kernel
theorem dX10_find_1 : decode cX10_find 1 = .ok (.ifCond .lt 26, 3) := by decide +kernel
theorem dX10_find_27 : decode cX10_find 27 = .ok (.aconst_null, 1) := by decide +kernel
theorem dX10_find_28 : decode cX10_find 28 = .ok (.areturn, 1) := by decide +kernel
theorem dX10_find_4 : decode cX10_find 4 = .ok (.iload_n 1, 1) := by decide +kernel
theorem dX10_find_5 : decode cX10_find 5 = .ok (.aload_n 0, 1) := by decide +kernel
theorem dX10_find_6 : decode cX10_find 6 = .ok (.getfield 9, 3) := by decide +kernel
theorem dX10_find_9 : decode cX10_find 9 = .ok (.if_icmp .ge 18, 3) := by decide +kernel
theorem dX10_latest_0 : decode cX10_latest 0 = .ok (.aload_n 0, 1) := by decide +kernel
theorem dX10_latest_1 : decode cX10_latest 1 = .ok (.getfield 9, 3) := by decide +kernel
theorem dX10_latest_39 : decode cX10_latest 39 = .ok (.iconst (-1), 1) := by decide +kernel
theorem dX10_latest_4 : decode cX10_latest 4 = .ok (.iconst 1, 1) := by decide +kernel
theorem dX10_latest_40 : decode cX10_latest 40 = .ok (.ireturn, 1) := by decide +kernel
theorem dX10_latest_5 : decode cX10_latest 5 = .ok (.isub, 1) := by decide +kernel
theorem dX10_latest_6 : decode cX10_latest 6 = .ok (.istore_n 3, 1) := by decide +kernel
theorem dX10_latest_7 : decode cX10_latest 7 = .ok (.iload_n 3, 1) := by decide +kernel
theorem dX10_latest_8 : decode cX10_latest 8 = .ok (.ifCond .lt 31, 3) := by decide +kernel
theorem dX3_add_0 : decode cX3_add 0 = .ok (.aload_n 0, 1) := by decide +kernel
theorem dX3_add_1 : decode cX3_add 1 = .ok (.getfield 15, 3) := by decide +kernel
theorem dX3_add_11 : decode cX3_add 11 = .ok (.aload_n 0, 1) := by decide +kernel
theorem dX3_add_12 : decode cX3_add 12 = .ok (.getfield 9, 3) := by decide +kernel
theorem dX3_add_15 : decode cX3_add 15 = .ok (.aload_n 0, 1) := by decide +kernel
theorem dX3_add_16 : decode cX3_add 16 = .ok (.getfield 15, 3) := by decide +kernel
theorem dX3_add_19 : decode cX3_add 19 = .ok (.iload_n 1, 1) := by decide +kernel
theorem dX3_add_20 : decode cX3_add 20 = .ok (.iastore, 1) := by decide +kernel
theorem dX3_add_21 : decode cX3_add 21 = .ok (.aload_n 0, 1) := by decide +kernel
theorem dX3_add_22 : decode cX3_add 22 = .ok (.dup, 1) := by decide +kernel
theorem dX3_add_23 : decode cX3_add 23 = .ok (.getfield 15, 3) := by decide +kernel
theorem dX3_add_26 : decode cX3_add 26 = .ok (.iconst 1, 1) := by decide +kernel
theorem dX3_add_27 : decode cX3_add 27 = .ok (.iadd, 1) := by decide +kernel
theorem dX3_add_28 : decode cX3_add 28 = .ok (.putfield 15, 3) := by decide +kernel
theorem dX3_add_31 : decode cX3_add 31 = .ok (.aload_n 0, 1) := by decide +kernel
theorem dX3_add_32 : decode cX3_add 32 = .ok (.getfield 15, 3) := by decide +kernel
theorem dX3_add_35 : decode cX3_add 35 = .ok (.ireturn, 1) := by decide +kernel
theorem dX3_add_4 : decode cX3_add 4 = .ok (.bipush 60, 2) := by decide +kernel
theorem dX3_add_6 : decode cX3_add 6 = .ok (.if_icmp .lt 5, 3) := by decide +kernel
theorem dX3_makeGap_0 : decode cX3_makeGap 0 = .ok (.iload_n 1, 1) := by decide +kernel
theorem dX3_makeGap_1 : decode cX3_makeGap 1 = .ok (.ifCond .lt 11, 3) := by decide +kernel
theorem dX3_makeGap_12 : decode cX3_makeGap 12 = .ok (.iconst 0, 1) := by decide +kernel
theorem dX3_makeGap_13 : decode cX3_makeGap 13 = .ok (.ireturn, 1) := by decide +kernel
theorem dX3_makeGap_4 : decode cX3_makeGap 4 = .ok (.iload_n 1, 1) := by decide +kernel
theorem dX3_makeGap_5 : decode cX3_makeGap 5 = .ok (.aload_n 0, 1) := by decide +kernel
theorem dX3_makeGap_6 : decode cX3_makeGap 6 = .ok (.getfield 15, 3) := by decide +kernel
theorem dX3_makeGap_9 : decode cX3_makeGap 9 = .ok (.if_icmp .lt 5, 3) := by decide +kernel
theorem dX3_makeGreatest_0 : decode cX3_makeGreatest 0 = .ok (.aload_n 1, 1) := by decide +kernel
theorem dX3_makeGreatest_1 : decode cX3_makeGreatest 1 = .ok (.sipush 1022, 3) := by decide +kernel
theorem dX3_makeGreatest_10 : decode cX3_makeGreatest 10 = .ok (.aload_n 0, 1) := by decide +kernel
theorem dX3_makeGreatest_11 : decode cX3_makeGreatest 11 = .ok (.getfield 15, 3) := by decide +kernel
theorem dX3_makeGreatest_14 : decode cX3_makeGreatest 14 = .ok (.if_icmp .ge 36, 3) := by decide +kernel
theorem dX3_makeGreatest_4 : decode cX3_makeGreatest 4 = .ok (.invokestatic 29, 3) := by decide +kernel
theorem dX3_makeGreatest_50 : decode cX3_makeGreatest 50 = .ok (.return_, 1) := by decide +kernel
theorem dX3_makeGreatest_7 : decode cX3_makeGreatest 7 = .ok (.iconst 0, 1) := by decide +kernel
theorem dX3_makeGreatest_8 : decode cX3_makeGreatest 8 = .ok (.istore_n 3, 1) := by decide +kernel
theorem dX3_makeGreatest_9 : decode cX3_makeGreatest 9 = .ok (.iload_n 3, 1) := by decide +kernel
theorem dX3_mendedAt_0 : decode cX3_mendedAt 0 = .ok (.iload_n 1, 1) := by decide +kernel
theorem dX3_mendedAt_1 : decode cX3_mendedAt 1 = .ok (.ifCond .lt 11, 3) := by decide +kernel
theorem dX3_mendedAt_12 : decode cX3_mendedAt 12 = .ok (.iconst (-1), 1) := by decide +kernel
theorem dX3_mendedAt_13 : decode cX3_mendedAt 13 = .ok (.ireturn, 1) := by decide +kernel
theorem dX3_mendedAt_4 : decode cX3_mendedAt 4 = .ok (.iload_n 1, 1) := by decide +kernel
theorem dX3_mendedAt_5 : decode cX3_mendedAt 5 = .ok (.aload_n 0, 1) := by decide +kernel
theorem dX3_mendedAt_6 : decode cX3_mendedAt 6 = .ok (.getfield 15, 3) := by decide +kernel
theorem dX3_mendedAt_9 : decode cX3_mendedAt 9 = .ok (.if_icmp .lt 5, 3) := by decide +kernel
theorem dX3_pairFits_0 : decode cX3_pairFits 0 = .ok (.aload_n 0, 1) := by decide +kernel
theorem dX3_pairFits_1 : decode cX3_pairFits 1 = .ok (.aload_n 0, 1) := by decide +kernel
theorem dX3_pairFits_10 : decode cX3_pairFits 10 = .ok (.aload_n 0, 1) := by decide +kernel
theorem dX3_pairFits_11 : decode cX3_pairFits 11 = .ok (.getfield 22, 3) := by decide +kernel
theorem dX3_pairFits_14 : decode cX3_pairFits 14 = .ok (.iload_n 2, 1) := by decide +kernel
theorem dX3_pairFits_15 : decode cX3_pairFits 15 = .ok (.invokevirtual 49, 3) := by decide +kernel
theorem dX3_pairFits_18 : decode cX3_pairFits 18 = .ok (.iconst 0, 1) := by decide +kernel
theorem dX3_pairFits_19 : decode cX3_pairFits 19 = .ok (.istore_n 3, 1) := by decide +kernel
theorem dX3_pairFits_2 : decode cX3_pairFits 2 = .ok (.getfield 19, 3) := by decide +kernel
theorem dX3_pairFits_20 : decode cX3_pairFits 20 = .ok (.iload_n 3, 1) := by decide +kernel
theorem dX3_pairFits_21 : decode cX3_pairFits 21 = .ok (.aload_n 0, 1) := by decide +kernel
theorem dX3_pairFits_22 : decode cX3_pairFits 22 = .ok (.getfield 15, 3) := by decide +kernel
theorem dX3_pairFits_25 : decode cX3_pairFits 25 = .ok (.if_icmp .ge 53, 3) := by decide +kernel
theorem dX3_pairFits_5 : decode cX3_pairFits 5 = .ok (.iload_n 1, 1) := by decide +kernel
theorem dX3_pairFits_6 : decode cX3_pairFits 6 = .ok (.invokevirtual 49, 3) := by decide +kernel
theorem dX3_pairFits_78 : decode cX3_pairFits 78 = .ok (.iconst 1, 1) := by decide +kernel
theorem dX3_pairFits_79 : decode cX3_pairFits 79 = .ok (.ireturn, 1) := by decide +kernel
theorem dX3_pairFits_9 : decode cX3_pairFits 9 = .ok (.aload_n 0, 1) := by decide +kernel
theorem dX3_spanFits_0 : decode cX3_spanFits 0 = .ok (.aload_n 0, 1) := by decide +kernel
theorem dX3_spanFits_1 : decode cX3_spanFits 1 = .ok (.getfield 19, 3) := by decide +kernel
theorem dX3_spanFits_10 : decode cX3_spanFits 10 = .ok (.iload_n 2, 1) := by decide +kernel
theorem dX3_spanFits_11 : decode cX3_spanFits 11 = .ok (.aload_n 0, 1) := by decide +kernel
theorem dX3_spanFits_12 : decode cX3_spanFits 12 = .ok (.getfield 15, 3) := by decide +kernel
theorem dX3_spanFits_15 : decode cX3_spanFits 15 = .ok (.if_icmp .ge 68, 3) := by decide +kernel
theorem dX3_spanFits_4 : decode cX3_spanFits 4 = .ok (.iconst (-1), 1) := by decide +kernel
theorem dX3_spanFits_5 : decode cX3_spanFits 5 = .ok (.invokestatic 29, 3) := by decide +kernel
theorem dX3_spanFits_8 : decode cX3_spanFits 8 = .ok (.iconst 0, 1) := by decide +kernel
theorem dX3_spanFits_83 : decode cX3_spanFits 83 = .ok (.iconst 1, 1) := by decide +kernel
theorem dX3_spanFits_84 : decode cX3_spanFits 84 = .ok (.ireturn, 1) := by decide +kernel
theorem dX3_spanFits_9 : decode cX3_spanFits 9 = .ok (.istore_n 2, 1) := by decide +kernel
theorem dX3_spanNumber_0 : decode cX3_spanNumber 0 = .ok (.iconst 0, 1) := by decide +kernel
theorem dX3_spanNumber_1 : decode cX3_spanNumber 1 = .ok (.istore_n 2, 1) := by decide +kernel
theorem dX3_spanNumber_10 : decode cX3_spanNumber 10 = .ok (.aload_n 0, 1) := by decide +kernel
theorem dX3_spanNumber_11 : decode cX3_spanNumber 11 = .ok (.iload_n 3, 1) := by decide +kernel
theorem dX3_spanNumber_12 : decode cX3_spanNumber 12 = .ok (.invokevirtual 25, 3) := by decide +kernel
theorem dX3_spanNumber_15 : decode cX3_spanNumber 15 = .ok (.ifCond .eq 13, 3) := by decide +kernel
theorem dX3_spanNumber_18 : decode cX3_spanNumber 18 = .ok (.iload_n 2, 1) := by decide +kernel
theorem dX3_spanNumber_19 : decode cX3_spanNumber 19 = .ok (.iload_n 1, 1) := by decide +kernel
theorem dX3_spanNumber_2 : decode cX3_spanNumber 2 = .ok (.iconst 1, 1) := by decide +kernel
theorem dX3_spanNumber_20 : decode cX3_spanNumber 20 = .ok (.if_icmp .ne 5, 3) := by decide +kernel
theorem dX3_spanNumber_23 : decode cX3_spanNumber 23 = .ok (.iload_n 3, 1) := by decide +kernel
theorem dX3_spanNumber_24 : decode cX3_spanNumber 24 = .ok (.ireturn, 1) := by decide +kernel
theorem dX3_spanNumber_25 : decode cX3_spanNumber 25 = .ok (.iinc 2 1, 3) := by decide +kernel
theorem dX3_spanNumber_28 : decode cX3_spanNumber 28 = .ok (.iinc 3 1, 3) := by decide +kernel
theorem dX3_spanNumber_3 : decode cX3_spanNumber 3 = .ok (.istore_n 3, 1) := by decide +kernel
theorem dX3_spanNumber_31 : decode cX3_spanNumber 31 = .ok (.goto (-27), 3) := by decide +kernel
theorem dX3_spanNumber_34 : decode cX3_spanNumber 34 = .ok (.iconst (-1), 1) := by decide +kernel
theorem dX3_spanNumber_35 : decode cX3_spanNumber 35 = .ok (.ireturn, 1) := by decide +kernel
theorem dX3_spanNumber_4 : decode cX3_spanNumber 4 = .ok (.iload_n 3, 1) := by decide +kernel
theorem dX3_spanNumber_5 : decode cX3_spanNumber 5 = .ok (.bipush 24, 2) := by decide +kernel
theorem dX3_spanNumber_7 : decode cX3_spanNumber 7 = .ok (.if_icmp .gt 27, 3) := by decide +kernel
theorem dX4_joinAll_0 : decode cX4_joinAll 0 = .ok (.aload_n 0, 1) := by decide +kernel
theorem dX4_joinAll_1 : decode cX4_joinAll 1 = .ok (.bipush 41, 2) := by decide +kernel
theorem dX4_joinAll_10 : decode cX4_joinAll 10 = .ok (.invokestatic 37, 3) := by decide +kernel
theorem dX4_joinAll_13 : decode cX4_joinAll 13 = .ok (.aload_n 0, 1) := by decide +kernel
theorem dX4_joinAll_14 : decode cX4_joinAll 14 = .ok (.getfield 19, 3) := by decide +kernel
theorem dX4_joinAll_17 : decode cX4_joinAll 17 = .ok (.ireturn, 1) := by decide +kernel
theorem dX4_joinAll_3 : decode cX4_joinAll 3 = .ok (.putfield 19, 3) := by decide +kernel
theorem dX4_joinAll_6 : decode cX4_joinAll 6 = .ok (.aload_n 0, 1) := by decide +kernel
theorem dX4_joinAll_7 : decode cX4_joinAll 7 = .ok (.iconst 0, 1) := by decide +kernel
theorem dX4_joinAll_8 : decode cX4_joinAll 8 = .ok (.iconst 0, 1) := by decide +kernel
theorem dX4_joinAll_9 : decode cX4_joinAll 9 = .ok (.iconst 0, 1) := by decide +kernel
theorem dX4_keepBetter_0 : decode cX4_keepBetter 0 = .ok (.iload_n 1, 1) := by decide +kernel
theorem dX4_keepBetter_1 : decode cX4_keepBetter 1 = .ok (.aload_n 0, 1) := by decide +kernel
theorem dX4_keepBetter_2 : decode cX4_keepBetter 2 = .ok (.getfield 19, 3) := by decide +kernel
theorem dX4_keepBetter_24 : decode cX4_keepBetter 24 = .ok (.aload_n 0, 1) := by decide +kernel
theorem dX4_keepBetter_25 : decode cX4_keepBetter 25 = .ok (.iload_n 1, 1) := by decide +kernel
theorem dX4_keepBetter_26 : decode cX4_keepBetter 26 = .ok (.putfield 19, 3) := by decide +kernel
theorem dX4_keepBetter_29 : decode cX4_keepBetter 29 = .ok (.aload_n 0, 1) := by decide +kernel
theorem dX4_keepBetter_30 : decode cX4_keepBetter 30 = .ok (.getfield 30, 3) := by decide +kernel
theorem dX4_keepBetter_33 : decode cX4_keepBetter 33 = .ok (.iconst 0, 1) := by decide +kernel
theorem dX4_keepBetter_34 : decode cX4_keepBetter 34 = .ok (.aload_n 0, 1) := by decide +kernel
theorem dX4_keepBetter_35 : decode cX4_keepBetter 35 = .ok (.getfield 15, 3) := by decide +kernel
theorem dX4_keepBetter_38 : decode cX4_keepBetter 38 = .ok (.iconst 0, 1) := by decide +kernel
theorem dX4_keepBetter_39 : decode cX4_keepBetter 39 = .ok (.iload_n 1, 1) := by decide +kernel
theorem dX4_keepBetter_40 : decode cX4_keepBetter 40 = .ok (.invokestatic 65, 3) := by decide +kernel
theorem dX4_keepBetter_43 : decode cX4_keepBetter 43 = .ok (.return_, 1) := by decide +kernel
theorem dX4_keepBetter_5 : decode cX4_keepBetter 5 = .ok (.if_icmp .lt 19, 3) := by decide +kernel
theorem dX4_layRest_0 : decode cX4_layRest 0 = .ok (.iload_n 3, 1) := by decide +kernel
theorem dX4_layRest_1 : decode cX4_layRest 1 = .ok (.aload_n 0, 1) := by decide +kernel
theorem dX4_layRest_10 : decode cX4_layRest 10 = .ok (.aload_n 0, 1) := by decide +kernel
theorem dX4_layRest_11 : decode cX4_layRest 11 = .ok (.getfield 9, 3) := by decide +kernel
theorem dX4_layRest_14 : decode cX4_layRest 14 = .ok (.if_icmp .ge 8, 3) := by decide +kernel
theorem dX4_layRest_2 : decode cX4_layRest 2 = .ok (.getfield 19, 3) := by decide +kernel
theorem dX4_layRest_22 : decode cX4_layRest 22 = .ok (.aload_n 0, 1) := by decide +kernel
theorem dX4_layRest_23 : decode cX4_layRest 23 = .ok (.iload_n 3, 1) := by decide +kernel
theorem dX4_layRest_24 : decode cX4_layRest 24 = .ok (.invokevirtual 41, 3) := by decide +kernel
theorem dX4_layRest_27 : decode cX4_layRest 27 = .ok (.return_, 1) := by decide +kernel
theorem dX4_layRest_5 : decode cX4_layRest 5 = .ok (.if_icmp .le 4, 3) := by decide +kernel
theorem dX4_layRest_9 : decode cX4_layRest 9 = .ok (.iload_n 1, 1) := by decide +kernel
theorem dX5_add_0 : decode cX5_add 0 = .ok (.aload_n 0, 1) := by decide +kernel
theorem dX5_add_1 : decode cX5_add 1 = .ok (.getfield 18, 3) := by decide +kernel
theorem dX5_add_11 : decode cX5_add 11 = .ok (.aload_n 0, 1) := by decide +kernel
theorem dX5_add_12 : decode cX5_add 12 = .ok (.getfield 9, 3) := by decide +kernel
theorem dX5_add_15 : decode cX5_add 15 = .ok (.aload_n 0, 1) := by decide +kernel
theorem dX5_add_16 : decode cX5_add 16 = .ok (.getfield 18, 3) := by decide +kernel
theorem dX5_add_19 : decode cX5_add 19 = .ok (.iload_n 1, 1) := by decide +kernel
theorem dX5_add_20 : decode cX5_add 20 = .ok (.iastore, 1) := by decide +kernel
theorem dX5_add_21 : decode cX5_add 21 = .ok (.aload_n 0, 1) := by decide +kernel
theorem dX5_add_22 : decode cX5_add 22 = .ok (.getfield 15, 3) := by decide +kernel
theorem dX5_add_25 : decode cX5_add 25 = .ok (.aload_n 0, 1) := by decide +kernel
theorem dX5_add_26 : decode cX5_add 26 = .ok (.getfield 18, 3) := by decide +kernel
theorem dX5_add_29 : decode cX5_add 29 = .ok (.iload_n 2, 1) := by decide +kernel
theorem dX5_add_30 : decode cX5_add 30 = .ok (.iastore, 1) := by decide +kernel
theorem dX5_add_31 : decode cX5_add 31 = .ok (.aload_n 0, 1) := by decide +kernel
theorem dX5_add_32 : decode cX5_add 32 = .ok (.dup, 1) := by decide +kernel
theorem dX5_add_33 : decode cX5_add 33 = .ok (.getfield 18, 3) := by decide +kernel
theorem dX5_add_36 : decode cX5_add 36 = .ok (.iconst 1, 1) := by decide +kernel
theorem dX5_add_37 : decode cX5_add 37 = .ok (.iadd, 1) := by decide +kernel
theorem dX5_add_38 : decode cX5_add 38 = .ok (.putfield 18, 3) := by decide +kernel
theorem dX5_add_4 : decode cX5_add 4 = .ok (.bipush 6, 2) := by decide +kernel
theorem dX5_add_41 : decode cX5_add 41 = .ok (.aload_n 0, 1) := by decide +kernel
theorem dX5_add_42 : decode cX5_add 42 = .ok (.getfield 18, 3) := by decide +kernel
theorem dX5_add_45 : decode cX5_add 45 = .ok (.ireturn, 1) := by decide +kernel
theorem dX5_add_6 : decode cX5_add 6 = .ok (.if_icmp .lt 5, 3) := by decide +kernel
theorem dX5_carryOut_0 : decode cX5_carryOut 0 = .ok (.iconst 0, 1) := by decide +kernel
theorem dX5_carryOut_1 : decode cX5_carryOut 1 = .ok (.istore_n 2, 1) := by decide +kernel
theorem dX5_carryOut_12 : decode cX5_carryOut 12 = .ok (.astore_n 3, 1) := by decide +kernel
theorem dX5_carryOut_13 : decode cX5_carryOut 13 = .ok (.aload_n 3, 1) := by decide +kernel
theorem dX5_carryOut_14 : decode cX5_carryOut 14 = .ok (.ifnull 29, 3) := by decide +kernel
theorem dX5_carryOut_2 : decode cX5_carryOut 2 = .ok (.iload_n 2, 1) := by decide +kernel
theorem dX5_carryOut_3 : decode cX5_carryOut 3 = .ok (.iconst 4, 1) := by decide +kernel
theorem dX5_carryOut_4 : decode cX5_carryOut 4 = .ok (.if_icmp .ge 45, 3) := by decide +kernel
theorem dX5_carryOut_43 : decode cX5_carryOut 43 = .ok (.iinc 2 1, 3) := by decide +kernel
theorem dX5_carryOut_46 : decode cX5_carryOut 46 = .ok (.goto (-44), 3) := by decide +kernel
theorem dX5_carryOut_49 : decode cX5_carryOut 49 = .ok (.return_, 1) := by decide +kernel
theorem dX5_carryOut_7 : decode cX5_carryOut 7 = .ok (.aload_n 1, 1) := by decide +kernel
theorem dX5_carryOut_8 : decode cX5_carryOut 8 = .ok (.iload_n 2, 1) := by decide +kernel
theorem dX5_carryOut_9 : decode cX5_carryOut 9 = .ok (.invokevirtual 56, 3) := by decide +kernel
theorem dX5_find_0 : decode cX5_find 0 = .ok (.aload_n 1, 1) := by decide +kernel
theorem dX5_find_1 : decode cX5_find 1 = .ok (.getfield 48, 3) := by decide +kernel
theorem dX5_find_10 : decode cX5_find 10 = .ok (.aaload, 1) := by decide +kernel
theorem dX5_find_102 : decode cX5_find 102 = .ok (.iconst 1, 1) := by decide +kernel
theorem dX5_find_103 : decode cX5_find 103 = .ok (.aload_n 0, 1) := by decide +kernel
theorem dX5_find_104 : decode cX5_find 104 = .ok (.getfield 18, 3) := by decide +kernel
theorem dX5_find_107 : decode cX5_find 107 = .ok (.ishl, 1) := by decide +kernel
theorem dX5_find_108 : decode cX5_find 108 = .ok (.iconst 1, 1) := by decide +kernel
theorem dX5_find_109 : decode cX5_find 109 = .ok (.isub, 1) := by decide +kernel
theorem dX5_find_11 : decode cX5_find 11 = .ok (.ldc 49, 2) := by decide +kernel
theorem dX5_find_110 : decode cX5_find 110 = .ok (.istore_n 3, 1) := by decide +kernel
theorem dX5_find_111 : decode cX5_find 111 = .ok (.aload_n 0, 1) := by decide +kernel
theorem dX5_find_112 : decode cX5_find 112 = .ok (.getfield 30, 3) := by decide +kernel
theorem dX5_find_115 : decode cX5_find 115 = .ok (.iconst 0, 1) := by decide +kernel
theorem dX5_find_116 : decode cX5_find 116 = .ok (.aaload, 1) := by decide +kernel
theorem dX5_find_117 : decode cX5_find 117 = .ok (.iload_n 3, 1) := by decide +kernel
theorem dX5_find_118 : decode cX5_find 118 = .ok (.iaload, 1) := by decide +kernel
theorem dX5_find_119 : decode cX5_find 119 = .ok (.istore 4, 2) := by decide +kernel
theorem dX5_find_121 : decode cX5_find 121 = .ok (.iload 4, 2) := by decide +kernel
theorem dX5_find_123 : decode cX5_find 123 = .ok (.ldc 49, 2) := by decide +kernel
theorem dX5_find_125 : decode cX5_find 125 = .ok (.if_icmp .lt 5, 3) := by decide +kernel
theorem dX5_find_13 : decode cX5_find 13 = .ok (.invokestatic 50, 3) := by decide +kernel
theorem dX5_find_130 : decode cX5_find 130 = .ok (.iconst 0, 1) := by decide +kernel
theorem dX5_find_131 : decode cX5_find 131 = .ok (.istore 5, 2) := by decide +kernel
theorem dX5_find_133 : decode cX5_find 133 = .ok (.iload 5, 2) := by decide +kernel
theorem dX5_find_135 : decode cX5_find 135 = .ok (.iload_n 2, 1) := by decide +kernel
theorem dX5_find_136 : decode cX5_find 136 = .ok (.if_icmp .ge 23, 3) := by decide +kernel
theorem dX5_find_159 : decode cX5_find 159 = .ok (.iload 4, 2) := by decide +kernel
theorem dX5_find_16 : decode cX5_find 16 = .ok (.aload_n 0, 1) := by decide +kernel
theorem dX5_find_161 : decode cX5_find 161 = .ok (.ireturn, 1) := by decide +kernel
theorem dX5_find_17 : decode cX5_find 17 = .ok (.getfield 30, 3) := by decide +kernel
theorem dX5_find_20 : decode cX5_find 20 = .ok (.iload_n 2, 1) := by decide +kernel
theorem dX5_find_21 : decode cX5_find 21 = .ok (.aaload, 1) := by decide +kernel
theorem dX5_find_22 : decode cX5_find 22 = .ok (.iconst 0, 1) := by decide +kernel
theorem dX5_find_23 : decode cX5_find 23 = .ok (.iconst 0, 1) := by decide +kernel
theorem dX5_find_24 : decode cX5_find 24 = .ok (.iastore, 1) := by decide +kernel
theorem dX5_find_25 : decode cX5_find 25 = .ok (.iload_n 2, 1) := by decide +kernel
theorem dX5_find_26 : decode cX5_find 26 = .ok (.iconst 1, 1) := by decide +kernel
theorem dX5_find_27 : decode cX5_find 27 = .ok (.isub, 1) := by decide +kernel
theorem dX5_find_28 : decode cX5_find 28 = .ok (.istore_n 3, 1) := by decide +kernel
theorem dX5_find_29 : decode cX5_find 29 = .ok (.iload_n 3, 1) := by decide +kernel
theorem dX5_find_30 : decode cX5_find 30 = .ok (.ifCond .lt 72, 3) := by decide +kernel
theorem dX5_find_4 : decode cX5_find 4 = .ok (.istore_n 2, 1) := by decide +kernel
theorem dX5_find_5 : decode cX5_find 5 = .ok (.aload_n 0, 1) := by decide +kernel
theorem dX5_find_6 : decode cX5_find 6 = .ok (.getfield 30, 3) := by decide +kernel
theorem dX5_find_9 : decode cX5_find 9 = .ok (.iload_n 2, 1) := by decide +kernel
theorem dX5_marksTrue_0 : decode cX5_marksTrue 0 = .ok (.iconst 0, 1) := by decide +kernel
theorem dX5_marksTrue_1 : decode cX5_marksTrue 1 = .ok (.istore_n 2, 1) := by decide +kernel
theorem dX5_marksTrue_2 : decode cX5_marksTrue 2 = .ok (.iconst 0, 1) := by decide +kernel
theorem dX5_marksTrue_3 : decode cX5_marksTrue 3 = .ok (.istore_n 3, 1) := by decide +kernel
theorem dX5_marksTrue_4 : decode cX5_marksTrue 4 = .ok (.iload_n 3, 1) := by decide +kernel
theorem dX5_marksTrue_43 : decode cX5_marksTrue 43 = .ok (.iload_n 2, 1) := by decide +kernel
theorem dX5_marksTrue_44 : decode cX5_marksTrue 44 = .ok (.ireturn, 1) := by decide +kernel
theorem dX5_marksTrue_5 : decode cX5_marksTrue 5 = .ok (.aload_n 0, 1) := by decide +kernel
theorem dX5_marksTrue_6 : decode cX5_marksTrue 6 = .ok (.getfield 18, 3) := by decide +kernel
theorem dX5_marksTrue_9 : decode cX5_marksTrue 9 = .ok (.if_icmp .ge 34, 3) := by decide +kernel
theorem dm_J7_fill_53178 : yJ7_fill_53178.cls = RJ7 ∧ yJ7_fill_53178.cls ≠ "java/lang/invoke/MethodHandle" ∧ yJ7_fill_53178.cls ≠ "java/lang/invoke/VarHandle" ∧ (parseMethodDescriptor yJ7_fill_53178.desc).map (fun d => d.parameters.length) = some 2 := by decide +kernel
theorem dm_X0_outAt : yX0_outAt.cls = RX0 ∧ yX0_outAt.cls ≠ "java/lang/invoke/MethodHandle" ∧ yX0_outAt.cls ≠ "java/lang/invoke/VarHandle" ∧ (parseMethodDescriptor yX0_outAt.desc).map (fun d => d.parameters.length) = some 1 := by decide +kernel
theorem dm_X0_behind : yX0_behind.cls = RX0 ∧ yX0_behind.cls ≠ "java/lang/invoke/MethodHandle" ∧ yX0_behind.cls ≠ "java/lang/invoke/VarHandle" ∧ (parseMethodDescriptor yX0_behind.desc).map (fun d => d.parameters.length) = some 2 := by decide +kernel
theorem dm_X0_run : yX0_run.cls = RX0 ∧ yX0_run.cls ≠ "java/lang/invoke/MethodHandle" ∧ yX0_run.cls ≠ "java/lang/invoke/VarHandle" ∧ (parseMethodDescriptor yX0_run.desc).map (fun d => d.parameters.length) = some 2 := by decide +kernel
theorem dm_X0_firstSilence : yX0_firstSilence.cls = RX0 ∧ yX0_firstSilence.cls ≠ "java/lang/invoke/MethodHandle" ∧ yX0_firstSilence.cls ≠ "java/lang/invoke/VarHandle" ∧ (parseMethodDescriptor yX0_firstSilence.desc).map (fun d => d.parameters.length) = some 0 := by decide +kernel
theorem dm_X3_spanFits : yX3_spanFits.cls = RX3 ∧ yX3_spanFits.cls ≠ "java/lang/invoke/MethodHandle" ∧ yX3_spanFits.cls ≠ "java/lang/invoke/VarHandle" ∧ (parseMethodDescriptor yX3_spanFits.desc).map (fun d => d.parameters.length) = some 1 := by decide +kernel
theorem dm_X3_makeGreatest : yX3_makeGreatest.cls = RX3 ∧ yX3_makeGreatest.cls ≠ "java/lang/invoke/MethodHandle" ∧ yX3_makeGreatest.cls ≠ "java/lang/invoke/VarHandle" ∧ (parseMethodDescriptor yX3_makeGreatest.desc).map (fun d => d.parameters.length) = some 2 := by decide +kernel
theorem dm_X4_keepBetter : yX4_keepBetter.cls = RX4 ∧ yX4_keepBetter.cls ≠ "java/lang/invoke/MethodHandle" ∧ yX4_keepBetter.cls ≠ "java/lang/invoke/VarHandle" ∧ (parseMethodDescriptor yX4_keepBetter.desc).map (fun d => d.parameters.length) = some 1 := by decide +kernel
theorem dm_X4_layRest : yX4_layRest.cls = RX4 ∧ yX4_layRest.cls ≠ "java/lang/invoke/MethodHandle" ∧ yX4_layRest.cls ≠ "java/lang/invoke/VarHandle" ∧ (parseMethodDescriptor yX4_layRest.desc).map (fun d => d.parameters.length) = some 4 := by decide +kernel
set_option maxHeartbeats 4000000 in
set_option maxRecDepth 100000 in
theorem n_fill70 (l : Launch) (D : va_G) (dA : Nat → ClassId) (b : Nat) (M : zM) (v : Int) (r_v : R32 v) : Met l yJ7_fill_53178 (.code yJ7_fill_53178 cJ7_fill_53178 4 none :: zt) (z_rm 0) (va_Pc [.ref (b + 70), .int (iI v)] (zP D dA vwCl (z_tys dA) wC nC b M)) (va_Qv (zQv wC (zms wC [1727]) M (fun M1 => True)) (zB D dA vwCl wC nC b) (zA nC b)) 0 0 (zA nC b) := by
  refine Met.ofW (cc := cJ7_fill_53178) (maxL := 4) (ret := none) (by decide) rfl ?_
  intro p e s m args below meth c s₁ B hml hv
  obtain ⟨hargs, hR0, hJ, hK⟩ := hv
  have hx := B.exec
  have hb := B.bytes
  have hr := B.returns
  have hts := atoms_spec (ws := .code yJ7_fill_53178 cJ7_fill_53178 4 none :: zt) B.pre
  have hown : s.vm.findClass RJ7 = some m.cls := findClass_of_methodNamed B.named
  have hlocks := B.notSynchronized
  have hS : zS D dA vwCl wC nC b (zms wC [1727]) M M s.heap := ⟨hR0, hJ, zF_rf _ _⟩
  have hS0 : va_S (zA nC b) s.heap s.heap [] := va_S.rf
  have hl := lv_entry ([.ref (b + 70), .int (iI v)]) (n := 4) (Nat.le_of_ble_eq_true rfl)
  have hent : entryFrame m args 4 = F0 m 0 ((lg_sl ([.ref (b + 70), .int (iI v)]) ++ List.replicate (4 - (lg_sl ([.ref (b + 70), .int (iI v)])).length) Slot.unset).toArray) [] := by rw [hargs]; exact lg_entry_eq m ([.ref (b + 70), .int (iI v)]) 4
  rw [hent]
  generalize (lg_sl ([.ref (b + 70), .int (iI v)]) ++ List.replicate (4 - (lg_sl ([.ref (b + 70), .int (iI v)])).length) Slot.unset).toArray = ls at hl ⊢
  have hl : lv_has ls 4 [(0, .ref (b + 70)), (1, .int (iI v))] := hl
  refine z_iconst hx hb dJ7_fill_53178_0 ?_
  refine lv_istore_n (lv' := [(2, .int (iI 0)), (0, .ref (b + 70)), (1, .int (iI v))]) hx hb dJ7_fill_53178_1 rfl hl (by decide) rfl (fun ls hl => ?_)
  refine lv_aload_n hx hb dJ7_fill_53178_2 rfl (lv_at hl 1 rfl) ?_
  refine z_alen (n := 64) hx hb hK.1 (t0 := 0) rfl hS (by decide) (zkd_of (rfl : zcd wC 70 = 26) rfl) (zln_of (rfl : zcd wC 70 = 26) rfl) dJ7_fill_53178_3 ?_
  refine z_top (show (((64 : Nat) : Int)) = 64 from by decide) ?_
  refine lv_istore_n (lv' := [(3, .int (iI 64)), (2, .int (iI 0)), (0, .ref (b + 70)), (1, .int (iI v))]) hx hb dJ7_fill_53178_4 rfl hl (by decide) rfl (fun ls hl => ?_)
  have L4 : ∀ (n2 : Nat) (i1 : Int) (M5 : zM) (H : Heap) (locs : List Loc) (ls : Array Slot), (2147483648 - i1).toNat ≤ n2 → R32 i1 → (0 ≤ i1) → zS D dA vwCl wC nC b (zms wC [1727]) M M5 H → va_S (zA nC b) s.heap H locs → lv_has ls 4 [(0, .ref (b + 70)), (1, .int (iI v)), (2, .int (iI i1)), (3, .int (iI 64))] → W p l e (headSpec (.code yJ7_fill_53178 cJ7_fill_53178 4 none :: zt) (z_rm 0)).room s m args below meth c H locs 0 0 (MQ below (va_Qv (zQv wC (zms wC [1727]) M (fun M1 => True)) (zB D dA vwCl wC nC b) (zA nC b)) args s 0 0 (zA nC b)) (F0 m 5 ls []) := by
    intro n2
    induction n2 with
    | zero =>
      intro i1 M5 H locs ls hm r_i1 i6 hS hS0 hl
      exfalso
      omega
    | succ n2 ih3 =>
      intro i1 M5 H locs ls hm r_i1 i6 hS hS0 hl
      have J7 := hS.2.1
      have F8 := hS.2.2
      refine lv_iload_n hx hb dJ7_fill_53178_5 rfl (lv_at hl 2 rfl) ?_
      refine lv_iload_n hx hb dJ7_fill_53178_6 rfl (lv_at hl 3 rfl) ?_
      refine z_icmp_ge (tgt := 20) hx hb r_i1 (by decide) dJ7_fill_53178_7 (by decide) (fun c9 => ?_) (fun c9 => ?_)
      · skip
        exact z_vret hx hb hr hlocks hS hS0 (by first | exact trivial | exact ⟨rfl, trivial⟩ | omega | (refine ⟨by omega, trivial⟩)) dJ7_fill_53178_20
      · skip
        refine lv_aload_n hx hb dJ7_fill_53178_10 rfl (lv_at hl 0 rfl) ?_
        refine lv_iload_n hx hb dJ7_fill_53178_11 rfl (lv_at hl 2 rfl) ?_
        refine lv_iload_n hx hb dJ7_fill_53178_12 rfl (lv_at hl 1 rfl) ?_
        refine z_iast (n := 64) hx hb hK.1 (t0 := 0) rfl hS hS0 (by decide) (zkd_of (rfl : zcd wC 70 = 26) rfl) (zln_of (rfl : zcd wC 70 = 26) rfl) (by omega) (by omega) (by decide) (zbd_in (rfl : zcd wC 70 = 26) rfl r_v) (zms_of (rfl : zcd wC 70 = 26) rfl) dJ7_fill_53178_13 (fun H locs hS hS0 => ?_)
        obtain ⟨M10, e11⟩ : ∃ M10 : zM, M10 = zup M5 70 (i1.toNat) v := ⟨_, rfl⟩
        rw [← e11] at hS
        have J12 := hS.2.1
        refine z_iinc (lv' := [(2, .int (iI (i1 + 1))), (0, .ref (b + 70)), (1, .int (iI v)), (3, .int (iI 64))]) hx hb dJ7_fill_53178_14 hl (k := 2) rfl (by decide) rfl (fun ls hl => ?_)
        refine lv_goto (tgt := 5) hx hb dJ7_fill_53178_17 (by decide) ?_
        exact ih3 (i1 + 1) M10 _ _ _ (by omega) ⟨by omega, by omega⟩ (by omega) hS hS0 (lv_sub hl [1, 2, 0, 3] rfl)
  exact L4 _ 0 M _ _ _ (Nat.le_refl _) (by decide) (by omega) hS hS0 (lv_sub hl [2, 3, 1, 0] rfl)

set_option maxHeartbeats 4000000 in
set_option maxRecDepth 100000 in
theorem n_fill84 (l : Launch) (D : va_G) (dA : Nat → ClassId) (b : Nat) (M : zM) (v : Int) (r_v : R32 v) : Met l yJ7_fill_53178 (.code yJ7_fill_53178 cJ7_fill_53178 4 none :: zt) (z_rm 0) (va_Pc [.ref (b + 84), .int (iI v)] (zP D dA vwCl (z_tys dA) wC nC b M)) (va_Qv (zQv wC (zms wC [2367]) M (fun M1 => True)) (zB D dA vwCl wC nC b) (zA nC b)) 0 0 (zA nC b) := by
  refine Met.ofW (cc := cJ7_fill_53178) (maxL := 4) (ret := none) (by decide) rfl ?_
  intro p e s m args below meth c s₁ B hml hv
  obtain ⟨hargs, hR0, hJ, hK⟩ := hv
  have hx := B.exec
  have hb := B.bytes
  have hr := B.returns
  have hts := atoms_spec (ws := .code yJ7_fill_53178 cJ7_fill_53178 4 none :: zt) B.pre
  have hown : s.vm.findClass RJ7 = some m.cls := findClass_of_methodNamed B.named
  have hlocks := B.notSynchronized
  have hS : zS D dA vwCl wC nC b (zms wC [2367]) M M s.heap := ⟨hR0, hJ, zF_rf _ _⟩
  have hS0 : va_S (zA nC b) s.heap s.heap [] := va_S.rf
  have hl := lv_entry ([.ref (b + 84), .int (iI v)]) (n := 4) (Nat.le_of_ble_eq_true rfl)
  have hent : entryFrame m args 4 = F0 m 0 ((lg_sl ([.ref (b + 84), .int (iI v)]) ++ List.replicate (4 - (lg_sl ([.ref (b + 84), .int (iI v)])).length) Slot.unset).toArray) [] := by rw [hargs]; exact lg_entry_eq m ([.ref (b + 84), .int (iI v)]) 4
  rw [hent]
  generalize (lg_sl ([.ref (b + 84), .int (iI v)]) ++ List.replicate (4 - (lg_sl ([.ref (b + 84), .int (iI v)])).length) Slot.unset).toArray = ls at hl ⊢
  have hl : lv_has ls 4 [(0, .ref (b + 84)), (1, .int (iI v))] := hl
  refine z_iconst hx hb dJ7_fill_53178_0 ?_
  refine lv_istore_n (lv' := [(2, .int (iI 0)), (0, .ref (b + 84)), (1, .int (iI v))]) hx hb dJ7_fill_53178_1 rfl hl (by decide) rfl (fun ls hl => ?_)
  refine lv_aload_n hx hb dJ7_fill_53178_2 rfl (lv_at hl 1 rfl) ?_
  refine z_alen (n := 24) hx hb hK.1 (t0 := 0) rfl hS (by decide) (zkd_of (rfl : zcd wC 84 = 36) rfl) (zln_of (rfl : zcd wC 84 = 36) rfl) dJ7_fill_53178_3 ?_
  refine z_top (show (((24 : Nat) : Int)) = 24 from by decide) ?_
  refine lv_istore_n (lv' := [(3, .int (iI 24)), (2, .int (iI 0)), (0, .ref (b + 84)), (1, .int (iI v))]) hx hb dJ7_fill_53178_4 rfl hl (by decide) rfl (fun ls hl => ?_)
  have L4 : ∀ (n2 : Nat) (i1 : Int) (M5 : zM) (H : Heap) (locs : List Loc) (ls : Array Slot), (2147483648 - i1).toNat ≤ n2 → R32 i1 → (0 ≤ i1) → zS D dA vwCl wC nC b (zms wC [2367]) M M5 H → va_S (zA nC b) s.heap H locs → lv_has ls 4 [(0, .ref (b + 84)), (1, .int (iI v)), (2, .int (iI i1)), (3, .int (iI 24))] → W p l e (headSpec (.code yJ7_fill_53178 cJ7_fill_53178 4 none :: zt) (z_rm 0)).room s m args below meth c H locs 0 0 (MQ below (va_Qv (zQv wC (zms wC [2367]) M (fun M1 => True)) (zB D dA vwCl wC nC b) (zA nC b)) args s 0 0 (zA nC b)) (F0 m 5 ls []) := by
    intro n2
    induction n2 with
    | zero =>
      intro i1 M5 H locs ls hm r_i1 i6 hS hS0 hl
      exfalso
      omega
    | succ n2 ih3 =>
      intro i1 M5 H locs ls hm r_i1 i6 hS hS0 hl
      have J7 := hS.2.1
      have F8 := hS.2.2
      refine lv_iload_n hx hb dJ7_fill_53178_5 rfl (lv_at hl 2 rfl) ?_
      refine lv_iload_n hx hb dJ7_fill_53178_6 rfl (lv_at hl 3 rfl) ?_
      refine z_icmp_ge (tgt := 20) hx hb r_i1 (by decide) dJ7_fill_53178_7 (by decide) (fun c9 => ?_) (fun c9 => ?_)
      · skip
        exact z_vret hx hb hr hlocks hS hS0 (by first | exact trivial | exact ⟨rfl, trivial⟩ | omega | (refine ⟨by omega, trivial⟩)) dJ7_fill_53178_20
      · skip
        refine lv_aload_n hx hb dJ7_fill_53178_10 rfl (lv_at hl 0 rfl) ?_
        refine lv_iload_n hx hb dJ7_fill_53178_11 rfl (lv_at hl 2 rfl) ?_
        refine lv_iload_n hx hb dJ7_fill_53178_12 rfl (lv_at hl 1 rfl) ?_
        refine z_iast (n := 24) hx hb hK.1 (t0 := 0) rfl hS hS0 (by decide) (zkd_of (rfl : zcd wC 84 = 36) rfl) (zln_of (rfl : zcd wC 84 = 36) rfl) (by omega) (by omega) (by decide) (zbd_in (rfl : zcd wC 84 = 36) rfl r_v) (zms_of (rfl : zcd wC 84 = 36) rfl) dJ7_fill_53178_13 (fun H locs hS hS0 => ?_)
        obtain ⟨M10, e11⟩ : ∃ M10 : zM, M10 = zup M5 84 (i1.toNat) v := ⟨_, rfl⟩
        rw [← e11] at hS
        have J12 := hS.2.1
        refine z_iinc (lv' := [(2, .int (iI (i1 + 1))), (0, .ref (b + 84)), (1, .int (iI v)), (3, .int (iI 24))]) hx hb dJ7_fill_53178_14 hl (k := 2) rfl (by decide) rfl (fun ls hl => ?_)
        refine lv_goto (tgt := 5) hx hb dJ7_fill_53178_17 (by decide) ?_
        exact ih3 (i1 + 1) M10 _ _ _ (by omega) ⟨by omega, by omega⟩ (by omega) hS hS0 (lv_sub hl [1, 2, 0, 3] rfl)
  exact L4 _ 0 M _ _ _ (Nat.le_refl _) (by decide) (by omega) hS hS0 (lv_sub hl [2, 3, 1, 0] rfl)

set_option maxHeartbeats 4000000 in
set_option maxRecDepth 100000 in
theorem n_fill85 (l : Launch) (D : va_G) (dA : Nat → ClassId) (b : Nat) (M : zM) (v : Int) (r_v : R32 v) : Met l yJ7_fill_53178 (.code yJ7_fill_53178 cJ7_fill_53178 4 none :: zt) (z_rm 0) (va_Pc [.ref (b + 85), .int (iI v)] (zP D dA vwCl (z_tys dA) wC nC b M)) (va_Qv (zQv wC (zms wC [2431]) M (fun M1 => True)) (zB D dA vwCl wC nC b) (zA nC b)) 0 0 (zA nC b) := by
  refine Met.ofW (cc := cJ7_fill_53178) (maxL := 4) (ret := none) (by decide) rfl ?_
  intro p e s m args below meth c s₁ B hml hv
  obtain ⟨hargs, hR0, hJ, hK⟩ := hv
  have hx := B.exec
  have hb := B.bytes
  have hr := B.returns
  have hts := atoms_spec (ws := .code yJ7_fill_53178 cJ7_fill_53178 4 none :: zt) B.pre
  have hown : s.vm.findClass RJ7 = some m.cls := findClass_of_methodNamed B.named
  have hlocks := B.notSynchronized
  have hS : zS D dA vwCl wC nC b (zms wC [2431]) M M s.heap := ⟨hR0, hJ, zF_rf _ _⟩
  have hS0 : va_S (zA nC b) s.heap s.heap [] := va_S.rf
  have hl := lv_entry ([.ref (b + 85), .int (iI v)]) (n := 4) (Nat.le_of_ble_eq_true rfl)
  have hent : entryFrame m args 4 = F0 m 0 ((lg_sl ([.ref (b + 85), .int (iI v)]) ++ List.replicate (4 - (lg_sl ([.ref (b + 85), .int (iI v)])).length) Slot.unset).toArray) [] := by rw [hargs]; exact lg_entry_eq m ([.ref (b + 85), .int (iI v)]) 4
  rw [hent]
  generalize (lg_sl ([.ref (b + 85), .int (iI v)]) ++ List.replicate (4 - (lg_sl ([.ref (b + 85), .int (iI v)])).length) Slot.unset).toArray = ls at hl ⊢
  have hl : lv_has ls 4 [(0, .ref (b + 85)), (1, .int (iI v))] := hl
  refine z_iconst hx hb dJ7_fill_53178_0 ?_
  refine lv_istore_n (lv' := [(2, .int (iI 0)), (0, .ref (b + 85)), (1, .int (iI v))]) hx hb dJ7_fill_53178_1 rfl hl (by decide) rfl (fun ls hl => ?_)
  refine lv_aload_n hx hb dJ7_fill_53178_2 rfl (lv_at hl 1 rfl) ?_
  refine z_alen (n := 24) hx hb hK.1 (t0 := 0) rfl hS (by decide) (zkd_of (rfl : zcd wC 85 = 37) rfl) (zln_of (rfl : zcd wC 85 = 37) rfl) dJ7_fill_53178_3 ?_
  refine z_top (show (((24 : Nat) : Int)) = 24 from by decide) ?_
  refine lv_istore_n (lv' := [(3, .int (iI 24)), (2, .int (iI 0)), (0, .ref (b + 85)), (1, .int (iI v))]) hx hb dJ7_fill_53178_4 rfl hl (by decide) rfl (fun ls hl => ?_)
  have L4 : ∀ (n2 : Nat) (i1 : Int) (M5 : zM) (H : Heap) (locs : List Loc) (ls : Array Slot), (2147483648 - i1).toNat ≤ n2 → R32 i1 → (0 ≤ i1) → zS D dA vwCl wC nC b (zms wC [2431]) M M5 H → va_S (zA nC b) s.heap H locs → lv_has ls 4 [(0, .ref (b + 85)), (1, .int (iI v)), (2, .int (iI i1)), (3, .int (iI 24))] → W p l e (headSpec (.code yJ7_fill_53178 cJ7_fill_53178 4 none :: zt) (z_rm 0)).room s m args below meth c H locs 0 0 (MQ below (va_Qv (zQv wC (zms wC [2431]) M (fun M1 => True)) (zB D dA vwCl wC nC b) (zA nC b)) args s 0 0 (zA nC b)) (F0 m 5 ls []) := by
    intro n2
    induction n2 with
    | zero =>
      intro i1 M5 H locs ls hm r_i1 i6 hS hS0 hl
      exfalso
      omega
    | succ n2 ih3 =>
      intro i1 M5 H locs ls hm r_i1 i6 hS hS0 hl
      have J7 := hS.2.1
      have F8 := hS.2.2
      refine lv_iload_n hx hb dJ7_fill_53178_5 rfl (lv_at hl 2 rfl) ?_
      refine lv_iload_n hx hb dJ7_fill_53178_6 rfl (lv_at hl 3 rfl) ?_
      refine z_icmp_ge (tgt := 20) hx hb r_i1 (by decide) dJ7_fill_53178_7 (by decide) (fun c9 => ?_) (fun c9 => ?_)
      · skip
        exact z_vret hx hb hr hlocks hS hS0 (by first | exact trivial | exact ⟨rfl, trivial⟩ | omega | (refine ⟨by omega, trivial⟩)) dJ7_fill_53178_20
      · skip
        refine lv_aload_n hx hb dJ7_fill_53178_10 rfl (lv_at hl 0 rfl) ?_
        refine lv_iload_n hx hb dJ7_fill_53178_11 rfl (lv_at hl 2 rfl) ?_
        refine lv_iload_n hx hb dJ7_fill_53178_12 rfl (lv_at hl 1 rfl) ?_
        refine z_iast (n := 24) hx hb hK.1 (t0 := 0) rfl hS hS0 (by decide) (zkd_of (rfl : zcd wC 85 = 37) rfl) (zln_of (rfl : zcd wC 85 = 37) rfl) (by omega) (by omega) (by decide) (zbd_in (rfl : zcd wC 85 = 37) rfl r_v) (zms_of (rfl : zcd wC 85 = 37) rfl) dJ7_fill_53178_13 (fun H locs hS hS0 => ?_)
        obtain ⟨M10, e11⟩ : ∃ M10 : zM, M10 = zup M5 85 (i1.toNat) v := ⟨_, rfl⟩
        rw [← e11] at hS
        have J12 := hS.2.1
        refine z_iinc (lv' := [(2, .int (iI (i1 + 1))), (0, .ref (b + 85)), (1, .int (iI v)), (3, .int (iI 24))]) hx hb dJ7_fill_53178_14 hl (k := 2) rfl (by decide) rfl (fun ls hl => ?_)
        refine lv_goto (tgt := 5) hx hb dJ7_fill_53178_17 (by decide) ?_
        exact ih3 (i1 + 1) M10 _ _ _ (by omega) ⟨by omega, by omega⟩ (by omega) hS hS0 (lv_sub hl [1, 2, 0, 3] rfl)
  exact L4 _ 0 M _ _ _ (Nat.le_refl _) (by decide) (by omega) hS hS0 (lv_sub hl [2, 3, 1, 0] rfl)

set_option maxHeartbeats 4000000 in
set_option maxRecDepth 100000 in
theorem n_padd (l : Launch) (D : va_G) (dA : Nat → ClassId) (b : Nat) (M : zM) (t : Int) (sd : Int) (r_t : R32 t) (r_sd : R32 sd) (g0 : M 60 2 = 0) (p0 : 0 ≤ t ∧ t ≤ 100000) (p1 : 1 ≤ sd ∧ sd ≤ 9) : Met l yX5_add (.code yX5_add cX5_add 3 (some .int) :: zt) (z_rm 0) (va_Pc [.ref (b + 60), .int (iI t), .int (iI sd)] (zP D dA vwCl (z_tys dA) wC nC b M)) (va_Qi (zQi wC (zms wC [1218, 1343, 1407]) M (fun z M1 => z = 1 ∧ True)) (zB D dA vwCl wC nC b) (zA nC b)) 0 0 (zA nC b) := by
  refine Met.ofW (cc := cX5_add) (maxL := 3) (ret := (some .int)) (by decide) rfl ?_
  intro p e s m args below meth c s₁ B hml hv
  obtain ⟨hargs, hR0, hJ, hK⟩ := hv
  have hx := B.exec
  have hb := B.bytes
  have hr := B.returns
  have hts := atoms_spec (ws := .code yX5_add cX5_add 3 (some .int) :: zt) B.pre
  have hown : s.vm.findClass RX5 = some m.cls := findClass_of_methodNamed B.named
  have hlocks := B.notSynchronized
  have hS : zS D dA vwCl wC nC b (zms wC [1218, 1343, 1407]) M M s.heap := ⟨hR0, hJ, zF_rf _ _⟩
  have hS0 : va_S (zA nC b) s.heap s.heap [] := va_S.rf
  have hl := lv_entry ([.ref (b + 60), .int (iI t), .int (iI sd)]) (n := 3) (Nat.le_of_ble_eq_true rfl)
  have hent : entryFrame m args 3 = F0 m 0 ((lg_sl ([.ref (b + 60), .int (iI t), .int (iI sd)]) ++ List.replicate (3 - (lg_sl ([.ref (b + 60), .int (iI t), .int (iI sd)])).length) Slot.unset).toArray) [] := by rw [hargs]; exact lg_entry_eq m ([.ref (b + 60), .int (iI t), .int (iI sd)]) 3
  rw [hent]
  generalize (lg_sl ([.ref (b + 60), .int (iI t), .int (iI sd)]) ++ List.replicate (3 - (lg_sl ([.ref (b + 60), .int (iI t), .int (iI sd)])).length) Slot.unset).toArray = ls at hl ⊢
  have hl : lv_has ls 3 [(0, .ref (b + 60)), (1, .int (iI t)), (2, .int (iI sd))] := hl
  refine lv_aload_n hx hb dX5_add_0 rfl (lv_at hl 0 rfl) ?_
  refine z_geti hx hb hts (z_memU u5) hown hK.1 hS f5_2 (by decide) (zkd_of (rfl : zcd wC 60 = 19) rfl) (Or.inl (hts _ (z_mem k145))) dX5_add_1 ?_
  refine z_top (show M 60 2 = 0 from by rw [g0]) ?_
  refine z_bipush hx hb (by decide) dX5_add_4 ?_
  refine z_icmp_lt (tgt := 11) hx hb (by decide) (by decide) dX5_add_6 (by decide) (fun c1 => ?_) (fun c1 => absurd c1 (by decide))
  refine lv_aload_n hx hb dX5_add_11 rfl (lv_at hl 0 rfl) ?_
  refine z_getr (j2 := 61) hx hb hts (z_memU u5) hown hK.1 hS f5_0 (by decide) (zkd_of (rfl : zcd wC 60 = 19) rfl) (zrf_of (rfl : zcd wC 60 = 19) rfl) (Or.inl (hts _ (z_mem k143))) dX5_add_12 ?_
  refine lv_aload_n hx hb dX5_add_15 rfl (lv_at hl 0 rfl) ?_
  refine z_geti hx hb hts (z_memU u5) hown hK.1 hS f5_2 (by decide) (zkd_of (rfl : zcd wC 60 = 19) rfl) (Or.inl (hts _ (z_mem k145))) dX5_add_16 ?_
  refine z_top (show M 60 2 = 0 from by rw [g0]) ?_
  refine lv_iload_n hx hb dX5_add_19 rfl (lv_at hl 1 rfl) ?_
  refine z_iast (n := 6) hx hb hK.1 (t0 := 0) rfl hS hS0 (by decide) (zkd_of (rfl : zcd wC 61 = 20) rfl) (zln_of (rfl : zcd wC 61 = 20) rfl) (by decide) (by decide) (by decide) (zbd_in (rfl : zcd wC 61 = 20) rfl ⟨by omega, by omega⟩) (zms_of (rfl : zcd wC 61 = 20) rfl) dX5_add_20 (fun H locs hS hS0 => ?_)
  obtain ⟨M2, e3⟩ : ∃ M2 : zM, M2 = zup M 61 ((0 : Int).toNat) t := ⟨_, rfl⟩
  rw [← e3] at hS
  have J4 := hS.2.1
  refine lv_aload_n hx hb dX5_add_21 rfl (lv_at hl 0 rfl) ?_
  refine z_getr (j2 := 62) hx hb hts (z_memU u5) hown hK.1 hS f5_1 (by decide) (zkd_of (rfl : zcd wC 60 = 19) rfl) (zrf_of (rfl : zcd wC 60 = 19) rfl) (Or.inl (hts _ (z_mem k144))) dX5_add_22 ?_
  refine lv_aload_n hx hb dX5_add_25 rfl (lv_at hl 0 rfl) ?_
  refine z_geti hx hb hts (z_memU u5) hown hK.1 hS f5_2 (by decide) (zkd_of (rfl : zcd wC 60 = 19) rfl) (Or.inl (hts _ (z_mem k145))) dX5_add_26 ?_
  refine z_top (show M2 60 2 = 0 from by rw [e3, zup_n _ _ (by omega), g0]) ?_
  refine lv_iload_n hx hb dX5_add_29 rfl (lv_at hl 2 rfl) ?_
  refine z_iast (n := 6) hx hb hK.1 (t0 := 0) rfl hS hS0 (by decide) (zkd_of (rfl : zcd wC 62 = 21) rfl) (zln_of (rfl : zcd wC 62 = 21) rfl) (by decide) (by decide) (by decide) (zbd_in (rfl : zcd wC 62 = 21) rfl ⟨by omega, by omega⟩) (zms_of (rfl : zcd wC 62 = 21) rfl) dX5_add_30 (fun H locs hS hS0 => ?_)
  obtain ⟨M5, e6⟩ : ∃ M5 : zM, M5 = zup M2 62 ((0 : Int).toNat) sd := ⟨_, rfl⟩
  rw [← e6] at hS
  have J7 := hS.2.1
  refine lv_aload_n hx hb dX5_add_31 rfl (lv_at hl 0 rfl) ?_
  refine lv_dup hx hb dX5_add_32 rfl ?_
  refine z_geti hx hb hts (z_memU u5) hown hK.1 hS f5_2 (by decide) (zkd_of (rfl : zcd wC 60 = 19) rfl) (Or.inl (hts _ (z_mem k145))) dX5_add_33 ?_
  refine z_top (show M5 60 2 = 0 from by rw [e6, zup_n _ _ (by omega), e3, zup_n _ _ (by omega), g0]) ?_
  refine z_iconst hx hb dX5_add_36 ?_
  refine z_iadd hx hb dX5_add_37 ?_
  refine z_top (show ((0 + 1) : Int) = 1 from (by decide)) ?_
  refine z_puti hx hb hts (z_memU u5) tyX5 tyX5_ok nmX5 hown hK.1 hS hS0 f5_2 (by decide) (zkd_of (rfl : zcd wC 60 = 19) rfl) (Or.inl (hts _ (z_mem k145))) rfl (z := 1) (by decide +kernel) (zbd_in (rfl : zcd wC 60 = 19) rfl (by decide)) (zms_of (rfl : zcd wC 60 = 19) rfl) dX5_add_38 (fun H locs hS hS0 => ?_)
  obtain ⟨M8, e9⟩ : ∃ M8 : zM, M8 = zup M5 60 2 1 := ⟨_, rfl⟩
  rw [← e9] at hS
  have J10 := hS.2.1
  refine lv_aload_n hx hb dX5_add_41 rfl (lv_at hl 0 rfl) ?_
  refine z_geti hx hb hts (z_memU u5) hown hK.1 hS f5_2 (by decide) (zkd_of (rfl : zcd wC 60 = 19) rfl) (Or.inl (hts _ (z_mem k145))) dX5_add_42 ?_
  refine z_top (show M8 60 2 = 1 from by rw [e9, zup_s]) ?_
  exact z_iret hx hb hr hlocks hS hS0 (by decide) (by first | exact trivial | exact ⟨rfl, trivial⟩ | omega | (refine ⟨by omega, trivial⟩)) dX5_add_45

set_option maxHeartbeats 4000000 in
set_option maxRecDepth 100000 in
theorem n_marksTrue (l : Launch) (D : va_G) (dA : Nat → ClassId) (b : Nat) (M : zM) (g0 : M 60 2 = 0) : Met l yX5_marksTrue (.code yX5_marksTrue cX5_marksTrue 4 (some .int) :: zt) (z_rm 0) (va_Pc [.ref (b + 60), .ref (b + 32)] (zP D dA vwCl (z_tys dA) wC nC b M)) (va_Qi (zQi wC (zms wC []) M (fun z M1 => M1 = M ∧ (z = 0 ∧ True))) (zB D dA vwCl wC nC b) (zA nC b)) 0 0 (zA nC b) := by
  refine Met.ofW (cc := cX5_marksTrue) (maxL := 4) (ret := (some .int)) (by decide) rfl ?_
  intro p e s m args below meth c s₁ B hml hv
  obtain ⟨hargs, hR0, hJ, hK⟩ := hv
  have hx := B.exec
  have hb := B.bytes
  have hr := B.returns
  have hts := atoms_spec (ws := .code yX5_marksTrue cX5_marksTrue 4 (some .int) :: zt) B.pre
  have hown : s.vm.findClass RX5 = some m.cls := findClass_of_methodNamed B.named
  have hlocks := B.notSynchronized
  have hS : zS D dA vwCl wC nC b (zms wC []) M M s.heap := ⟨hR0, hJ, zF_rf _ _⟩
  have hS0 : va_S (zA nC b) s.heap s.heap [] := va_S.rf
  have hl := lv_entry ([.ref (b + 60), .ref (b + 32)]) (n := 4) (Nat.le_of_ble_eq_true rfl)
  have hent : entryFrame m args 4 = F0 m 0 ((lg_sl ([.ref (b + 60), .ref (b + 32)]) ++ List.replicate (4 - (lg_sl ([.ref (b + 60), .ref (b + 32)])).length) Slot.unset).toArray) [] := by rw [hargs]; exact lg_entry_eq m ([.ref (b + 60), .ref (b + 32)]) 4
  rw [hent]
  generalize (lg_sl ([.ref (b + 60), .ref (b + 32)]) ++ List.replicate (4 - (lg_sl ([.ref (b + 60), .ref (b + 32)])).length) Slot.unset).toArray = ls at hl ⊢
  have hl : lv_has ls 4 [(0, .ref (b + 60)), (1, .ref (b + 32))] := hl
  refine z_iconst hx hb dX5_marksTrue_0 ?_
  refine lv_istore_n (lv' := [(2, .int (iI 0)), (0, .ref (b + 60)), (1, .ref (b + 32))]) hx hb dX5_marksTrue_1 rfl hl (by decide) rfl (fun ls hl => ?_)
  refine z_iconst hx hb dX5_marksTrue_2 ?_
  refine lv_istore_n (lv' := [(3, .int (iI 0)), (2, .int (iI 0)), (0, .ref (b + 60)), (1, .ref (b + 32))]) hx hb dX5_marksTrue_3 rfl hl (by decide) rfl (fun ls hl => ?_)
  refine lv_iload_n hx hb dX5_marksTrue_4 rfl (lv_at hl 0 rfl) ?_
  refine lv_aload_n hx hb dX5_marksTrue_5 rfl (lv_at hl 2 rfl) ?_
  refine z_geti hx hb hts (z_memU u5) hown hK.1 hS f5_2 (by decide) (zkd_of (rfl : zcd wC 60 = 19) rfl) (Or.inl (hts _ (z_mem k145))) dX5_marksTrue_6 ?_
  refine z_top (show M 60 2 = 0 from by rw [g0]) ?_
  refine z_icmp_ge (tgt := 43) hx hb (by decide) (by decide) dX5_marksTrue_9 (by decide) (fun c1 => ?_) (fun c1 => absurd c1 (by decide))
  refine lv_iload_n hx hb dX5_marksTrue_43 rfl (lv_at hl 1 rfl) ?_
  exact z_iret hx hb hr hlocks hS hS0 (by decide) (⟨rfl, by first | exact trivial | exact ⟨rfl, trivial⟩ | omega | (refine ⟨by omega, trivial⟩)⟩) dX5_marksTrue_44

set_option maxHeartbeats 4000000 in
set_option maxRecDepth 100000 in
theorem n_pfind (l : Launch) (D : va_G) (dA : Nat → ClassId) (b : Nat) (M : zM) (g0 : M 60 2 = 0) (g1 : M 32 2 = 0) : Met l yX5_find (.code yX5_find cX5_find 6 (some .int) :: zt) (z_rm 1) (va_Pc [.ref (b + 60), .ref (b + 32)] (zP D dA vwCl (z_tys dA) wC nC b M)) (va_Qi (zQi wC (zms wC [1727]) M (fun z M1 => z = 0 ∧ True)) (zB D dA vwCl wC nC b) (zA nC b)) 0 0 (zA nC b) := by
  refine Met.ofW (cc := cX5_find) (maxL := 6) (ret := (some .int)) (by decide) rfl ?_
  intro p e s m args below meth c s₁ B hml hv
  obtain ⟨hargs, hR0, hJ, hK⟩ := hv
  have hx := B.exec
  have hb := B.bytes
  have hr := B.returns
  have hts := atoms_spec (ws := .code yX5_find cX5_find 6 (some .int) :: zt) B.pre
  have hown : s.vm.findClass RX5 = some m.cls := findClass_of_methodNamed B.named
  have hlocks := B.notSynchronized
  have hS : zS D dA vwCl wC nC b (zms wC [1727]) M M s.heap := ⟨hR0, hJ, zF_rf _ _⟩
  have hS0 : va_S (zA nC b) s.heap s.heap [] := va_S.rf
  have hl := lv_entry ([.ref (b + 60), .ref (b + 32)]) (n := 6) (Nat.le_of_ble_eq_true rfl)
  have hent : entryFrame m args 6 = F0 m 0 ((lg_sl ([.ref (b + 60), .ref (b + 32)]) ++ List.replicate (6 - (lg_sl ([.ref (b + 60), .ref (b + 32)])).length) Slot.unset).toArray) [] := by rw [hargs]; exact lg_entry_eq m ([.ref (b + 60), .ref (b + 32)]) 6
  rw [hent]
  generalize (lg_sl ([.ref (b + 60), .ref (b + 32)]) ++ List.replicate (6 - (lg_sl ([.ref (b + 60), .ref (b + 32)])).length) Slot.unset).toArray = ls at hl ⊢
  have hl : lv_has ls 6 [(0, .ref (b + 60)), (1, .ref (b + 32))] := hl
  refine lv_aload_n hx hb dX5_find_0 rfl (lv_at hl 1 rfl) ?_
  refine z_geti hx hb hts (z_memU u9) hown hK.1 hS f9_2 (by decide) (zkd_of (rfl : zcd wC 32 = 8) rfl) (Or.inl (hts _ (z_mem k119))) dX5_find_1 ?_
  refine z_top (show M 32 2 = 0 from by rw [g1]) ?_
  refine lv_istore_n (lv' := [(2, .int (iI 0)), (0, .ref (b + 60)), (1, .ref (b + 32))]) hx hb dX5_find_4 rfl hl (by decide) rfl (fun ls hl => ?_)
  refine lv_aload_n hx hb dX5_find_5 rfl (lv_at hl 1 rfl) ?_
  refine z_getr (j2 := 69) hx hb hts (z_memU u5) hown hK.1 hS f5_5 (by decide) (zkd_of (rfl : zcd wC 60 = 19) rfl) (zrf_of (rfl : zcd wC 60 = 19) rfl) (Or.inl (hts _ (z_mem k150))) dX5_find_6 ?_
  refine lv_iload_n hx hb dX5_find_9 rfl (lv_at hl 0 rfl) ?_
  refine z_aald (n := 5) (j2 := 70) hx hb hK.1 (t0 := 7) (r := 7) (by decide) rfl rfl hS (by decide) (zkd_of (rfl : zcd wC 69 = 25) rfl) (zln_of (rfl : zcd wC 69 = 25) rfl) (by decide) (by decide) (by decide) (zrf_of (rfl : zcd wC 69 = 25) rfl) dX5_find_10 ?_
  refine z_ldc (n := 1000000) hx hb hown (hts _ (z_mem k625)) (by decide) dX5_find_11 ?_
  refine z_callv (va_runS (As := [.ref (b + 70), .int (iI 1000000)]) (rest := []) ⟨hx, hb, hml, hown, hts⟩ (n_fill70 l D dA b M 1000000 (by decide)) (va_cwS 2 hts (z_gS k626 k170 k10 k171) rfl rfl rfl dm_J7_fill_53178.2 ⟨Nat.le_of_ble_eq_true rfl, Nat.le_of_ble_eq_true rfl⟩) ⟨zP_blind, z_pre hS hK⟩ rfl rfl hl.1 rfl (lv_room (Nat.le_of_ble_eq_true rfl)) dX5_find_13 ⟨Nat.le_refl _, Nat.le_refl _⟩) hS hS0 (zms_sub rfl) (fun M1 H locs h2 F3 hS hS0 => ?_)
  have J4 := hS.2.1
  refine lv_aload_n hx hb dX5_find_16 rfl (lv_at hl 1 rfl) ?_
  refine z_getr (j2 := 69) hx hb hts (z_memU u5) hown hK.1 hS f5_5 (by decide) (zkd_of (rfl : zcd wC 60 = 19) rfl) (zrf_of (rfl : zcd wC 60 = 19) rfl) (Or.inl (hts _ (z_mem k150))) dX5_find_17 ?_
  refine lv_iload_n hx hb dX5_find_20 rfl (lv_at hl 0 rfl) ?_
  refine z_aald (n := 5) (j2 := 70) hx hb hK.1 (t0 := 7) (r := 7) (by decide) rfl rfl hS (by decide) (zkd_of (rfl : zcd wC 69 = 25) rfl) (zln_of (rfl : zcd wC 69 = 25) rfl) (by decide) (by decide) (by decide) (zrf_of (rfl : zcd wC 69 = 25) rfl) dX5_find_21 ?_
  refine z_iconst hx hb dX5_find_22 ?_
  refine z_iconst hx hb dX5_find_23 ?_
  refine z_iast (n := 64) hx hb hK.1 (t0 := 0) rfl hS hS0 (by decide) (zkd_of (rfl : zcd wC 70 = 26) rfl) (zln_of (rfl : zcd wC 70 = 26) rfl) (by decide) (by decide) (by decide) (zbd_in (rfl : zcd wC 70 = 26) rfl (by decide)) (zms_of (rfl : zcd wC 70 = 26) rfl) dX5_find_24 (fun H locs hS hS0 => ?_)
  obtain ⟨M5, e6⟩ : ∃ M5 : zM, M5 = zup M1 70 ((0 : Int).toNat) 0 := ⟨_, rfl⟩
  rw [← e6] at hS
  have J7 := hS.2.1
  refine lv_iload_n hx hb dX5_find_25 rfl (lv_at hl 0 rfl) ?_
  refine z_iconst hx hb dX5_find_26 ?_
  refine z_isub hx hb dX5_find_27 ?_
  refine z_top (show ((0 - 1) : Int) = (-1) from (by decide)) ?_
  refine lv_istore_n (lv' := [(3, .int (iI (-1))), (2, .int (iI 0)), (0, .ref (b + 60)), (1, .ref (b + 32))]) hx hb dX5_find_28 rfl hl (by decide) rfl (fun ls hl => ?_)
  refine lv_iload_n hx hb dX5_find_29 rfl (lv_at hl 0 rfl) ?_
  refine z_if_lt (tgt := 102) hx hb (by decide) dX5_find_30 (by decide) (fun c8 => ?_) (fun c8 => absurd c8 (by decide))
  refine z_iconst hx hb dX5_find_102 ?_
  refine lv_aload_n hx hb dX5_find_103 rfl (lv_at hl 2 rfl) ?_
  refine z_geti hx hb hts (z_memU u5) hown hK.1 hS f5_2 (by decide) (zkd_of (rfl : zcd wC 60 = 19) rfl) (Or.inl (hts _ (z_mem k145))) dX5_find_104 ?_
  refine z_top (show M5 60 2 = 0 from by rw [e6, zup_n _ _ (by omega), F3 _ _ (zms_not (rfl : zcd wC 60 = 19) rfl), g0]) ?_
  refine z_ishl hx hb dX5_find_107 (fun z9 r10 e11 => ?_)
  obtain rfl : z9 = 1 := iI_inj r10 (by decide) (e11.trans (by decide))
  refine z_iconst hx hb dX5_find_108 ?_
  refine z_isub hx hb dX5_find_109 ?_
  refine z_top (show ((1 - 1) : Int) = 0 from (by decide)) ?_
  refine lv_istore_n (lv' := [(3, .int (iI 0)), (2, .int (iI 0)), (0, .ref (b + 60)), (1, .ref (b + 32))]) hx hb dX5_find_110 rfl hl (by decide) rfl (fun ls hl => ?_)
  refine lv_aload_n hx hb dX5_find_111 rfl (lv_at hl 2 rfl) ?_
  refine z_getr (j2 := 69) hx hb hts (z_memU u5) hown hK.1 hS f5_5 (by decide) (zkd_of (rfl : zcd wC 60 = 19) rfl) (zrf_of (rfl : zcd wC 60 = 19) rfl) (Or.inl (hts _ (z_mem k150))) dX5_find_112 ?_
  refine z_iconst hx hb dX5_find_115 ?_
  refine z_aald (n := 5) (j2 := 70) hx hb hK.1 (t0 := 7) (r := 7) (by decide) rfl rfl hS (by decide) (zkd_of (rfl : zcd wC 69 = 25) rfl) (zln_of (rfl : zcd wC 69 = 25) rfl) (by decide) (by decide) (by decide) (zrf_of (rfl : zcd wC 69 = 25) rfl) dX5_find_116 ?_
  refine lv_iload_n hx hb dX5_find_117 rfl (lv_at hl 0 rfl) ?_
  refine z_iald (n := 64) hx hb hK.1 (t0 := 0) rfl hS (by decide) (zkd_of (rfl : zcd wC 70 = 26) rfl) (zln_of (rfl : zcd wC 70 = 26) rfl) (by decide) (by decide) (by decide) dX5_find_118 ?_
  refine z_top (show M5 70 ((0 : Int).toNat) = 0 from by rw [e6, zup_s]) ?_
  refine lv_istore (lv' := [(4, .int (iI 0)), (3, .int (iI 0)), (2, .int (iI 0)), (0, .ref (b + 60)), (1, .ref (b + 32))]) hx hb dX5_find_119 hl (by decide) rfl (fun ls hl => ?_)
  refine lv_iload hx hb dX5_find_121 (lv_at hl 0 rfl) ?_
  refine z_ldc (n := 1000000) hx hb hown (hts _ (z_mem k625)) (by decide) dX5_find_123 ?_
  refine z_icmp_lt (tgt := 130) hx hb (by decide) (by decide) dX5_find_125 (by decide) (fun c12 => ?_) (fun c12 => absurd c12 (by decide))
  refine z_iconst hx hb dX5_find_130 ?_
  refine lv_istore (lv' := [(5, .int (iI 0)), (4, .int (iI 0)), (3, .int (iI 0)), (2, .int (iI 0)), (0, .ref (b + 60)), (1, .ref (b + 32))]) hx hb dX5_find_131 hl (by decide) rfl (fun ls hl => ?_)
  refine lv_iload hx hb dX5_find_133 (lv_at hl 0 rfl) ?_
  refine lv_iload_n hx hb dX5_find_135 rfl (lv_at hl 3 rfl) ?_
  refine z_icmp_ge (tgt := 159) hx hb (by decide) (by decide) dX5_find_136 (by decide) (fun c13 => ?_) (fun c13 => absurd c13 (by decide))
  refine lv_iload hx hb dX5_find_159 (lv_at hl 1 rfl) ?_
  exact z_iret hx hb hr hlocks hS hS0 (by decide) (by first | exact trivial | exact ⟨rfl, trivial⟩ | omega | (refine ⟨by omega, trivial⟩)) dX5_find_161

set_option maxHeartbeats 4000000 in
set_option maxRecDepth 100000 in
theorem n_carryOut (l : Launch) (D : va_G) (dA : Nat → ClassId) (b : Nat) (M : zM) (g0 : M 32 2 = 0) : Met l yX5_carryOut (.code yX5_carryOut cX5_carryOut 4 none :: zt) (z_rm 1) (va_Pc [.ref (b + 60), .ref (b + 32)] (zP D dA vwCl (z_tys dA) wC nC b M)) (va_Qv (zQv wC (zms wC []) M (fun M1 => M1 = M ∧ (True))) (zB D dA vwCl wC nC b) (zA nC b)) 0 0 (zA nC b) := by
  refine Met.ofW (cc := cX5_carryOut) (maxL := 4) (ret := none) (by decide) rfl ?_
  intro p e s m args below meth c s₁ B hml hv
  obtain ⟨hargs, hR0, hJ, hK⟩ := hv
  have hx := B.exec
  have hb := B.bytes
  have hr := B.returns
  have hts := atoms_spec (ws := .code yX5_carryOut cX5_carryOut 4 none :: zt) B.pre
  have hown : s.vm.findClass RX5 = some m.cls := findClass_of_methodNamed B.named
  have hlocks := B.notSynchronized
  have hS : zS D dA vwCl wC nC b (zms wC []) M M s.heap := ⟨hR0, hJ, zF_rf _ _⟩
  have hS0 : va_S (zA nC b) s.heap s.heap [] := va_S.rf
  have hl := lv_entry ([.ref (b + 60), .ref (b + 32)]) (n := 4) (Nat.le_of_ble_eq_true rfl)
  have hent : entryFrame m args 4 = F0 m 0 ((lg_sl ([.ref (b + 60), .ref (b + 32)]) ++ List.replicate (4 - (lg_sl ([.ref (b + 60), .ref (b + 32)])).length) Slot.unset).toArray) [] := by rw [hargs]; exact lg_entry_eq m ([.ref (b + 60), .ref (b + 32)]) 4
  rw [hent]
  generalize (lg_sl ([.ref (b + 60), .ref (b + 32)]) ++ List.replicate (4 - (lg_sl ([.ref (b + 60), .ref (b + 32)])).length) Slot.unset).toArray = ls at hl ⊢
  have hl : lv_has ls 4 [(0, .ref (b + 60)), (1, .ref (b + 32))] := hl
  refine z_iconst hx hb dX5_carryOut_0 ?_
  refine lv_istore_n (lv' := [(2, .int (iI 0)), (0, .ref (b + 60)), (1, .ref (b + 32))]) hx hb dX5_carryOut_1 rfl hl (by decide) rfl (fun ls hl => ?_)
  refine lv_iload_n hx hb dX5_carryOut_2 rfl (lv_at hl 0 rfl) ?_
  refine z_iconst hx hb dX5_carryOut_3 ?_
  refine z_icmp_ge (tgt := 49) hx hb (by decide) (by decide) dX5_carryOut_4 (by decide) (fun c1 => absurd c1 (by decide)) (fun c1 => ?_)
  refine lv_aload_n hx hb dX5_carryOut_7 rfl (lv_at hl 2 rfl) ?_
  refine lv_iload_n hx hb dX5_carryOut_8 rfl (lv_at hl 0 rfl) ?_
  refine z_callq (va_runV (As := [.int (iI 0)]) (rest := []) ⟨hx, hb, hml, hown, hts⟩ (n_find l D dA b M 0 (by decide) (by rw [g0])) (cwV 1 hts (z_gV k627 k412 k413 k4 k414) rfl rfl rfl dm_X9_find ⟨Nat.le_of_ble_eq_true rfl, Nat.le_of_ble_eq_true rfl⟩) ⟨zP_blind, (z_recv hS hK.1 (by decide) (zkd_of (rfl : zcd wC 32 = 8) rfl) (by decide) (rfl : vwCl[9]? = some (RX9, TX9, 3))), z_pre hS hK⟩ rfl rfl hl.1 rfl (lv_room (Nat.le_of_ble_eq_true rfl)) dX5_carryOut_9 ⟨Nat.le_refl _, Nat.le_refl _⟩) hS hS0 (zms_sub rfl) (fun z6 M2 H locs h3 F4 hS hS0 => ?_)
  obtain ⟨h7, h3⟩ := h3
  rw [h7] at hS
  have h8 := h3
  obtain ⟨z6e, h8⟩ := h8
  subst z6e
  show W _ _ _ _ _ _ _ _ _ _ _ _ _ _ _ (F0 m _ ls (.null :: []))
  refine lv_astore_nN (lv' := [(3, .null), (2, .int (iI 0)), (0, .ref (b + 60)), (1, .ref (b + 32))]) hx hb dX5_carryOut_12 rfl hl (by decide) rfl (fun ls hl => ?_)
  refine lv_aload_nN hx hb dX5_carryOut_13 rfl (lv_at hl 0 rfl) ?_
  refine lv_ifnullN (tgt := 43) hx hb dX5_carryOut_14 (by decide) ?_
  refine z_iinc (lv' := [(2, .int (iI (0 + 1))), (3, .null), (0, .ref (b + 60)), (1, .ref (b + 32))]) hx hb dX5_carryOut_43 hl (k := 1) rfl (by decide) rfl (fun ls hl => ?_)
  rw [show ((0 + 1) : Int) = 1 from by decide] at hl
  refine lv_goto (tgt := 2) hx hb dX5_carryOut_46 (by decide) ?_
  refine lv_iload_n hx hb dX5_carryOut_2 rfl (lv_at hl 0 rfl) ?_
  refine z_iconst hx hb dX5_carryOut_3 ?_
  refine z_icmp_ge (tgt := 49) hx hb (by decide) (by decide) dX5_carryOut_4 (by decide) (fun c9 => absurd c9 (by decide)) (fun c9 => ?_)
  refine lv_aload_n hx hb dX5_carryOut_7 rfl (lv_at hl 3 rfl) ?_
  refine lv_iload_n hx hb dX5_carryOut_8 rfl (lv_at hl 0 rfl) ?_
  refine z_callq (va_runV (As := [.int (iI 1)]) (rest := []) ⟨hx, hb, hml, hown, hts⟩ (n_find l D dA b M 1 (by decide) (by rw [g0])) (cwV 1 hts (z_gV k627 k412 k413 k4 k414) rfl rfl rfl dm_X9_find ⟨Nat.le_of_ble_eq_true rfl, Nat.le_of_ble_eq_true rfl⟩) ⟨zP_blind, (z_recv hS hK.1 (by decide) (zkd_of (rfl : zcd wC 32 = 8) rfl) (by decide) (rfl : vwCl[9]? = some (RX9, TX9, 3))), z_pre hS hK⟩ rfl rfl hl.1 rfl (lv_room (Nat.le_of_ble_eq_true rfl)) dX5_carryOut_9 ⟨Nat.le_refl _, Nat.le_refl _⟩) hS hS0 (zms_sub rfl) (fun z14 M10 H locs h11 F12 hS hS0 => ?_)
  obtain ⟨h15, h11⟩ := h11
  rw [h15] at hS
  have h16 := h11
  obtain ⟨z14e, h16⟩ := h16
  subst z14e
  show W _ _ _ _ _ _ _ _ _ _ _ _ _ _ _ (F0 m _ ls (.null :: []))
  refine lv_astore_nN (lv' := [(3, .null), (2, .int (iI 1)), (0, .ref (b + 60)), (1, .ref (b + 32))]) hx hb dX5_carryOut_12 rfl hl (by decide) rfl (fun ls hl => ?_)
  refine lv_aload_nN hx hb dX5_carryOut_13 rfl (lv_at hl 0 rfl) ?_
  refine lv_ifnullN (tgt := 43) hx hb dX5_carryOut_14 (by decide) ?_
  refine z_iinc (lv' := [(2, .int (iI (1 + 1))), (3, .null), (0, .ref (b + 60)), (1, .ref (b + 32))]) hx hb dX5_carryOut_43 hl (k := 1) rfl (by decide) rfl (fun ls hl => ?_)
  rw [show ((1 + 1) : Int) = 2 from by decide] at hl
  refine lv_goto (tgt := 2) hx hb dX5_carryOut_46 (by decide) ?_
  refine lv_iload_n hx hb dX5_carryOut_2 rfl (lv_at hl 0 rfl) ?_
  refine z_iconst hx hb dX5_carryOut_3 ?_
  refine z_icmp_ge (tgt := 49) hx hb (by decide) (by decide) dX5_carryOut_4 (by decide) (fun c17 => absurd c17 (by decide)) (fun c17 => ?_)
  refine lv_aload_n hx hb dX5_carryOut_7 rfl (lv_at hl 3 rfl) ?_
  refine lv_iload_n hx hb dX5_carryOut_8 rfl (lv_at hl 0 rfl) ?_
  refine z_callq (va_runV (As := [.int (iI 2)]) (rest := []) ⟨hx, hb, hml, hown, hts⟩ (n_find l D dA b M 2 (by decide) (by rw [g0])) (cwV 1 hts (z_gV k627 k412 k413 k4 k414) rfl rfl rfl dm_X9_find ⟨Nat.le_of_ble_eq_true rfl, Nat.le_of_ble_eq_true rfl⟩) ⟨zP_blind, (z_recv hS hK.1 (by decide) (zkd_of (rfl : zcd wC 32 = 8) rfl) (by decide) (rfl : vwCl[9]? = some (RX9, TX9, 3))), z_pre hS hK⟩ rfl rfl hl.1 rfl (lv_room (Nat.le_of_ble_eq_true rfl)) dX5_carryOut_9 ⟨Nat.le_refl _, Nat.le_refl _⟩) hS hS0 (zms_sub rfl) (fun z22 M18 H locs h19 F20 hS hS0 => ?_)
  obtain ⟨h23, h19⟩ := h19
  rw [h23] at hS
  have h24 := h19
  obtain ⟨z22e, h24⟩ := h24
  subst z22e
  show W _ _ _ _ _ _ _ _ _ _ _ _ _ _ _ (F0 m _ ls (.null :: []))
  refine lv_astore_nN (lv' := [(3, .null), (2, .int (iI 2)), (0, .ref (b + 60)), (1, .ref (b + 32))]) hx hb dX5_carryOut_12 rfl hl (by decide) rfl (fun ls hl => ?_)
  refine lv_aload_nN hx hb dX5_carryOut_13 rfl (lv_at hl 0 rfl) ?_
  refine lv_ifnullN (tgt := 43) hx hb dX5_carryOut_14 (by decide) ?_
  refine z_iinc (lv' := [(2, .int (iI (2 + 1))), (3, .null), (0, .ref (b + 60)), (1, .ref (b + 32))]) hx hb dX5_carryOut_43 hl (k := 1) rfl (by decide) rfl (fun ls hl => ?_)
  rw [show ((2 + 1) : Int) = 3 from by decide] at hl
  refine lv_goto (tgt := 2) hx hb dX5_carryOut_46 (by decide) ?_
  refine lv_iload_n hx hb dX5_carryOut_2 rfl (lv_at hl 0 rfl) ?_
  refine z_iconst hx hb dX5_carryOut_3 ?_
  refine z_icmp_ge (tgt := 49) hx hb (by decide) (by decide) dX5_carryOut_4 (by decide) (fun c25 => absurd c25 (by decide)) (fun c25 => ?_)
  refine lv_aload_n hx hb dX5_carryOut_7 rfl (lv_at hl 3 rfl) ?_
  refine lv_iload_n hx hb dX5_carryOut_8 rfl (lv_at hl 0 rfl) ?_
  refine z_callq (va_runV (As := [.int (iI 3)]) (rest := []) ⟨hx, hb, hml, hown, hts⟩ (n_find l D dA b M 3 (by decide) (by rw [g0])) (cwV 1 hts (z_gV k627 k412 k413 k4 k414) rfl rfl rfl dm_X9_find ⟨Nat.le_of_ble_eq_true rfl, Nat.le_of_ble_eq_true rfl⟩) ⟨zP_blind, (z_recv hS hK.1 (by decide) (zkd_of (rfl : zcd wC 32 = 8) rfl) (by decide) (rfl : vwCl[9]? = some (RX9, TX9, 3))), z_pre hS hK⟩ rfl rfl hl.1 rfl (lv_room (Nat.le_of_ble_eq_true rfl)) dX5_carryOut_9 ⟨Nat.le_refl _, Nat.le_refl _⟩) hS hS0 (zms_sub rfl) (fun z30 M26 H locs h27 F28 hS hS0 => ?_)
  obtain ⟨h31, h27⟩ := h27
  rw [h31] at hS
  have h32 := h27
  obtain ⟨z30e, h32⟩ := h32
  subst z30e
  show W _ _ _ _ _ _ _ _ _ _ _ _ _ _ _ (F0 m _ ls (.null :: []))
  refine lv_astore_nN (lv' := [(3, .null), (2, .int (iI 3)), (0, .ref (b + 60)), (1, .ref (b + 32))]) hx hb dX5_carryOut_12 rfl hl (by decide) rfl (fun ls hl => ?_)
  refine lv_aload_nN hx hb dX5_carryOut_13 rfl (lv_at hl 0 rfl) ?_
  refine lv_ifnullN (tgt := 43) hx hb dX5_carryOut_14 (by decide) ?_
  refine z_iinc (lv' := [(2, .int (iI (3 + 1))), (3, .null), (0, .ref (b + 60)), (1, .ref (b + 32))]) hx hb dX5_carryOut_43 hl (k := 1) rfl (by decide) rfl (fun ls hl => ?_)
  rw [show ((3 + 1) : Int) = 4 from by decide] at hl
  refine lv_goto (tgt := 2) hx hb dX5_carryOut_46 (by decide) ?_
  refine lv_iload_n hx hb dX5_carryOut_2 rfl (lv_at hl 0 rfl) ?_
  refine z_iconst hx hb dX5_carryOut_3 ?_
  refine z_icmp_ge (tgt := 49) hx hb (by decide) (by decide) dX5_carryOut_4 (by decide) (fun c33 => ?_) (fun c33 => absurd c33 (by decide))
  exact z_vret hx hb hr hlocks hS hS0 (⟨rfl, trivial⟩) dX5_carryOut_49

set_option maxHeartbeats 4000000 in
set_option maxRecDepth 100000 in
theorem n_weigh (l : Launch) (D : va_G) (dA : Nat → ClassId) (b : Nat) (M : zM) (sd : Int) (v : Int) (r_sd : R32 sd) (r_v : R32 v) (a0 : ∀ k : Nat, k < 10 → M 80 k = 100) (p0 : 1 ≤ sd ∧ sd ≤ 9) (p1 : 0 ≤ v ∧ v ≤ 200) : Met l yX0_weigh (.code yX0_weigh cX0_weigh 4 (some .int) :: zt) (z_rm 0) (va_Pc [.ref (b + 78), .int (iI sd), .int (iI v)] (zP D dA vwCl (z_tys dA) wC nC b M)) (va_Qi (zQi wC (zms wC [2111]) M (fun z M1 => z = 100 ∧ True)) (zB D dA vwCl wC nC b) (zA nC b)) 0 0 (zA nC b) := by
  refine Met.ofW (cc := cX0_weigh) (maxL := 4) (ret := (some .int)) (by decide) rfl ?_
  intro p e s m args below meth c s₁ B hml hv
  obtain ⟨hargs, hR0, hJ, hK⟩ := hv
  have hx := B.exec
  have hb := B.bytes
  have hr := B.returns
  have hts := atoms_spec (ws := .code yX0_weigh cX0_weigh 4 (some .int) :: zt) B.pre
  have hown : s.vm.findClass RX0 = some m.cls := findClass_of_methodNamed B.named
  have hlocks := B.notSynchronized
  have hS : zS D dA vwCl wC nC b (zms wC [2111]) M M s.heap := ⟨hR0, hJ, zF_rf _ _⟩
  have hS0 : va_S (zA nC b) s.heap s.heap [] := va_S.rf
  have hl := lv_entry ([.ref (b + 78), .int (iI sd), .int (iI v)]) (n := 4) (Nat.le_of_ble_eq_true rfl)
  have hent : entryFrame m args 4 = F0 m 0 ((lg_sl ([.ref (b + 78), .int (iI sd), .int (iI v)]) ++ List.replicate (4 - (lg_sl ([.ref (b + 78), .int (iI sd), .int (iI v)])).length) Slot.unset).toArray) [] := by rw [hargs]; exact lg_entry_eq m ([.ref (b + 78), .int (iI sd), .int (iI v)]) 4
  rw [hent]
  generalize (lg_sl ([.ref (b + 78), .int (iI sd), .int (iI v)]) ++ List.replicate (4 - (lg_sl ([.ref (b + 78), .int (iI sd), .int (iI v)])).length) Slot.unset).toArray = ls at hl ⊢
  have hl : lv_has ls 4 [(0, .ref (b + 78)), (1, .int (iI sd)), (2, .int (iI v))] := hl
  refine lv_aload_n hx hb dX0_weigh_0 rfl (lv_at hl 0 rfl) ?_
  refine z_getr (j2 := 80) hx hb hts (z_memU u0) hown hK.1 hS f0_2 (by decide) (zkd_of (rfl : zcd wC 78 = 30) rfl) (zrf_of (rfl : zcd wC 78 = 30) rfl) (Or.inl (hts _ (z_mem k176))) dX0_weigh_1 ?_
  refine lv_iload_n hx hb dX0_weigh_4 rfl (lv_at hl 1 rfl) ?_
  refine z_iald (n := 10) hx hb hK.1 (t0 := 0) rfl hS (by decide) (zkd_of (rfl : zcd wC 80 = 32) rfl) (zln_of (rfl : zcd wC 80 = 32) rfl) (by omega) (by omega) (by decide) dX0_weigh_5 ?_
  refine z_top (show M 80 (sd.toNat) = 100 from by rw [a0 _ (by omega)]) ?_
  refine lv_istore_n (lv' := [(3, .int (iI 100)), (0, .ref (b + 78)), (1, .int (iI sd)), (2, .int (iI v))]) hx hb dX0_weigh_6 rfl hl (by decide) rfl (fun ls hl => ?_)
  refine lv_aload_n hx hb dX0_weigh_7 rfl (lv_at hl 1 rfl) ?_
  refine z_getr (j2 := 80) hx hb hts (z_memU u0) hown hK.1 hS f0_2 (by decide) (zkd_of (rfl : zcd wC 78 = 30) rfl) (zrf_of (rfl : zcd wC 78 = 30) rfl) (Or.inl (hts _ (z_mem k176))) dX0_weigh_8 ?_
  refine lv_iload_n hx hb dX0_weigh_11 rfl (lv_at hl 2 rfl) ?_
  refine lv_iload_n hx hb dX0_weigh_12 rfl (lv_at hl 3 rfl) ?_
  refine z_iast (n := 10) hx hb hK.1 (t0 := 0) rfl hS hS0 (by decide) (zkd_of (rfl : zcd wC 80 = 32) rfl) (zln_of (rfl : zcd wC 80 = 32) rfl) (by omega) (by omega) (by decide) (zbd_in (rfl : zcd wC 80 = 32) rfl ⟨by omega, by omega⟩) (zms_of (rfl : zcd wC 80 = 32) rfl) dX0_weigh_13 (fun H locs hS hS0 => ?_)
  obtain ⟨M1, e2⟩ : ∃ M1 : zM, M1 = zup M 80 (sd.toNat) v := ⟨_, rfl⟩
  rw [← e2] at hS
  have J3 := hS.2.1
  refine lv_iload_n hx hb dX0_weigh_14 rfl (lv_at hl 0 rfl) ?_
  exact z_iret hx hb hr hlocks hS hS0 (by decide) (by first | exact trivial | exact ⟨rfl, trivial⟩ | omega | (refine ⟨by omega, trivial⟩)) dX0_weigh_15

set_option maxHeartbeats 4000000 in
set_option maxRecDepth 100000 in
theorem n_place (l : Launch) (D : va_G) (dA : Nat → ClassId) (b : Nat) (M : zM) (d : Int) (a : Int) (ed : Int) (bg : Int) (r_d : R32 d) (r_a : R32 a) (r_ed : R32 ed) (r_bg : R32 bg) (p0 : 1 ≤ d ∧ d ≤ 20) (p1 : 0 ≤ a ∧ a ≤ 100) (p2 : 1 ≤ ed ∧ ed ≤ 20) (p3 : 0 ≤ bg ∧ bg ≤ 100) : Met l yX0_place (.code yX0_place cX0_place 5 none :: zt) (z_rm 0) (va_Pc [.ref (b + 78), .int (iI d), .int (iI a), .int (iI ed), .int (iI bg)] (zP D dA vwCl (z_tys dA) wC nC b M)) (va_Qv (zQv wC (zms wC [1923, 1924, 1925, 1926]) M (fun M1 => True)) (zB D dA vwCl wC nC b) (zA nC b)) 0 0 (zA nC b) := by
  refine Met.ofW (cc := cX0_place) (maxL := 5) (ret := none) (by decide) rfl ?_
  intro p e s m args below meth c s₁ B hml hv
  obtain ⟨hargs, hR0, hJ, hK⟩ := hv
  have hx := B.exec
  have hb := B.bytes
  have hr := B.returns
  have hts := atoms_spec (ws := .code yX0_place cX0_place 5 none :: zt) B.pre
  have hown : s.vm.findClass RX0 = some m.cls := findClass_of_methodNamed B.named
  have hlocks := B.notSynchronized
  have hS : zS D dA vwCl wC nC b (zms wC [1923, 1924, 1925, 1926]) M M s.heap := ⟨hR0, hJ, zF_rf _ _⟩
  have hS0 : va_S (zA nC b) s.heap s.heap [] := va_S.rf
  have hl := lv_entry ([.ref (b + 78), .int (iI d), .int (iI a), .int (iI ed), .int (iI bg)]) (n := 5) (Nat.le_of_ble_eq_true rfl)
  have hent : entryFrame m args 5 = F0 m 0 ((lg_sl ([.ref (b + 78), .int (iI d), .int (iI a), .int (iI ed), .int (iI bg)]) ++ List.replicate (5 - (lg_sl ([.ref (b + 78), .int (iI d), .int (iI a), .int (iI ed), .int (iI bg)])).length) Slot.unset).toArray) [] := by rw [hargs]; exact lg_entry_eq m ([.ref (b + 78), .int (iI d), .int (iI a), .int (iI ed), .int (iI bg)]) 5
  rw [hent]
  generalize (lg_sl ([.ref (b + 78), .int (iI d), .int (iI a), .int (iI ed), .int (iI bg)]) ++ List.replicate (5 - (lg_sl ([.ref (b + 78), .int (iI d), .int (iI a), .int (iI ed), .int (iI bg)])).length) Slot.unset).toArray = ls at hl ⊢
  have hl : lv_has ls 5 [(0, .ref (b + 78)), (1, .int (iI d)), (2, .int (iI a)), (3, .int (iI ed)), (4, .int (iI bg))] := hl
  refine lv_aload_n hx hb dX0_place_0 rfl (lv_at hl 0 rfl) ?_
  refine lv_iload_n hx hb dX0_place_1 rfl (lv_at hl 1 rfl) ?_
  refine z_puti hx hb hts (z_memU u0) tyX0 tyX0_ok nmX0 hown hK.1 hS hS0 f0_3 (by decide) (zkd_of (rfl : zcd wC 78 = 30) rfl) (Or.inl (hts _ (z_mem k177))) rfl (z := d) (by decide +kernel) (zbd_in (rfl : zcd wC 78 = 30) rfl ⟨by omega, by omega⟩) (zms_of (rfl : zcd wC 78 = 30) rfl) dX0_place_2 (fun H locs hS hS0 => ?_)
  obtain ⟨M1, e2⟩ : ∃ M1 : zM, M1 = zup M 78 3 d := ⟨_, rfl⟩
  rw [← e2] at hS
  have J3 := hS.2.1
  refine lv_aload_n hx hb dX0_place_5 rfl (lv_at hl 0 rfl) ?_
  refine lv_iload_n hx hb dX0_place_6 rfl (lv_at hl 2 rfl) ?_
  refine z_puti hx hb hts (z_memU u0) tyX0 tyX0_ok nmX0 hown hK.1 hS hS0 f0_4 (by decide) (zkd_of (rfl : zcd wC 78 = 30) rfl) (Or.inl (hts _ (z_mem k178))) rfl (z := a) (by decide +kernel) (zbd_in (rfl : zcd wC 78 = 30) rfl ⟨by omega, by omega⟩) (zms_of (rfl : zcd wC 78 = 30) rfl) dX0_place_7 (fun H locs hS hS0 => ?_)
  obtain ⟨M4, e5⟩ : ∃ M4 : zM, M4 = zup M1 78 4 a := ⟨_, rfl⟩
  rw [← e5] at hS
  have J6 := hS.2.1
  refine lv_aload_n hx hb dX0_place_10 rfl (lv_at hl 0 rfl) ?_
  refine lv_iload_n hx hb dX0_place_11 rfl (lv_at hl 3 rfl) ?_
  refine z_puti hx hb hts (z_memU u0) tyX0 tyX0_ok nmX0 hown hK.1 hS hS0 f0_5 (by decide) (zkd_of (rfl : zcd wC 78 = 30) rfl) (Or.inl (hts _ (z_mem k179))) rfl (z := ed) (by decide +kernel) (zbd_in (rfl : zcd wC 78 = 30) rfl ⟨by omega, by omega⟩) (zms_of (rfl : zcd wC 78 = 30) rfl) dX0_place_12 (fun H locs hS hS0 => ?_)
  obtain ⟨M7, e8⟩ : ∃ M7 : zM, M7 = zup M4 78 5 ed := ⟨_, rfl⟩
  rw [← e8] at hS
  have J9 := hS.2.1
  refine lv_aload_n hx hb dX0_place_15 rfl (lv_at hl 0 rfl) ?_
  refine lv_iload hx hb dX0_place_16 (lv_at hl 4 rfl) ?_
  refine z_puti hx hb hts (z_memU u0) tyX0 tyX0_ok nmX0 hown hK.1 hS hS0 f0_6 (by decide) (zkd_of (rfl : zcd wC 78 = 30) rfl) (Or.inl (hts _ (z_mem k180))) rfl (z := bg) (by decide +kernel) (zbd_in (rfl : zcd wC 78 = 30) rfl ⟨by omega, by omega⟩) (zms_of (rfl : zcd wC 78 = 30) rfl) dX0_place_18 (fun H locs hS hS0 => ?_)
  obtain ⟨M10, e11⟩ : ∃ M10 : zM, M10 = zup M7 78 6 bg := ⟨_, rfl⟩
  rw [← e11] at hS
  have J12 := hS.2.1
  exact z_vret hx hb hr hlocks hS hS0 (by first | exact trivial | exact ⟨rfl, trivial⟩ | omega | (refine ⟨by omega, trivial⟩)) dX0_place_21

set_option maxHeartbeats 4000000 in
set_option maxRecDepth 100000 in
theorem n_outAt0 (l : Launch) (D : va_G) (dA : Nat → ClassId) (b : Nat) (M : zM) (t : Int) (r_t : R32 t) (a0 : ∀ k : Nat, k < 4001 → M 81 k = 0) : Met l yX0_outAt (.code yX0_outAt cX0_outAt 2 (some .int) :: zt) (z_rm 0) (va_Pc [.ref (b + 78), .int (iI t)] (zP D dA vwCl (z_tys dA) wC nC b M)) (va_Qi (zQi wC (zms wC []) M (fun z M1 => M1 = M ∧ (z = 0 ∧ True))) (zB D dA vwCl wC nC b) (zA nC b)) 0 0 (zA nC b) := by
  refine Met.ofW (cc := cX0_outAt) (maxL := 2) (ret := (some .int)) (by decide) rfl ?_
  intro p e s m args below meth c s₁ B hml hv
  obtain ⟨hargs, hR0, hJ, hK⟩ := hv
  have hx := B.exec
  have hb := B.bytes
  have hr := B.returns
  have hts := atoms_spec (ws := .code yX0_outAt cX0_outAt 2 (some .int) :: zt) B.pre
  have hown : s.vm.findClass RX0 = some m.cls := findClass_of_methodNamed B.named
  have hlocks := B.notSynchronized
  have hS : zS D dA vwCl wC nC b (zms wC []) M M s.heap := ⟨hR0, hJ, zF_rf _ _⟩
  have hS0 : va_S (zA nC b) s.heap s.heap [] := va_S.rf
  have hl := lv_entry ([.ref (b + 78), .int (iI t)]) (n := 2) (Nat.le_of_ble_eq_true rfl)
  have hent : entryFrame m args 2 = F0 m 0 ((lg_sl ([.ref (b + 78), .int (iI t)]) ++ List.replicate (2 - (lg_sl ([.ref (b + 78), .int (iI t)])).length) Slot.unset).toArray) [] := by rw [hargs]; exact lg_entry_eq m ([.ref (b + 78), .int (iI t)]) 2
  rw [hent]
  generalize (lg_sl ([.ref (b + 78), .int (iI t)]) ++ List.replicate (2 - (lg_sl ([.ref (b + 78), .int (iI t)])).length) Slot.unset).toArray = ls at hl ⊢
  have hl : lv_has ls 2 [(0, .ref (b + 78)), (1, .int (iI t))] := hl
  refine lv_iload_n hx hb dX0_outAt_0 rfl (lv_at hl 1 rfl) ?_
  refine z_if_lt (tgt := 22) hx hb r_t dX0_outAt_1 (by decide) (fun c1 => ?_) (fun c1 => ?_)
  · skip
    refine z_iconst hx hb dX0_outAt_22 ?_
    exact z_iret hx hb hr hlocks hS hS0 (by decide) (⟨rfl, by first | exact trivial | exact ⟨rfl, trivial⟩ | omega | (refine ⟨by omega, trivial⟩)⟩) dX0_outAt_23
  · skip
    refine lv_iload_n hx hb dX0_outAt_4 rfl (lv_at hl 1 rfl) ?_
    refine lv_aload_n hx hb dX0_outAt_5 rfl (lv_at hl 0 rfl) ?_
    refine z_getr (j2 := 81) hx hb hts (z_memU u0) hown hK.1 hS f0_7 (by decide) (zkd_of (rfl : zcd wC 78 = 30) rfl) (zrf_of (rfl : zcd wC 78 = 30) rfl) (Or.inl (hts _ (z_mem k181))) dX0_outAt_6 ?_
    refine z_alen (n := 4001) hx hb hK.1 (t0 := 0) rfl hS (by decide) (zkd_of (rfl : zcd wC 81 = 33) rfl) (zln_of (rfl : zcd wC 81 = 33) rfl) dX0_outAt_9 ?_
    refine z_top (show (((4001 : Nat) : Int)) = 4001 from by decide) ?_
    refine z_icmp_ge (tgt := 22) hx hb r_t (by decide) dX0_outAt_10 (by decide) (fun c2 => ?_) (fun c2 => ?_)
    · skip
      refine z_iconst hx hb dX0_outAt_22 ?_
      exact z_iret hx hb hr hlocks hS hS0 (by decide) (⟨rfl, by first | exact trivial | exact ⟨rfl, trivial⟩ | omega | (refine ⟨by omega, trivial⟩)⟩) dX0_outAt_23
    · skip
      refine lv_aload_n hx hb dX0_outAt_13 rfl (lv_at hl 0 rfl) ?_
      refine z_getr (j2 := 81) hx hb hts (z_memU u0) hown hK.1 hS f0_7 (by decide) (zkd_of (rfl : zcd wC 78 = 30) rfl) (zrf_of (rfl : zcd wC 78 = 30) rfl) (Or.inl (hts _ (z_mem k181))) dX0_outAt_14 ?_
      refine lv_iload_n hx hb dX0_outAt_17 rfl (lv_at hl 1 rfl) ?_
      refine z_iald (n := 4001) hx hb hK.1 (t0 := 0) rfl hS (by decide) (zkd_of (rfl : zcd wC 81 = 33) rfl) (zln_of (rfl : zcd wC 81 = 33) rfl) (by omega) (by omega) (by decide) dX0_outAt_18 ?_
      refine z_top (show M 81 (t.toNat) = 0 from by rw [a0 _ (by omega)]) ?_
      refine lv_goto (tgt := 23) hx hb dX0_outAt_19 (by decide) ?_
      exact z_iret hx hb hr hlocks hS hS0 (by decide) (⟨rfl, by first | exact trivial | exact ⟨rfl, trivial⟩ | omega | (refine ⟨by omega, trivial⟩)⟩) dX0_outAt_23

set_option maxHeartbeats 4000000 in
set_option maxRecDepth 100000 in
theorem n_outAtT (l : Launch) (D : va_G) (dA : Nat → ClassId) (b : Nat) (M : zM) (t : Int) (r_t : R32 t) (p0 : 0 ≤ t ∧ t ≤ 4000) (p1 : M 81 t.toNat = 0) : Met l yX0_outAt (.code yX0_outAt cX0_outAt 2 (some .int) :: zt) (z_rm 0) (va_Pc [.ref (b + 78), .int (iI t)] (zP D dA vwCl (z_tys dA) wC nC b M)) (va_Qi (zQi wC (zms wC []) M (fun z M1 => M1 = M ∧ (z = 0 ∧ True))) (zB D dA vwCl wC nC b) (zA nC b)) 0 0 (zA nC b) := by
  refine Met.ofW (cc := cX0_outAt) (maxL := 2) (ret := (some .int)) (by decide) rfl ?_
  intro p e s m args below meth c s₁ B hml hv
  obtain ⟨hargs, hR0, hJ, hK⟩ := hv
  have hx := B.exec
  have hb := B.bytes
  have hr := B.returns
  have hts := atoms_spec (ws := .code yX0_outAt cX0_outAt 2 (some .int) :: zt) B.pre
  have hown : s.vm.findClass RX0 = some m.cls := findClass_of_methodNamed B.named
  have hlocks := B.notSynchronized
  have hS : zS D dA vwCl wC nC b (zms wC []) M M s.heap := ⟨hR0, hJ, zF_rf _ _⟩
  have hS0 : va_S (zA nC b) s.heap s.heap [] := va_S.rf
  have hl := lv_entry ([.ref (b + 78), .int (iI t)]) (n := 2) (Nat.le_of_ble_eq_true rfl)
  have hent : entryFrame m args 2 = F0 m 0 ((lg_sl ([.ref (b + 78), .int (iI t)]) ++ List.replicate (2 - (lg_sl ([.ref (b + 78), .int (iI t)])).length) Slot.unset).toArray) [] := by rw [hargs]; exact lg_entry_eq m ([.ref (b + 78), .int (iI t)]) 2
  rw [hent]
  generalize (lg_sl ([.ref (b + 78), .int (iI t)]) ++ List.replicate (2 - (lg_sl ([.ref (b + 78), .int (iI t)])).length) Slot.unset).toArray = ls at hl ⊢
  have hl : lv_has ls 2 [(0, .ref (b + 78)), (1, .int (iI t))] := hl
  refine lv_iload_n hx hb dX0_outAt_0 rfl (lv_at hl 1 rfl) ?_
  refine z_if_lt (tgt := 22) hx hb r_t dX0_outAt_1 (by decide) (fun c1 => absurd c1 (by omega)) (fun c1 => ?_)
  refine lv_iload_n hx hb dX0_outAt_4 rfl (lv_at hl 1 rfl) ?_
  refine lv_aload_n hx hb dX0_outAt_5 rfl (lv_at hl 0 rfl) ?_
  refine z_getr (j2 := 81) hx hb hts (z_memU u0) hown hK.1 hS f0_7 (by decide) (zkd_of (rfl : zcd wC 78 = 30) rfl) (zrf_of (rfl : zcd wC 78 = 30) rfl) (Or.inl (hts _ (z_mem k181))) dX0_outAt_6 ?_
  refine z_alen (n := 4001) hx hb hK.1 (t0 := 0) rfl hS (by decide) (zkd_of (rfl : zcd wC 81 = 33) rfl) (zln_of (rfl : zcd wC 81 = 33) rfl) dX0_outAt_9 ?_
  refine z_top (show (((4001 : Nat) : Int)) = 4001 from by decide) ?_
  refine z_icmp_ge (tgt := 22) hx hb r_t (by decide) dX0_outAt_10 (by decide) (fun c2 => absurd c2 (by omega)) (fun c2 => ?_)
  refine lv_aload_n hx hb dX0_outAt_13 rfl (lv_at hl 0 rfl) ?_
  refine z_getr (j2 := 81) hx hb hts (z_memU u0) hown hK.1 hS f0_7 (by decide) (zkd_of (rfl : zcd wC 78 = 30) rfl) (zrf_of (rfl : zcd wC 78 = 30) rfl) (Or.inl (hts _ (z_mem k181))) dX0_outAt_14 ?_
  refine lv_iload_n hx hb dX0_outAt_17 rfl (lv_at hl 1 rfl) ?_
  refine z_iald (n := 4001) hx hb hK.1 (t0 := 0) rfl hS (by decide) (zkd_of (rfl : zcd wC 81 = 33) rfl) (zln_of (rfl : zcd wC 81 = 33) rfl) (by omega) (by omega) (by decide) dX0_outAt_18 ?_
  have q3 : (0 : Int) ≤ M 81 (t.toNat) ∧ M 81 (t.toNat) ≤ 5000 := zJ_at hJ (rfl : zcd wC 81 = 33) rfl
  refine lv_goto (tgt := 23) hx hb dX0_outAt_19 (by decide) ?_
  exact z_iret hx hb hr hlocks hS hS0 (r32b q3 (by decide) (by decide)) (⟨rfl, by first | exact trivial | exact ⟨rfl, trivial⟩ | omega | (refine ⟨by omega, trivial⟩)⟩) dX0_outAt_23

set_option maxHeartbeats 4000000 in
set_option maxRecDepth 100000 in
theorem n_outAt (l : Launch) (D : va_G) (dA : Nat → ClassId) (b : Nat) (M : zM) (t : Int) (r_t : R32 t) : Met l yX0_outAt (.code yX0_outAt cX0_outAt 2 (some .int) :: zt) (z_rm 0) (va_Pc [.ref (b + 78), .int (iI t)] (zP D dA vwCl (z_tys dA) wC nC b M)) (va_Qi (zQi wC (zms wC []) M (fun z M1 => M1 = M ∧ (0 ≤ z ∧ z ≤ 5000))) (zB D dA vwCl wC nC b) (zA nC b)) 0 0 (zA nC b) := by
  refine Met.ofW (cc := cX0_outAt) (maxL := 2) (ret := (some .int)) (by decide) rfl ?_
  intro p e s m args below meth c s₁ B hml hv
  obtain ⟨hargs, hR0, hJ, hK⟩ := hv
  have hx := B.exec
  have hb := B.bytes
  have hr := B.returns
  have hts := atoms_spec (ws := .code yX0_outAt cX0_outAt 2 (some .int) :: zt) B.pre
  have hown : s.vm.findClass RX0 = some m.cls := findClass_of_methodNamed B.named
  have hlocks := B.notSynchronized
  have hS : zS D dA vwCl wC nC b (zms wC []) M M s.heap := ⟨hR0, hJ, zF_rf _ _⟩
  have hS0 : va_S (zA nC b) s.heap s.heap [] := va_S.rf
  have hl := lv_entry ([.ref (b + 78), .int (iI t)]) (n := 2) (Nat.le_of_ble_eq_true rfl)
  have hent : entryFrame m args 2 = F0 m 0 ((lg_sl ([.ref (b + 78), .int (iI t)]) ++ List.replicate (2 - (lg_sl ([.ref (b + 78), .int (iI t)])).length) Slot.unset).toArray) [] := by rw [hargs]; exact lg_entry_eq m ([.ref (b + 78), .int (iI t)]) 2
  rw [hent]
  generalize (lg_sl ([.ref (b + 78), .int (iI t)]) ++ List.replicate (2 - (lg_sl ([.ref (b + 78), .int (iI t)])).length) Slot.unset).toArray = ls at hl ⊢
  have hl : lv_has ls 2 [(0, .ref (b + 78)), (1, .int (iI t))] := hl
  refine lv_iload_n hx hb dX0_outAt_0 rfl (lv_at hl 1 rfl) ?_
  refine z_if_lt (tgt := 22) hx hb r_t dX0_outAt_1 (by decide) (fun c1 => ?_) (fun c1 => ?_)
  · skip
    refine z_iconst hx hb dX0_outAt_22 ?_
    exact z_iret hx hb hr hlocks hS hS0 (by decide) (⟨rfl, by first | exact trivial | exact ⟨rfl, trivial⟩ | omega | (refine ⟨by omega, trivial⟩)⟩) dX0_outAt_23
  · skip
    refine lv_iload_n hx hb dX0_outAt_4 rfl (lv_at hl 1 rfl) ?_
    refine lv_aload_n hx hb dX0_outAt_5 rfl (lv_at hl 0 rfl) ?_
    refine z_getr (j2 := 81) hx hb hts (z_memU u0) hown hK.1 hS f0_7 (by decide) (zkd_of (rfl : zcd wC 78 = 30) rfl) (zrf_of (rfl : zcd wC 78 = 30) rfl) (Or.inl (hts _ (z_mem k181))) dX0_outAt_6 ?_
    refine z_alen (n := 4001) hx hb hK.1 (t0 := 0) rfl hS (by decide) (zkd_of (rfl : zcd wC 81 = 33) rfl) (zln_of (rfl : zcd wC 81 = 33) rfl) dX0_outAt_9 ?_
    refine z_top (show (((4001 : Nat) : Int)) = 4001 from by decide) ?_
    refine z_icmp_ge (tgt := 22) hx hb r_t (by decide) dX0_outAt_10 (by decide) (fun c2 => ?_) (fun c2 => ?_)
    · skip
      refine z_iconst hx hb dX0_outAt_22 ?_
      exact z_iret hx hb hr hlocks hS hS0 (by decide) (⟨rfl, by first | exact trivial | exact ⟨rfl, trivial⟩ | omega | (refine ⟨by omega, trivial⟩)⟩) dX0_outAt_23
    · skip
      refine lv_aload_n hx hb dX0_outAt_13 rfl (lv_at hl 0 rfl) ?_
      refine z_getr (j2 := 81) hx hb hts (z_memU u0) hown hK.1 hS f0_7 (by decide) (zkd_of (rfl : zcd wC 78 = 30) rfl) (zrf_of (rfl : zcd wC 78 = 30) rfl) (Or.inl (hts _ (z_mem k181))) dX0_outAt_14 ?_
      refine lv_iload_n hx hb dX0_outAt_17 rfl (lv_at hl 1 rfl) ?_
      refine z_iald (n := 4001) hx hb hK.1 (t0 := 0) rfl hS (by decide) (zkd_of (rfl : zcd wC 81 = 33) rfl) (zln_of (rfl : zcd wC 81 = 33) rfl) (by omega) (by omega) (by decide) dX0_outAt_18 ?_
      have q3 : (0 : Int) ≤ M 81 (t.toNat) ∧ M 81 (t.toNat) ≤ 5000 := zJ_at hJ (rfl : zcd wC 81 = 33) rfl
      refine lv_goto (tgt := 23) hx hb dX0_outAt_19 (by decide) ?_
      exact z_iret hx hb hr hlocks hS hS0 (r32b q3 (by decide) (by decide)) (⟨rfl, by first | exact trivial | exact ⟨rfl, trivial⟩ | omega | (refine ⟨by omega, trivial⟩)⟩) dX0_outAt_23

set_option maxHeartbeats 4000000 in
set_option maxRecDepth 100000 in
theorem n_behind0 (l : Launch) (D : va_G) (dA : Nat → ClassId) (b : Nat) (M : zM) (t : Int) (gn : Int) (r_t : R32 t) (r_gn : R32 gn) (p0 : gn = 0) : Met l yX0_behind (.code yX0_behind cX0_behind 3 (some .int) :: zt) (z_rm 1) (va_Pc [.ref (b + 78), .int (iI t), .int (iI gn)] (zP D dA vwCl (z_tys dA) wC nC b M)) (va_Qi (zQi wC (zms wC []) M (fun z M1 => M1 = M ∧ (z = 0 ∧ True))) (zB D dA vwCl wC nC b) (zA nC b)) 0 0 (zA nC b) := by
  refine Met.ofW (cc := cX0_behind) (maxL := 3) (ret := (some .int)) (by decide) rfl ?_
  intro p e s m args below meth c s₁ B hml hv
  obtain ⟨hargs, hR0, hJ, hK⟩ := hv
  have hx := B.exec
  have hb := B.bytes
  have hr := B.returns
  have hts := atoms_spec (ws := .code yX0_behind cX0_behind 3 (some .int) :: zt) B.pre
  have hown : s.vm.findClass RX0 = some m.cls := findClass_of_methodNamed B.named
  have hlocks := B.notSynchronized
  have hS : zS D dA vwCl wC nC b (zms wC []) M M s.heap := ⟨hR0, hJ, zF_rf _ _⟩
  have hS0 : va_S (zA nC b) s.heap s.heap [] := va_S.rf
  have hl := lv_entry ([.ref (b + 78), .int (iI t), .int (iI gn)]) (n := 3) (Nat.le_of_ble_eq_true rfl)
  have hent : entryFrame m args 3 = F0 m 0 ((lg_sl ([.ref (b + 78), .int (iI t), .int (iI gn)]) ++ List.replicate (3 - (lg_sl ([.ref (b + 78), .int (iI t), .int (iI gn)])).length) Slot.unset).toArray) [] := by rw [hargs]; exact lg_entry_eq m ([.ref (b + 78), .int (iI t), .int (iI gn)]) 3
  rw [hent]
  generalize (lg_sl ([.ref (b + 78), .int (iI t), .int (iI gn)]) ++ List.replicate (3 - (lg_sl ([.ref (b + 78), .int (iI t), .int (iI gn)])).length) Slot.unset).toArray = ls at hl ⊢
  have hl : lv_has ls 3 [(0, .ref (b + 78)), (1, .int (iI t)), (2, .int (iI gn))] := hl
  refine lv_aload_n hx hb dX0_behind_0 rfl (lv_at hl 0 rfl) ?_
  refine lv_iload_n hx hb dX0_behind_1 rfl (lv_at hl 1 rfl) ?_
  refine z_calli (va_runV (As := [.int (iI t)]) (rest := []) ⟨hx, hb, hml, hown, hts⟩ (n_outAt l D dA b M t r_t) (cwV 1 hts (z_gV k710 k711 k712 k9 k713) rfl rfl rfl dm_X0_outAt ⟨Nat.le_of_ble_eq_true rfl, Nat.le_of_ble_eq_true rfl⟩) ⟨zP_blind, (z_recv hS hK.1 (by decide) (zkd_of (rfl : zcd wC 78 = 30) rfl) (by decide) (rfl : vwCl[0]? = some (RX0, TX0, 8))), z_pre hS hK⟩ rfl rfl hl.1 rfl (lv_room (Nat.le_of_ble_eq_true rfl)) dX0_behind_2 ⟨Nat.le_refl _, Nat.le_refl _⟩) hS hS0 (zms_sub rfl) (fun z5 M1 H locs r6 h2 F3 hS hS0 => ?_)
  obtain ⟨h7, h2⟩ := h2
  rw [h7] at hS
  refine lv_iload_n hx hb dX0_behind_5 rfl (lv_at hl 2 rfl) ?_
  refine z_imul hx hb dX0_behind_6 ?_
  refine z_top (show ((z5 * gn) : Int) = 0 from by rw [show gn = (0 : Int) from by omega, Int.mul_zero]) ?_
  refine z_bipush hx hb (by decide) dX0_behind_7 ?_
  refine z_idiv hx hb (by decide) (by decide) (by omega) dX0_behind_9 ?_
  refine z_top (show ((Int.tdiv 0 100) : Int) = 0 from by decide) ?_
  exact z_iret hx hb hr hlocks hS hS0 (by decide) (⟨rfl, by first | exact trivial | exact ⟨rfl, trivial⟩ | omega | (refine ⟨by omega, trivial⟩)⟩) dX0_behind_10

set_option maxHeartbeats 4000000 in
set_option maxRecDepth 100000 in
theorem n_run (l : Launch) (D : va_G) (dA : Nat → ClassId) (b : Nat) (M : zM) (u : Int) (r_u : R32 u) (g0 : M 78 0 = 0) (g1 : M 78 3 = 1) (g2 : M 78 4 = 0) (g3 : M 78 5 = 1) (g4 : M 78 6 = 0) (p0 : 0 ≤ u ∧ u ≤ 4000) : Met l yX0_run (.code yX0_run cX0_run 6 none :: zt) (z_rm 2) (va_Pc [.ref (b + 78), .ref (b + 32), .int (iI u)] (zP D dA vwCl (z_tys dA) wC nC b M)) (va_Qv (zQv wC (zms wC [2175]) M (fun M1 => ∀ k : Nat, (k : Int) ≤ u → M1 81 k = 0)) (zB D dA vwCl wC nC b) (zA nC b)) 0 0 (zA nC b) := by
  refine Met.ofW (cc := cX0_run) (maxL := 6) (ret := none) (by decide) rfl ?_
  intro p e s m args below meth c s₁ B hml hv
  obtain ⟨hargs, hR0, hJ, hK⟩ := hv
  have hx := B.exec
  have hb := B.bytes
  have hr := B.returns
  have hts := atoms_spec (ws := .code yX0_run cX0_run 6 none :: zt) B.pre
  have hown : s.vm.findClass RX0 = some m.cls := findClass_of_methodNamed B.named
  have hlocks := B.notSynchronized
  have hS : zS D dA vwCl wC nC b (zms wC [2175]) M M s.heap := ⟨hR0, hJ, zF_rf _ _⟩
  have hS0 : va_S (zA nC b) s.heap s.heap [] := va_S.rf
  have hl := lv_entry ([.ref (b + 78), .ref (b + 32), .int (iI u)]) (n := 6) (Nat.le_of_ble_eq_true rfl)
  have hent : entryFrame m args 6 = F0 m 0 ((lg_sl ([.ref (b + 78), .ref (b + 32), .int (iI u)]) ++ List.replicate (6 - (lg_sl ([.ref (b + 78), .ref (b + 32), .int (iI u)])).length) Slot.unset).toArray) [] := by rw [hargs]; exact lg_entry_eq m ([.ref (b + 78), .ref (b + 32), .int (iI u)]) 6
  rw [hent]
  generalize (lg_sl ([.ref (b + 78), .ref (b + 32), .int (iI u)]) ++ List.replicate (6 - (lg_sl ([.ref (b + 78), .ref (b + 32), .int (iI u)])).length) Slot.unset).toArray = ls at hl ⊢
  have hl : lv_has ls 6 [(0, .ref (b + 78)), (1, .ref (b + 32)), (2, .int (iI u))] := hl
  refine z_iconst hx hb dX0_run_0 ?_
  refine lv_istore_n (lv' := [(3, .int (iI 0)), (0, .ref (b + 78)), (1, .ref (b + 32)), (2, .int (iI u))]) hx hb dX0_run_1 rfl hl (by decide) rfl (fun ls hl => ?_)
  have L4 : ∀ (n2 : Nat) (t1 : Int) (M5 : zM) (H : Heap) (locs : List Loc) (ls : Array Slot), (2147483648 - t1).toNat ≤ n2 → R32 t1 → (0 ≤ t1) → (∀ k : Nat, (k : Int) < t1 → M5 81 k = 0) → zS D dA vwCl wC nC b (zms wC [2175]) M M5 H → va_S (zA nC b) s.heap H locs → lv_has ls 6 [(0, .ref (b + 78)), (1, .ref (b + 32)), (2, .int (iI u)), (3, .int (iI t1))] → W p l e (headSpec (.code yX0_run cX0_run 6 none :: zt) (z_rm 2)).room s m args below meth c H locs 0 0 (MQ below (va_Qv (zQv wC (zms wC [2175]) M (fun M1 => ∀ k : Nat, (k : Int) ≤ u → M1 81 k = 0)) (zB D dA vwCl wC nC b) (zA nC b)) args s 0 0 (zA nC b)) (F0 m 2 ls []) := by
    intro n2
    induction n2 with
    | zero =>
      intro t1 M5 H locs ls hm r_t1 i6 i7 hS hS0 hl
      exfalso
      omega
    | succ n2 ih3 =>
      intro t1 M5 H locs ls hm r_t1 i6 i7 hS hS0 hl
      have J8 := hS.2.1
      have F9 := hS.2.2
      refine lv_iload_n hx hb dX0_run_2 rfl (lv_at hl 3 rfl) ?_
      refine lv_iload_n hx hb dX0_run_3 rfl (lv_at hl 2 rfl) ?_
      refine z_icmp_gt (tgt := 94) hx hb r_t1 r_u dX0_run_4 (by decide) (fun c10 => ?_) (fun c10 => ?_)
      · skip
        exact z_vret hx hb hr hlocks hS hS0 (fun k hk => i7 k (by omega)) dX0_run_94
      · skip
        refine lv_iload_n hx hb dX0_run_7 rfl (lv_at hl 3 rfl) ?_
        refine lv_aload_n hx hb dX0_run_8 rfl (lv_at hl 0 rfl) ?_
        refine z_getr (j2 := 81) hx hb hts (z_memU u0) hown hK.1 hS f0_7 (by decide) (zkd_of (rfl : zcd wC 78 = 30) rfl) (zrf_of (rfl : zcd wC 78 = 30) rfl) (Or.inl (hts _ (z_mem k181))) dX0_run_9 ?_
        refine z_alen (n := 4001) hx hb hK.1 (t0 := 0) rfl hS (by decide) (zkd_of (rfl : zcd wC 81 = 33) rfl) (zln_of (rfl : zcd wC 81 = 33) rfl) dX0_run_12 ?_
        refine z_top (show (((4001 : Nat) : Int)) = 4001 from by decide) ?_
        refine z_icmp_ge (tgt := 94) hx hb r_t1 (by decide) dX0_run_13 (by decide) (fun c11 => absurd c11 (by omega)) (fun c11 => ?_)
        refine lv_iload_n hx hb dX0_run_16 rfl (lv_at hl 3 rfl) ?_
        refine lv_aload_n hx hb dX0_run_17 rfl (lv_at hl 0 rfl) ?_
        refine z_geti hx hb hts (z_memU u0) hown hK.1 hS f0_0 (by decide) (zkd_of (rfl : zcd wC 78 = 30) rfl) (Or.inl (hts _ (z_mem k172))) dX0_run_18 ?_
        refine z_top (show M5 78 0 = 0 from by rw [F9 _ _ (zms_not (rfl : zcd wC 78 = 30) rfl), g0]) ?_
        refine z_icmp_ge (tgt := 37) hx hb r_t1 (by decide) dX0_run_21 (by decide) (fun c12 => ?_) (fun c12 => absurd c12 (by omega))
        refine z_iconst hx hb dX0_run_37 ?_
        refine lv_istore (lv' := [(4, .int (iI 0)), (0, .ref (b + 78)), (1, .ref (b + 32)), (2, .int (iI u)), (3, .int (iI t1))]) hx hb dX0_run_38 hl (by decide) rfl (fun ls hl => ?_)
        refine lv_iload hx hb dX0_run_40 (lv_at hl 0 rfl) ?_
        refine lv_aload_n hx hb dX0_run_42 rfl (lv_at hl 1 rfl) ?_
        refine lv_iload_n hx hb dX0_run_43 rfl (lv_at hl 4 rfl) ?_
        refine lv_aload_n hx hb dX0_run_44 rfl (lv_at hl 1 rfl) ?_
        refine z_geti hx hb hts (z_memU u0) hown hK.1 hS f0_3 (by decide) (zkd_of (rfl : zcd wC 78 = 30) rfl) (Or.inl (hts _ (z_mem k177))) dX0_run_45 ?_
        refine z_top (show M5 78 3 = 1 from by rw [F9 _ _ (zms_not (rfl : zcd wC 78 = 30) rfl), g1]) ?_
        refine z_isub hx hb dX0_run_48 ?_
        refine lv_aload_n hx hb dX0_run_49 rfl (lv_at hl 1 rfl) ?_
        refine z_geti hx hb hts (z_memU u0) hown hK.1 hS f0_4 (by decide) (zkd_of (rfl : zcd wC 78 = 30) rfl) (Or.inl (hts _ (z_mem k178))) dX0_run_50 ?_
        refine z_top (show M5 78 4 = 0 from by rw [F9 _ _ (zms_not (rfl : zcd wC 78 = 30) rfl), g2]) ?_
        refine z_calli (va_runV (As := [.int (iI (t1 - 1)), .int (iI 0)]) (rest := [.int (iI 0)]) ⟨hx, hb, hml, hown, hts⟩ (n_behind0 l D dA b M5 (t1 - 1) 0 ⟨by omega, by omega⟩ (by decide) (by omega)) (cwV 2 hts (z_gV k707 k708 k1381 k9 k709) rfl rfl rfl dm_X0_behind ⟨Nat.le_of_ble_eq_true rfl, Nat.le_of_ble_eq_true rfl⟩) ⟨zP_blind, (z_recv hS hK.1 (by decide) (zkd_of (rfl : zcd wC 78 = 30) rfl) (by decide) (rfl : vwCl[0]? = some (RX0, TX0, 8))), z_pre hS hK⟩ rfl rfl hl.1 rfl (lv_room (Nat.le_of_ble_eq_true rfl)) dX0_run_53 ⟨Nat.le_refl _, Nat.le_refl _⟩) hS hS0 (zms_sub rfl) (fun z17 M13 H locs r18 h14 F15 hS hS0 => ?_)
        obtain ⟨h19, h14⟩ := h14
        rw [h19] at hS
        have h20 := h14
        obtain ⟨z17e, h20⟩ := h20
        subst z17e
        refine z_iadd hx hb dX0_run_56 ?_
        refine z_top (show ((0 + 0) : Int) = 0 from (by decide)) ?_
        refine lv_aload_n hx hb dX0_run_57 rfl (lv_at hl 1 rfl) ?_
        refine lv_iload_n hx hb dX0_run_58 rfl (lv_at hl 4 rfl) ?_
        refine lv_aload_n hx hb dX0_run_59 rfl (lv_at hl 1 rfl) ?_
        refine z_geti hx hb hts (z_memU u0) hown hK.1 hS f0_5 (by decide) (zkd_of (rfl : zcd wC 78 = 30) rfl) (Or.inl (hts _ (z_mem k179))) dX0_run_60 ?_
        refine z_top (show M5 78 5 = 1 from by rw [F9 _ _ (zms_not (rfl : zcd wC 78 = 30) rfl), g3]) ?_
        refine z_isub hx hb dX0_run_63 ?_
        refine lv_aload_n hx hb dX0_run_64 rfl (lv_at hl 1 rfl) ?_
        refine z_geti hx hb hts (z_memU u0) hown hK.1 hS f0_6 (by decide) (zkd_of (rfl : zcd wC 78 = 30) rfl) (Or.inl (hts _ (z_mem k180))) dX0_run_65 ?_
        refine z_top (show M5 78 6 = 0 from by rw [F9 _ _ (zms_not (rfl : zcd wC 78 = 30) rfl), g4]) ?_
        refine z_calli (va_runV (As := [.int (iI (t1 - 1)), .int (iI 0)]) (rest := [.int (iI 0)]) ⟨hx, hb, hml, hown, hts⟩ (n_behind0 l D dA b M5 (t1 - 1) 0 ⟨by omega, by omega⟩ (by decide) (by omega)) (cwV 2 hts (z_gV k707 k708 k1381 k9 k709) rfl rfl rfl dm_X0_behind ⟨Nat.le_of_ble_eq_true rfl, Nat.le_of_ble_eq_true rfl⟩) ⟨zP_blind, (z_recv hS hK.1 (by decide) (zkd_of (rfl : zcd wC 78 = 30) rfl) (by decide) (rfl : vwCl[0]? = some (RX0, TX0, 8))), z_pre hS hK⟩ rfl rfl hl.1 rfl (lv_room (Nat.le_of_ble_eq_true rfl)) dX0_run_68 ⟨Nat.le_refl _, Nat.le_refl _⟩) hS hS0 (zms_sub rfl) (fun z25 M21 H locs r26 h22 F23 hS hS0 => ?_)
        obtain ⟨h27, h22⟩ := h22
        rw [h27] at hS
        have h28 := h22
        obtain ⟨z25e, h28⟩ := h28
        subst z25e
        refine z_iadd hx hb dX0_run_71 ?_
        refine z_top (show ((0 + 0) : Int) = 0 from (by decide)) ?_
        refine lv_istore (lv' := [(5, .int (iI 0)), (4, .int (iI 0)), (0, .ref (b + 78)), (1, .ref (b + 32)), (2, .int (iI u)), (3, .int (iI t1))]) hx hb dX0_run_72 hl (by decide) rfl (fun ls hl => ?_)
        refine lv_aload_n hx hb dX0_run_74 rfl (lv_at hl 2 rfl) ?_
        refine z_getr (j2 := 81) hx hb hts (z_memU u0) hown hK.1 hS f0_7 (by decide) (zkd_of (rfl : zcd wC 78 = 30) rfl) (zrf_of (rfl : zcd wC 78 = 30) rfl) (Or.inl (hts _ (z_mem k181))) dX0_run_75 ?_
        refine lv_iload_n hx hb dX0_run_78 rfl (lv_at hl 5 rfl) ?_
        refine lv_iload hx hb dX0_run_79 (lv_at hl 0 rfl) ?_
        refine z_sipush hx hb (by decide) dX0_run_81 ?_
        refine z_mmin hx hb (hml.trans hl.1.symm) hown (hts _ (z_mem k714)) (hts _ (z_mem k320)) (hts _ (z_mem k15)) (hts _ (z_mem k321)) (by exact Nat.le_of_ble_eq_true rfl) (by exact Nat.le_of_ble_eq_true rfl) (by exact Nat.le_refl _) (by exact Nat.le_refl _) (by decide) (by decide) dX0_run_84 ?_
        refine z_top (show ((min 0 5000) : Int) = 0 from by decide) ?_
        refine z_iast (n := 4001) hx hb hK.1 (t0 := 0) rfl hS hS0 (by decide) (zkd_of (rfl : zcd wC 81 = 33) rfl) (zln_of (rfl : zcd wC 81 = 33) rfl) (by omega) (by omega) (by decide) (zbd_in (rfl : zcd wC 81 = 33) rfl (by decide)) (zms_of (rfl : zcd wC 81 = 33) rfl) dX0_run_87 (fun H locs hS hS0 => ?_)
        obtain ⟨M31, e32⟩ : ∃ M31 : zM, M31 = zup M5 81 (t1.toNat) 0 := ⟨_, rfl⟩
        rw [← e32] at hS
        have J33 := hS.2.1
        refine z_iinc (lv' := [(3, .int (iI (t1 + 1))), (5, .int (iI 0)), (4, .int (iI 0)), (0, .ref (b + 78)), (1, .ref (b + 32)), (2, .int (iI u))]) hx hb dX0_run_88 hl (k := 5) rfl (by decide) rfl (fun ls hl => ?_)
        refine lv_goto (tgt := 2) hx hb dX0_run_91 (by decide) ?_
        exact ih3 (t1 + 1) M31 _ _ _ (by omega) ⟨by omega, by omega⟩ (by omega) (fun k hk => if h9 : k = t1.toNat then by rw [e32, h9]; exact zup_s _ _ _ _ else by rw [e32, zup_n _ _ (fun q => h9 q.2)]; exact i7 k (by omega)) hS hS0 (lv_sub hl [3, 4, 5, 0] rfl)
  exact L4 _ 0 M _ _ _ (Nat.le_refl _) (by decide) (by omega) (fun k hk => absurd hk (by omega)) hS hS0 (lv_sub hl [1, 2, 3, 0] rfl)

set_option maxHeartbeats 4000000 in
set_option maxRecDepth 100000 in
theorem n_firstSilence (l : Launch) (D : va_G) (dA : Nat → ClassId) (b : Nat) (M : zM) (g0 : M 78 0 = 0) (a0 : ∀ k : Nat, k < 4001 → M 81 k = 0) : Met l yX0_firstSilence (.code yX0_firstSilence cX0_firstSilence 3 (some .int) :: zt) (z_rm 1) (va_Pc [.ref (b + 78)] (zP D dA vwCl (z_tys dA) wC nC b M)) (va_Qi (zQi wC (zms wC []) M (fun z M1 => M1 = M ∧ (z = 0 ∧ True))) (zB D dA vwCl wC nC b) (zA nC b)) 0 0 (zA nC b) := by
  refine Met.ofW (cc := cX0_firstSilence) (maxL := 3) (ret := (some .int)) (by decide) rfl ?_
  intro p e s m args below meth c s₁ B hml hv
  obtain ⟨hargs, hR0, hJ, hK⟩ := hv
  have hx := B.exec
  have hb := B.bytes
  have hr := B.returns
  have hts := atoms_spec (ws := .code yX0_firstSilence cX0_firstSilence 3 (some .int) :: zt) B.pre
  have hown : s.vm.findClass RX0 = some m.cls := findClass_of_methodNamed B.named
  have hlocks := B.notSynchronized
  have hS : zS D dA vwCl wC nC b (zms wC []) M M s.heap := ⟨hR0, hJ, zF_rf _ _⟩
  have hS0 : va_S (zA nC b) s.heap s.heap [] := va_S.rf
  have hl := lv_entry ([.ref (b + 78)]) (n := 3) (Nat.le_of_ble_eq_true rfl)
  have hent : entryFrame m args 3 = F0 m 0 ((lg_sl ([.ref (b + 78)]) ++ List.replicate (3 - (lg_sl ([.ref (b + 78)])).length) Slot.unset).toArray) [] := by rw [hargs]; exact lg_entry_eq m ([.ref (b + 78)]) 3
  rw [hent]
  generalize (lg_sl ([.ref (b + 78)]) ++ List.replicate (3 - (lg_sl ([.ref (b + 78)])).length) Slot.unset).toArray = ls at hl ⊢
  have hl : lv_has ls 3 [(0, .ref (b + 78))] := hl
  refine z_iconst hx hb dX0_firstSilence_0 ?_
  refine lv_istore_n (lv' := [(1, .int (iI 0)), (0, .ref (b + 78))]) hx hb dX0_firstSilence_1 rfl hl (by decide) rfl (fun ls hl => ?_)
  refine lv_aload_n hx hb dX0_firstSilence_2 rfl (lv_at hl 1 rfl) ?_
  refine z_geti hx hb hts (z_memU u0) hown hK.1 hS f0_0 (by decide) (zkd_of (rfl : zcd wC 78 = 30) rfl) (Or.inl (hts _ (z_mem k172))) dX0_firstSilence_3 ?_
  refine z_top (show M 78 0 = 0 from by rw [g0]) ?_
  refine lv_istore_n (lv' := [(2, .int (iI 0)), (1, .int (iI 0)), (0, .ref (b + 78))]) hx hb dX0_firstSilence_6 rfl hl (by decide) rfl (fun ls hl => ?_)
  refine lv_iload_n hx hb dX0_firstSilence_7 rfl (lv_at hl 0 rfl) ?_
  refine z_sipush hx hb (by decide) dX0_firstSilence_8 ?_
  refine z_icmp_gt (tgt := 49) hx hb (by decide) (by decide) dX0_firstSilence_11 (by decide) (fun c1 => absurd c1 (by decide)) (fun c1 => ?_)
  refine lv_aload_n hx hb dX0_firstSilence_14 rfl (lv_at hl 2 rfl) ?_
  refine lv_iload_n hx hb dX0_firstSilence_15 rfl (lv_at hl 0 rfl) ?_
  refine z_calli (va_runV (As := [.int (iI 0)]) (rest := []) ⟨hx, hb, hml, hown, hts⟩ (n_outAt0 l D dA b M 0 (by decide) a0) (cwV 1 hts (z_gV k710 k711 k712 k9 k713) rfl rfl rfl dm_X0_outAt ⟨Nat.le_of_ble_eq_true rfl, Nat.le_of_ble_eq_true rfl⟩) ⟨zP_blind, (z_recv hS hK.1 (by decide) (zkd_of (rfl : zcd wC 78 = 30) rfl) (by decide) (rfl : vwCl[0]? = some (RX0, TX0, 8))), z_pre hS hK⟩ rfl rfl hl.1 rfl (lv_room (Nat.le_of_ble_eq_true rfl)) dX0_firstSilence_16 ⟨Nat.le_refl _, Nat.le_refl _⟩) hS hS0 (zms_sub rfl) (fun z6 M2 H locs r7 h3 F4 hS hS0 => ?_)
  obtain ⟨h8, h3⟩ := h3
  rw [h8] at hS
  have h9 := h3
  obtain ⟨z6e, h9⟩ := h9
  subst z6e
  refine z_if_ne (tgt := 28) hx hb (by decide) dX0_firstSilence_19 (by decide) (fun c10 => absurd c10 (by decide)) (fun c10 => ?_)
  refine lv_iload_n hx hb dX0_firstSilence_22 rfl (lv_at hl 1 rfl) ?_
  refine z_iconst hx hb dX0_firstSilence_23 ?_
  refine z_iadd hx hb dX0_firstSilence_24 ?_
  refine z_top (show ((0 + 1) : Int) = 1 from (by decide)) ?_
  refine lv_goto (tgt := 29) hx hb dX0_firstSilence_25 (by decide) ?_
  refine lv_istore_n (lv' := [(1, .int (iI 1)), (2, .int (iI 0)), (0, .ref (b + 78))]) hx hb dX0_firstSilence_29 rfl hl (by decide) rfl (fun ls hl => ?_)
  refine lv_iload_n hx hb dX0_firstSilence_30 rfl (lv_at hl 0 rfl) ?_
  refine z_bipush hx hb (by decide) dX0_firstSilence_31 ?_
  refine z_icmp_ne (tgt := 43) hx hb (by decide) (by decide) dX0_firstSilence_33 (by decide) (fun c11 => ?_) (fun c11 => absurd c11 (by decide))
  refine z_iinc (lv' := [(2, .int (iI (0 + 1))), (1, .int (iI 1)), (0, .ref (b + 78))]) hx hb dX0_firstSilence_43 hl (k := 1) rfl (by decide) rfl (fun ls hl => ?_)
  rw [show ((0 + 1) : Int) = 1 from by decide] at hl
  refine lv_goto (tgt := 7) hx hb dX0_firstSilence_46 (by decide) ?_
  refine lv_iload_n hx hb dX0_firstSilence_7 rfl (lv_at hl 0 rfl) ?_
  refine z_sipush hx hb (by decide) dX0_firstSilence_8 ?_
  refine z_icmp_gt (tgt := 49) hx hb (by decide) (by decide) dX0_firstSilence_11 (by decide) (fun c12 => absurd c12 (by decide)) (fun c12 => ?_)
  refine lv_aload_n hx hb dX0_firstSilence_14 rfl (lv_at hl 2 rfl) ?_
  refine lv_iload_n hx hb dX0_firstSilence_15 rfl (lv_at hl 0 rfl) ?_
  refine z_calli (va_runV (As := [.int (iI 1)]) (rest := []) ⟨hx, hb, hml, hown, hts⟩ (n_outAt0 l D dA b M 1 (by decide) a0) (cwV 1 hts (z_gV k710 k711 k712 k9 k713) rfl rfl rfl dm_X0_outAt ⟨Nat.le_of_ble_eq_true rfl, Nat.le_of_ble_eq_true rfl⟩) ⟨zP_blind, (z_recv hS hK.1 (by decide) (zkd_of (rfl : zcd wC 78 = 30) rfl) (by decide) (rfl : vwCl[0]? = some (RX0, TX0, 8))), z_pre hS hK⟩ rfl rfl hl.1 rfl (lv_room (Nat.le_of_ble_eq_true rfl)) dX0_firstSilence_16 ⟨Nat.le_refl _, Nat.le_refl _⟩) hS hS0 (zms_sub rfl) (fun z17 M13 H locs r18 h14 F15 hS hS0 => ?_)
  obtain ⟨h19, h14⟩ := h14
  rw [h19] at hS
  have h20 := h14
  obtain ⟨z17e, h20⟩ := h20
  subst z17e
  refine z_if_ne (tgt := 28) hx hb (by decide) dX0_firstSilence_19 (by decide) (fun c21 => absurd c21 (by decide)) (fun c21 => ?_)
  refine lv_iload_n hx hb dX0_firstSilence_22 rfl (lv_at hl 1 rfl) ?_
  refine z_iconst hx hb dX0_firstSilence_23 ?_
  refine z_iadd hx hb dX0_firstSilence_24 ?_
  refine z_top (show ((1 + 1) : Int) = 2 from (by decide)) ?_
  refine lv_goto (tgt := 29) hx hb dX0_firstSilence_25 (by decide) ?_
  refine lv_istore_n (lv' := [(1, .int (iI 2)), (2, .int (iI 1)), (0, .ref (b + 78))]) hx hb dX0_firstSilence_29 rfl hl (by decide) rfl (fun ls hl => ?_)
  refine lv_iload_n hx hb dX0_firstSilence_30 rfl (lv_at hl 0 rfl) ?_
  refine z_bipush hx hb (by decide) dX0_firstSilence_31 ?_
  refine z_icmp_ne (tgt := 43) hx hb (by decide) (by decide) dX0_firstSilence_33 (by decide) (fun c22 => ?_) (fun c22 => absurd c22 (by decide))
  refine z_iinc (lv' := [(2, .int (iI (1 + 1))), (1, .int (iI 2)), (0, .ref (b + 78))]) hx hb dX0_firstSilence_43 hl (k := 1) rfl (by decide) rfl (fun ls hl => ?_)
  rw [show ((1 + 1) : Int) = 2 from by decide] at hl
  refine lv_goto (tgt := 7) hx hb dX0_firstSilence_46 (by decide) ?_
  refine lv_iload_n hx hb dX0_firstSilence_7 rfl (lv_at hl 0 rfl) ?_
  refine z_sipush hx hb (by decide) dX0_firstSilence_8 ?_
  refine z_icmp_gt (tgt := 49) hx hb (by decide) (by decide) dX0_firstSilence_11 (by decide) (fun c23 => absurd c23 (by decide)) (fun c23 => ?_)
  refine lv_aload_n hx hb dX0_firstSilence_14 rfl (lv_at hl 2 rfl) ?_
  refine lv_iload_n hx hb dX0_firstSilence_15 rfl (lv_at hl 0 rfl) ?_
  refine z_calli (va_runV (As := [.int (iI 2)]) (rest := []) ⟨hx, hb, hml, hown, hts⟩ (n_outAt0 l D dA b M 2 (by decide) a0) (cwV 1 hts (z_gV k710 k711 k712 k9 k713) rfl rfl rfl dm_X0_outAt ⟨Nat.le_of_ble_eq_true rfl, Nat.le_of_ble_eq_true rfl⟩) ⟨zP_blind, (z_recv hS hK.1 (by decide) (zkd_of (rfl : zcd wC 78 = 30) rfl) (by decide) (rfl : vwCl[0]? = some (RX0, TX0, 8))), z_pre hS hK⟩ rfl rfl hl.1 rfl (lv_room (Nat.le_of_ble_eq_true rfl)) dX0_firstSilence_16 ⟨Nat.le_refl _, Nat.le_refl _⟩) hS hS0 (zms_sub rfl) (fun z28 M24 H locs r29 h25 F26 hS hS0 => ?_)
  obtain ⟨h30, h25⟩ := h25
  rw [h30] at hS
  have h31 := h25
  obtain ⟨z28e, h31⟩ := h31
  subst z28e
  refine z_if_ne (tgt := 28) hx hb (by decide) dX0_firstSilence_19 (by decide) (fun c32 => absurd c32 (by decide)) (fun c32 => ?_)
  refine lv_iload_n hx hb dX0_firstSilence_22 rfl (lv_at hl 1 rfl) ?_
  refine z_iconst hx hb dX0_firstSilence_23 ?_
  refine z_iadd hx hb dX0_firstSilence_24 ?_
  refine z_top (show ((2 + 1) : Int) = 3 from (by decide)) ?_
  refine lv_goto (tgt := 29) hx hb dX0_firstSilence_25 (by decide) ?_
  refine lv_istore_n (lv' := [(1, .int (iI 3)), (2, .int (iI 2)), (0, .ref (b + 78))]) hx hb dX0_firstSilence_29 rfl hl (by decide) rfl (fun ls hl => ?_)
  refine lv_iload_n hx hb dX0_firstSilence_30 rfl (lv_at hl 0 rfl) ?_
  refine z_bipush hx hb (by decide) dX0_firstSilence_31 ?_
  refine z_icmp_ne (tgt := 43) hx hb (by decide) (by decide) dX0_firstSilence_33 (by decide) (fun c33 => ?_) (fun c33 => absurd c33 (by decide))
  refine z_iinc (lv' := [(2, .int (iI (2 + 1))), (1, .int (iI 3)), (0, .ref (b + 78))]) hx hb dX0_firstSilence_43 hl (k := 1) rfl (by decide) rfl (fun ls hl => ?_)
  rw [show ((2 + 1) : Int) = 3 from by decide] at hl
  refine lv_goto (tgt := 7) hx hb dX0_firstSilence_46 (by decide) ?_
  refine lv_iload_n hx hb dX0_firstSilence_7 rfl (lv_at hl 0 rfl) ?_
  refine z_sipush hx hb (by decide) dX0_firstSilence_8 ?_
  refine z_icmp_gt (tgt := 49) hx hb (by decide) (by decide) dX0_firstSilence_11 (by decide) (fun c34 => absurd c34 (by decide)) (fun c34 => ?_)
  refine lv_aload_n hx hb dX0_firstSilence_14 rfl (lv_at hl 2 rfl) ?_
  refine lv_iload_n hx hb dX0_firstSilence_15 rfl (lv_at hl 0 rfl) ?_
  refine z_calli (va_runV (As := [.int (iI 3)]) (rest := []) ⟨hx, hb, hml, hown, hts⟩ (n_outAt0 l D dA b M 3 (by decide) a0) (cwV 1 hts (z_gV k710 k711 k712 k9 k713) rfl rfl rfl dm_X0_outAt ⟨Nat.le_of_ble_eq_true rfl, Nat.le_of_ble_eq_true rfl⟩) ⟨zP_blind, (z_recv hS hK.1 (by decide) (zkd_of (rfl : zcd wC 78 = 30) rfl) (by decide) (rfl : vwCl[0]? = some (RX0, TX0, 8))), z_pre hS hK⟩ rfl rfl hl.1 rfl (lv_room (Nat.le_of_ble_eq_true rfl)) dX0_firstSilence_16 ⟨Nat.le_refl _, Nat.le_refl _⟩) hS hS0 (zms_sub rfl) (fun z39 M35 H locs r40 h36 F37 hS hS0 => ?_)
  obtain ⟨h41, h36⟩ := h36
  rw [h41] at hS
  have h42 := h36
  obtain ⟨z39e, h42⟩ := h42
  subst z39e
  refine z_if_ne (tgt := 28) hx hb (by decide) dX0_firstSilence_19 (by decide) (fun c43 => absurd c43 (by decide)) (fun c43 => ?_)
  refine lv_iload_n hx hb dX0_firstSilence_22 rfl (lv_at hl 1 rfl) ?_
  refine z_iconst hx hb dX0_firstSilence_23 ?_
  refine z_iadd hx hb dX0_firstSilence_24 ?_
  refine z_top (show ((3 + 1) : Int) = 4 from (by decide)) ?_
  refine lv_goto (tgt := 29) hx hb dX0_firstSilence_25 (by decide) ?_
  refine lv_istore_n (lv' := [(1, .int (iI 4)), (2, .int (iI 3)), (0, .ref (b + 78))]) hx hb dX0_firstSilence_29 rfl hl (by decide) rfl (fun ls hl => ?_)
  refine lv_iload_n hx hb dX0_firstSilence_30 rfl (lv_at hl 0 rfl) ?_
  refine z_bipush hx hb (by decide) dX0_firstSilence_31 ?_
  refine z_icmp_ne (tgt := 43) hx hb (by decide) (by decide) dX0_firstSilence_33 (by decide) (fun c44 => ?_) (fun c44 => absurd c44 (by decide))
  refine z_iinc (lv' := [(2, .int (iI (3 + 1))), (1, .int (iI 4)), (0, .ref (b + 78))]) hx hb dX0_firstSilence_43 hl (k := 1) rfl (by decide) rfl (fun ls hl => ?_)
  rw [show ((3 + 1) : Int) = 4 from by decide] at hl
  refine lv_goto (tgt := 7) hx hb dX0_firstSilence_46 (by decide) ?_
  refine lv_iload_n hx hb dX0_firstSilence_7 rfl (lv_at hl 0 rfl) ?_
  refine z_sipush hx hb (by decide) dX0_firstSilence_8 ?_
  refine z_icmp_gt (tgt := 49) hx hb (by decide) (by decide) dX0_firstSilence_11 (by decide) (fun c45 => absurd c45 (by decide)) (fun c45 => ?_)
  refine lv_aload_n hx hb dX0_firstSilence_14 rfl (lv_at hl 2 rfl) ?_
  refine lv_iload_n hx hb dX0_firstSilence_15 rfl (lv_at hl 0 rfl) ?_
  refine z_calli (va_runV (As := [.int (iI 4)]) (rest := []) ⟨hx, hb, hml, hown, hts⟩ (n_outAt0 l D dA b M 4 (by decide) a0) (cwV 1 hts (z_gV k710 k711 k712 k9 k713) rfl rfl rfl dm_X0_outAt ⟨Nat.le_of_ble_eq_true rfl, Nat.le_of_ble_eq_true rfl⟩) ⟨zP_blind, (z_recv hS hK.1 (by decide) (zkd_of (rfl : zcd wC 78 = 30) rfl) (by decide) (rfl : vwCl[0]? = some (RX0, TX0, 8))), z_pre hS hK⟩ rfl rfl hl.1 rfl (lv_room (Nat.le_of_ble_eq_true rfl)) dX0_firstSilence_16 ⟨Nat.le_refl _, Nat.le_refl _⟩) hS hS0 (zms_sub rfl) (fun z50 M46 H locs r51 h47 F48 hS hS0 => ?_)
  obtain ⟨h52, h47⟩ := h47
  rw [h52] at hS
  have h53 := h47
  obtain ⟨z50e, h53⟩ := h53
  subst z50e
  refine z_if_ne (tgt := 28) hx hb (by decide) dX0_firstSilence_19 (by decide) (fun c54 => absurd c54 (by decide)) (fun c54 => ?_)
  refine lv_iload_n hx hb dX0_firstSilence_22 rfl (lv_at hl 1 rfl) ?_
  refine z_iconst hx hb dX0_firstSilence_23 ?_
  refine z_iadd hx hb dX0_firstSilence_24 ?_
  refine z_top (show ((4 + 1) : Int) = 5 from (by decide)) ?_
  refine lv_goto (tgt := 29) hx hb dX0_firstSilence_25 (by decide) ?_
  refine lv_istore_n (lv' := [(1, .int (iI 5)), (2, .int (iI 4)), (0, .ref (b + 78))]) hx hb dX0_firstSilence_29 rfl hl (by decide) rfl (fun ls hl => ?_)
  refine lv_iload_n hx hb dX0_firstSilence_30 rfl (lv_at hl 0 rfl) ?_
  refine z_bipush hx hb (by decide) dX0_firstSilence_31 ?_
  refine z_icmp_ne (tgt := 43) hx hb (by decide) (by decide) dX0_firstSilence_33 (by decide) (fun c55 => ?_) (fun c55 => absurd c55 (by decide))
  refine z_iinc (lv' := [(2, .int (iI (4 + 1))), (1, .int (iI 5)), (0, .ref (b + 78))]) hx hb dX0_firstSilence_43 hl (k := 1) rfl (by decide) rfl (fun ls hl => ?_)
  rw [show ((4 + 1) : Int) = 5 from by decide] at hl
  refine lv_goto (tgt := 7) hx hb dX0_firstSilence_46 (by decide) ?_
  refine lv_iload_n hx hb dX0_firstSilence_7 rfl (lv_at hl 0 rfl) ?_
  refine z_sipush hx hb (by decide) dX0_firstSilence_8 ?_
  refine z_icmp_gt (tgt := 49) hx hb (by decide) (by decide) dX0_firstSilence_11 (by decide) (fun c56 => absurd c56 (by decide)) (fun c56 => ?_)
  refine lv_aload_n hx hb dX0_firstSilence_14 rfl (lv_at hl 2 rfl) ?_
  refine lv_iload_n hx hb dX0_firstSilence_15 rfl (lv_at hl 0 rfl) ?_
  refine z_calli (va_runV (As := [.int (iI 5)]) (rest := []) ⟨hx, hb, hml, hown, hts⟩ (n_outAt0 l D dA b M 5 (by decide) a0) (cwV 1 hts (z_gV k710 k711 k712 k9 k713) rfl rfl rfl dm_X0_outAt ⟨Nat.le_of_ble_eq_true rfl, Nat.le_of_ble_eq_true rfl⟩) ⟨zP_blind, (z_recv hS hK.1 (by decide) (zkd_of (rfl : zcd wC 78 = 30) rfl) (by decide) (rfl : vwCl[0]? = some (RX0, TX0, 8))), z_pre hS hK⟩ rfl rfl hl.1 rfl (lv_room (Nat.le_of_ble_eq_true rfl)) dX0_firstSilence_16 ⟨Nat.le_refl _, Nat.le_refl _⟩) hS hS0 (zms_sub rfl) (fun z61 M57 H locs r62 h58 F59 hS hS0 => ?_)
  obtain ⟨h63, h58⟩ := h58
  rw [h63] at hS
  have h64 := h58
  obtain ⟨z61e, h64⟩ := h64
  subst z61e
  refine z_if_ne (tgt := 28) hx hb (by decide) dX0_firstSilence_19 (by decide) (fun c65 => absurd c65 (by decide)) (fun c65 => ?_)
  refine lv_iload_n hx hb dX0_firstSilence_22 rfl (lv_at hl 1 rfl) ?_
  refine z_iconst hx hb dX0_firstSilence_23 ?_
  refine z_iadd hx hb dX0_firstSilence_24 ?_
  refine z_top (show ((5 + 1) : Int) = 6 from (by decide)) ?_
  refine lv_goto (tgt := 29) hx hb dX0_firstSilence_25 (by decide) ?_
  refine lv_istore_n (lv' := [(1, .int (iI 6)), (2, .int (iI 5)), (0, .ref (b + 78))]) hx hb dX0_firstSilence_29 rfl hl (by decide) rfl (fun ls hl => ?_)
  refine lv_iload_n hx hb dX0_firstSilence_30 rfl (lv_at hl 0 rfl) ?_
  refine z_bipush hx hb (by decide) dX0_firstSilence_31 ?_
  refine z_icmp_ne (tgt := 43) hx hb (by decide) (by decide) dX0_firstSilence_33 (by decide) (fun c66 => ?_) (fun c66 => absurd c66 (by decide))
  refine z_iinc (lv' := [(2, .int (iI (5 + 1))), (1, .int (iI 6)), (0, .ref (b + 78))]) hx hb dX0_firstSilence_43 hl (k := 1) rfl (by decide) rfl (fun ls hl => ?_)
  rw [show ((5 + 1) : Int) = 6 from by decide] at hl
  refine lv_goto (tgt := 7) hx hb dX0_firstSilence_46 (by decide) ?_
  refine lv_iload_n hx hb dX0_firstSilence_7 rfl (lv_at hl 0 rfl) ?_
  refine z_sipush hx hb (by decide) dX0_firstSilence_8 ?_
  refine z_icmp_gt (tgt := 49) hx hb (by decide) (by decide) dX0_firstSilence_11 (by decide) (fun c67 => absurd c67 (by decide)) (fun c67 => ?_)
  refine lv_aload_n hx hb dX0_firstSilence_14 rfl (lv_at hl 2 rfl) ?_
  refine lv_iload_n hx hb dX0_firstSilence_15 rfl (lv_at hl 0 rfl) ?_
  refine z_calli (va_runV (As := [.int (iI 6)]) (rest := []) ⟨hx, hb, hml, hown, hts⟩ (n_outAt0 l D dA b M 6 (by decide) a0) (cwV 1 hts (z_gV k710 k711 k712 k9 k713) rfl rfl rfl dm_X0_outAt ⟨Nat.le_of_ble_eq_true rfl, Nat.le_of_ble_eq_true rfl⟩) ⟨zP_blind, (z_recv hS hK.1 (by decide) (zkd_of (rfl : zcd wC 78 = 30) rfl) (by decide) (rfl : vwCl[0]? = some (RX0, TX0, 8))), z_pre hS hK⟩ rfl rfl hl.1 rfl (lv_room (Nat.le_of_ble_eq_true rfl)) dX0_firstSilence_16 ⟨Nat.le_refl _, Nat.le_refl _⟩) hS hS0 (zms_sub rfl) (fun z72 M68 H locs r73 h69 F70 hS hS0 => ?_)
  obtain ⟨h74, h69⟩ := h69
  rw [h74] at hS
  have h75 := h69
  obtain ⟨z72e, h75⟩ := h75
  subst z72e
  refine z_if_ne (tgt := 28) hx hb (by decide) dX0_firstSilence_19 (by decide) (fun c76 => absurd c76 (by decide)) (fun c76 => ?_)
  refine lv_iload_n hx hb dX0_firstSilence_22 rfl (lv_at hl 1 rfl) ?_
  refine z_iconst hx hb dX0_firstSilence_23 ?_
  refine z_iadd hx hb dX0_firstSilence_24 ?_
  refine z_top (show ((6 + 1) : Int) = 7 from (by decide)) ?_
  refine lv_goto (tgt := 29) hx hb dX0_firstSilence_25 (by decide) ?_
  refine lv_istore_n (lv' := [(1, .int (iI 7)), (2, .int (iI 6)), (0, .ref (b + 78))]) hx hb dX0_firstSilence_29 rfl hl (by decide) rfl (fun ls hl => ?_)
  refine lv_iload_n hx hb dX0_firstSilence_30 rfl (lv_at hl 0 rfl) ?_
  refine z_bipush hx hb (by decide) dX0_firstSilence_31 ?_
  refine z_icmp_ne (tgt := 43) hx hb (by decide) (by decide) dX0_firstSilence_33 (by decide) (fun c77 => ?_) (fun c77 => absurd c77 (by decide))
  refine z_iinc (lv' := [(2, .int (iI (6 + 1))), (1, .int (iI 7)), (0, .ref (b + 78))]) hx hb dX0_firstSilence_43 hl (k := 1) rfl (by decide) rfl (fun ls hl => ?_)
  rw [show ((6 + 1) : Int) = 7 from by decide] at hl
  refine lv_goto (tgt := 7) hx hb dX0_firstSilence_46 (by decide) ?_
  refine lv_iload_n hx hb dX0_firstSilence_7 rfl (lv_at hl 0 rfl) ?_
  refine z_sipush hx hb (by decide) dX0_firstSilence_8 ?_
  refine z_icmp_gt (tgt := 49) hx hb (by decide) (by decide) dX0_firstSilence_11 (by decide) (fun c78 => absurd c78 (by decide)) (fun c78 => ?_)
  refine lv_aload_n hx hb dX0_firstSilence_14 rfl (lv_at hl 2 rfl) ?_
  refine lv_iload_n hx hb dX0_firstSilence_15 rfl (lv_at hl 0 rfl) ?_
  refine z_calli (va_runV (As := [.int (iI 7)]) (rest := []) ⟨hx, hb, hml, hown, hts⟩ (n_outAt0 l D dA b M 7 (by decide) a0) (cwV 1 hts (z_gV k710 k711 k712 k9 k713) rfl rfl rfl dm_X0_outAt ⟨Nat.le_of_ble_eq_true rfl, Nat.le_of_ble_eq_true rfl⟩) ⟨zP_blind, (z_recv hS hK.1 (by decide) (zkd_of (rfl : zcd wC 78 = 30) rfl) (by decide) (rfl : vwCl[0]? = some (RX0, TX0, 8))), z_pre hS hK⟩ rfl rfl hl.1 rfl (lv_room (Nat.le_of_ble_eq_true rfl)) dX0_firstSilence_16 ⟨Nat.le_refl _, Nat.le_refl _⟩) hS hS0 (zms_sub rfl) (fun z83 M79 H locs r84 h80 F81 hS hS0 => ?_)
  obtain ⟨h85, h80⟩ := h80
  rw [h85] at hS
  have h86 := h80
  obtain ⟨z83e, h86⟩ := h86
  subst z83e
  refine z_if_ne (tgt := 28) hx hb (by decide) dX0_firstSilence_19 (by decide) (fun c87 => absurd c87 (by decide)) (fun c87 => ?_)
  refine lv_iload_n hx hb dX0_firstSilence_22 rfl (lv_at hl 1 rfl) ?_
  refine z_iconst hx hb dX0_firstSilence_23 ?_
  refine z_iadd hx hb dX0_firstSilence_24 ?_
  refine z_top (show ((7 + 1) : Int) = 8 from (by decide)) ?_
  refine lv_goto (tgt := 29) hx hb dX0_firstSilence_25 (by decide) ?_
  refine lv_istore_n (lv' := [(1, .int (iI 8)), (2, .int (iI 7)), (0, .ref (b + 78))]) hx hb dX0_firstSilence_29 rfl hl (by decide) rfl (fun ls hl => ?_)
  refine lv_iload_n hx hb dX0_firstSilence_30 rfl (lv_at hl 0 rfl) ?_
  refine z_bipush hx hb (by decide) dX0_firstSilence_31 ?_
  refine z_icmp_ne (tgt := 43) hx hb (by decide) (by decide) dX0_firstSilence_33 (by decide) (fun c88 => ?_) (fun c88 => absurd c88 (by decide))
  refine z_iinc (lv' := [(2, .int (iI (7 + 1))), (1, .int (iI 8)), (0, .ref (b + 78))]) hx hb dX0_firstSilence_43 hl (k := 1) rfl (by decide) rfl (fun ls hl => ?_)
  rw [show ((7 + 1) : Int) = 8 from by decide] at hl
  refine lv_goto (tgt := 7) hx hb dX0_firstSilence_46 (by decide) ?_
  refine lv_iload_n hx hb dX0_firstSilence_7 rfl (lv_at hl 0 rfl) ?_
  refine z_sipush hx hb (by decide) dX0_firstSilence_8 ?_
  refine z_icmp_gt (tgt := 49) hx hb (by decide) (by decide) dX0_firstSilence_11 (by decide) (fun c89 => absurd c89 (by decide)) (fun c89 => ?_)
  refine lv_aload_n hx hb dX0_firstSilence_14 rfl (lv_at hl 2 rfl) ?_
  refine lv_iload_n hx hb dX0_firstSilence_15 rfl (lv_at hl 0 rfl) ?_
  refine z_calli (va_runV (As := [.int (iI 8)]) (rest := []) ⟨hx, hb, hml, hown, hts⟩ (n_outAt0 l D dA b M 8 (by decide) a0) (cwV 1 hts (z_gV k710 k711 k712 k9 k713) rfl rfl rfl dm_X0_outAt ⟨Nat.le_of_ble_eq_true rfl, Nat.le_of_ble_eq_true rfl⟩) ⟨zP_blind, (z_recv hS hK.1 (by decide) (zkd_of (rfl : zcd wC 78 = 30) rfl) (by decide) (rfl : vwCl[0]? = some (RX0, TX0, 8))), z_pre hS hK⟩ rfl rfl hl.1 rfl (lv_room (Nat.le_of_ble_eq_true rfl)) dX0_firstSilence_16 ⟨Nat.le_refl _, Nat.le_refl _⟩) hS hS0 (zms_sub rfl) (fun z94 M90 H locs r95 h91 F92 hS hS0 => ?_)
  obtain ⟨h96, h91⟩ := h91
  rw [h96] at hS
  have h97 := h91
  obtain ⟨z94e, h97⟩ := h97
  subst z94e
  refine z_if_ne (tgt := 28) hx hb (by decide) dX0_firstSilence_19 (by decide) (fun c98 => absurd c98 (by decide)) (fun c98 => ?_)
  refine lv_iload_n hx hb dX0_firstSilence_22 rfl (lv_at hl 1 rfl) ?_
  refine z_iconst hx hb dX0_firstSilence_23 ?_
  refine z_iadd hx hb dX0_firstSilence_24 ?_
  refine z_top (show ((8 + 1) : Int) = 9 from (by decide)) ?_
  refine lv_goto (tgt := 29) hx hb dX0_firstSilence_25 (by decide) ?_
  refine lv_istore_n (lv' := [(1, .int (iI 9)), (2, .int (iI 8)), (0, .ref (b + 78))]) hx hb dX0_firstSilence_29 rfl hl (by decide) rfl (fun ls hl => ?_)
  refine lv_iload_n hx hb dX0_firstSilence_30 rfl (lv_at hl 0 rfl) ?_
  refine z_bipush hx hb (by decide) dX0_firstSilence_31 ?_
  refine z_icmp_ne (tgt := 43) hx hb (by decide) (by decide) dX0_firstSilence_33 (by decide) (fun c99 => ?_) (fun c99 => absurd c99 (by decide))
  refine z_iinc (lv' := [(2, .int (iI (8 + 1))), (1, .int (iI 9)), (0, .ref (b + 78))]) hx hb dX0_firstSilence_43 hl (k := 1) rfl (by decide) rfl (fun ls hl => ?_)
  rw [show ((8 + 1) : Int) = 9 from by decide] at hl
  refine lv_goto (tgt := 7) hx hb dX0_firstSilence_46 (by decide) ?_
  refine lv_iload_n hx hb dX0_firstSilence_7 rfl (lv_at hl 0 rfl) ?_
  refine z_sipush hx hb (by decide) dX0_firstSilence_8 ?_
  refine z_icmp_gt (tgt := 49) hx hb (by decide) (by decide) dX0_firstSilence_11 (by decide) (fun c100 => absurd c100 (by decide)) (fun c100 => ?_)
  refine lv_aload_n hx hb dX0_firstSilence_14 rfl (lv_at hl 2 rfl) ?_
  refine lv_iload_n hx hb dX0_firstSilence_15 rfl (lv_at hl 0 rfl) ?_
  refine z_calli (va_runV (As := [.int (iI 9)]) (rest := []) ⟨hx, hb, hml, hown, hts⟩ (n_outAt0 l D dA b M 9 (by decide) a0) (cwV 1 hts (z_gV k710 k711 k712 k9 k713) rfl rfl rfl dm_X0_outAt ⟨Nat.le_of_ble_eq_true rfl, Nat.le_of_ble_eq_true rfl⟩) ⟨zP_blind, (z_recv hS hK.1 (by decide) (zkd_of (rfl : zcd wC 78 = 30) rfl) (by decide) (rfl : vwCl[0]? = some (RX0, TX0, 8))), z_pre hS hK⟩ rfl rfl hl.1 rfl (lv_room (Nat.le_of_ble_eq_true rfl)) dX0_firstSilence_16 ⟨Nat.le_refl _, Nat.le_refl _⟩) hS hS0 (zms_sub rfl) (fun z105 M101 H locs r106 h102 F103 hS hS0 => ?_)
  obtain ⟨h107, h102⟩ := h102
  rw [h107] at hS
  have h108 := h102
  obtain ⟨z105e, h108⟩ := h108
  subst z105e
  refine z_if_ne (tgt := 28) hx hb (by decide) dX0_firstSilence_19 (by decide) (fun c109 => absurd c109 (by decide)) (fun c109 => ?_)
  refine lv_iload_n hx hb dX0_firstSilence_22 rfl (lv_at hl 1 rfl) ?_
  refine z_iconst hx hb dX0_firstSilence_23 ?_
  refine z_iadd hx hb dX0_firstSilence_24 ?_
  refine z_top (show ((9 + 1) : Int) = 10 from (by decide)) ?_
  refine lv_goto (tgt := 29) hx hb dX0_firstSilence_25 (by decide) ?_
  refine lv_istore_n (lv' := [(1, .int (iI 10)), (2, .int (iI 9)), (0, .ref (b + 78))]) hx hb dX0_firstSilence_29 rfl hl (by decide) rfl (fun ls hl => ?_)
  refine lv_iload_n hx hb dX0_firstSilence_30 rfl (lv_at hl 0 rfl) ?_
  refine z_bipush hx hb (by decide) dX0_firstSilence_31 ?_
  refine z_icmp_ne (tgt := 43) hx hb (by decide) (by decide) dX0_firstSilence_33 (by decide) (fun c110 => ?_) (fun c110 => absurd c110 (by decide))
  refine z_iinc (lv' := [(2, .int (iI (9 + 1))), (1, .int (iI 10)), (0, .ref (b + 78))]) hx hb dX0_firstSilence_43 hl (k := 1) rfl (by decide) rfl (fun ls hl => ?_)
  rw [show ((9 + 1) : Int) = 10 from by decide] at hl
  refine lv_goto (tgt := 7) hx hb dX0_firstSilence_46 (by decide) ?_
  refine lv_iload_n hx hb dX0_firstSilence_7 rfl (lv_at hl 0 rfl) ?_
  refine z_sipush hx hb (by decide) dX0_firstSilence_8 ?_
  refine z_icmp_gt (tgt := 49) hx hb (by decide) (by decide) dX0_firstSilence_11 (by decide) (fun c111 => absurd c111 (by decide)) (fun c111 => ?_)
  refine lv_aload_n hx hb dX0_firstSilence_14 rfl (lv_at hl 2 rfl) ?_
  refine lv_iload_n hx hb dX0_firstSilence_15 rfl (lv_at hl 0 rfl) ?_
  refine z_calli (va_runV (As := [.int (iI 10)]) (rest := []) ⟨hx, hb, hml, hown, hts⟩ (n_outAt0 l D dA b M 10 (by decide) a0) (cwV 1 hts (z_gV k710 k711 k712 k9 k713) rfl rfl rfl dm_X0_outAt ⟨Nat.le_of_ble_eq_true rfl, Nat.le_of_ble_eq_true rfl⟩) ⟨zP_blind, (z_recv hS hK.1 (by decide) (zkd_of (rfl : zcd wC 78 = 30) rfl) (by decide) (rfl : vwCl[0]? = some (RX0, TX0, 8))), z_pre hS hK⟩ rfl rfl hl.1 rfl (lv_room (Nat.le_of_ble_eq_true rfl)) dX0_firstSilence_16 ⟨Nat.le_refl _, Nat.le_refl _⟩) hS hS0 (zms_sub rfl) (fun z116 M112 H locs r117 h113 F114 hS hS0 => ?_)
  obtain ⟨h118, h113⟩ := h113
  rw [h118] at hS
  have h119 := h113
  obtain ⟨z116e, h119⟩ := h119
  subst z116e
  refine z_if_ne (tgt := 28) hx hb (by decide) dX0_firstSilence_19 (by decide) (fun c120 => absurd c120 (by decide)) (fun c120 => ?_)
  refine lv_iload_n hx hb dX0_firstSilence_22 rfl (lv_at hl 1 rfl) ?_
  refine z_iconst hx hb dX0_firstSilence_23 ?_
  refine z_iadd hx hb dX0_firstSilence_24 ?_
  refine z_top (show ((10 + 1) : Int) = 11 from (by decide)) ?_
  refine lv_goto (tgt := 29) hx hb dX0_firstSilence_25 (by decide) ?_
  refine lv_istore_n (lv' := [(1, .int (iI 11)), (2, .int (iI 10)), (0, .ref (b + 78))]) hx hb dX0_firstSilence_29 rfl hl (by decide) rfl (fun ls hl => ?_)
  refine lv_iload_n hx hb dX0_firstSilence_30 rfl (lv_at hl 0 rfl) ?_
  refine z_bipush hx hb (by decide) dX0_firstSilence_31 ?_
  refine z_icmp_ne (tgt := 43) hx hb (by decide) (by decide) dX0_firstSilence_33 (by decide) (fun c121 => ?_) (fun c121 => absurd c121 (by decide))
  refine z_iinc (lv' := [(2, .int (iI (10 + 1))), (1, .int (iI 11)), (0, .ref (b + 78))]) hx hb dX0_firstSilence_43 hl (k := 1) rfl (by decide) rfl (fun ls hl => ?_)
  rw [show ((10 + 1) : Int) = 11 from by decide] at hl
  refine lv_goto (tgt := 7) hx hb dX0_firstSilence_46 (by decide) ?_
  refine lv_iload_n hx hb dX0_firstSilence_7 rfl (lv_at hl 0 rfl) ?_
  refine z_sipush hx hb (by decide) dX0_firstSilence_8 ?_
  refine z_icmp_gt (tgt := 49) hx hb (by decide) (by decide) dX0_firstSilence_11 (by decide) (fun c122 => absurd c122 (by decide)) (fun c122 => ?_)
  refine lv_aload_n hx hb dX0_firstSilence_14 rfl (lv_at hl 2 rfl) ?_
  refine lv_iload_n hx hb dX0_firstSilence_15 rfl (lv_at hl 0 rfl) ?_
  refine z_calli (va_runV (As := [.int (iI 11)]) (rest := []) ⟨hx, hb, hml, hown, hts⟩ (n_outAt0 l D dA b M 11 (by decide) a0) (cwV 1 hts (z_gV k710 k711 k712 k9 k713) rfl rfl rfl dm_X0_outAt ⟨Nat.le_of_ble_eq_true rfl, Nat.le_of_ble_eq_true rfl⟩) ⟨zP_blind, (z_recv hS hK.1 (by decide) (zkd_of (rfl : zcd wC 78 = 30) rfl) (by decide) (rfl : vwCl[0]? = some (RX0, TX0, 8))), z_pre hS hK⟩ rfl rfl hl.1 rfl (lv_room (Nat.le_of_ble_eq_true rfl)) dX0_firstSilence_16 ⟨Nat.le_refl _, Nat.le_refl _⟩) hS hS0 (zms_sub rfl) (fun z127 M123 H locs r128 h124 F125 hS hS0 => ?_)
  obtain ⟨h129, h124⟩ := h124
  rw [h129] at hS
  have h130 := h124
  obtain ⟨z127e, h130⟩ := h130
  subst z127e
  refine z_if_ne (tgt := 28) hx hb (by decide) dX0_firstSilence_19 (by decide) (fun c131 => absurd c131 (by decide)) (fun c131 => ?_)
  refine lv_iload_n hx hb dX0_firstSilence_22 rfl (lv_at hl 1 rfl) ?_
  refine z_iconst hx hb dX0_firstSilence_23 ?_
  refine z_iadd hx hb dX0_firstSilence_24 ?_
  refine z_top (show ((11 + 1) : Int) = 12 from (by decide)) ?_
  refine lv_goto (tgt := 29) hx hb dX0_firstSilence_25 (by decide) ?_
  refine lv_istore_n (lv' := [(1, .int (iI 12)), (2, .int (iI 11)), (0, .ref (b + 78))]) hx hb dX0_firstSilence_29 rfl hl (by decide) rfl (fun ls hl => ?_)
  refine lv_iload_n hx hb dX0_firstSilence_30 rfl (lv_at hl 0 rfl) ?_
  refine z_bipush hx hb (by decide) dX0_firstSilence_31 ?_
  refine z_icmp_ne (tgt := 43) hx hb (by decide) (by decide) dX0_firstSilence_33 (by decide) (fun c132 => ?_) (fun c132 => absurd c132 (by decide))
  refine z_iinc (lv' := [(2, .int (iI (11 + 1))), (1, .int (iI 12)), (0, .ref (b + 78))]) hx hb dX0_firstSilence_43 hl (k := 1) rfl (by decide) rfl (fun ls hl => ?_)
  rw [show ((11 + 1) : Int) = 12 from by decide] at hl
  refine lv_goto (tgt := 7) hx hb dX0_firstSilence_46 (by decide) ?_
  refine lv_iload_n hx hb dX0_firstSilence_7 rfl (lv_at hl 0 rfl) ?_
  refine z_sipush hx hb (by decide) dX0_firstSilence_8 ?_
  refine z_icmp_gt (tgt := 49) hx hb (by decide) (by decide) dX0_firstSilence_11 (by decide) (fun c133 => absurd c133 (by decide)) (fun c133 => ?_)
  refine lv_aload_n hx hb dX0_firstSilence_14 rfl (lv_at hl 2 rfl) ?_
  refine lv_iload_n hx hb dX0_firstSilence_15 rfl (lv_at hl 0 rfl) ?_
  refine z_calli (va_runV (As := [.int (iI 12)]) (rest := []) ⟨hx, hb, hml, hown, hts⟩ (n_outAt0 l D dA b M 12 (by decide) a0) (cwV 1 hts (z_gV k710 k711 k712 k9 k713) rfl rfl rfl dm_X0_outAt ⟨Nat.le_of_ble_eq_true rfl, Nat.le_of_ble_eq_true rfl⟩) ⟨zP_blind, (z_recv hS hK.1 (by decide) (zkd_of (rfl : zcd wC 78 = 30) rfl) (by decide) (rfl : vwCl[0]? = some (RX0, TX0, 8))), z_pre hS hK⟩ rfl rfl hl.1 rfl (lv_room (Nat.le_of_ble_eq_true rfl)) dX0_firstSilence_16 ⟨Nat.le_refl _, Nat.le_refl _⟩) hS hS0 (zms_sub rfl) (fun z138 M134 H locs r139 h135 F136 hS hS0 => ?_)
  obtain ⟨h140, h135⟩ := h135
  rw [h140] at hS
  have h141 := h135
  obtain ⟨z138e, h141⟩ := h141
  subst z138e
  refine z_if_ne (tgt := 28) hx hb (by decide) dX0_firstSilence_19 (by decide) (fun c142 => absurd c142 (by decide)) (fun c142 => ?_)
  refine lv_iload_n hx hb dX0_firstSilence_22 rfl (lv_at hl 1 rfl) ?_
  refine z_iconst hx hb dX0_firstSilence_23 ?_
  refine z_iadd hx hb dX0_firstSilence_24 ?_
  refine z_top (show ((12 + 1) : Int) = 13 from (by decide)) ?_
  refine lv_goto (tgt := 29) hx hb dX0_firstSilence_25 (by decide) ?_
  refine lv_istore_n (lv' := [(1, .int (iI 13)), (2, .int (iI 12)), (0, .ref (b + 78))]) hx hb dX0_firstSilence_29 rfl hl (by decide) rfl (fun ls hl => ?_)
  refine lv_iload_n hx hb dX0_firstSilence_30 rfl (lv_at hl 0 rfl) ?_
  refine z_bipush hx hb (by decide) dX0_firstSilence_31 ?_
  refine z_icmp_ne (tgt := 43) hx hb (by decide) (by decide) dX0_firstSilence_33 (by decide) (fun c143 => ?_) (fun c143 => absurd c143 (by decide))
  refine z_iinc (lv' := [(2, .int (iI (12 + 1))), (1, .int (iI 13)), (0, .ref (b + 78))]) hx hb dX0_firstSilence_43 hl (k := 1) rfl (by decide) rfl (fun ls hl => ?_)
  rw [show ((12 + 1) : Int) = 13 from by decide] at hl
  refine lv_goto (tgt := 7) hx hb dX0_firstSilence_46 (by decide) ?_
  refine lv_iload_n hx hb dX0_firstSilence_7 rfl (lv_at hl 0 rfl) ?_
  refine z_sipush hx hb (by decide) dX0_firstSilence_8 ?_
  refine z_icmp_gt (tgt := 49) hx hb (by decide) (by decide) dX0_firstSilence_11 (by decide) (fun c144 => absurd c144 (by decide)) (fun c144 => ?_)
  refine lv_aload_n hx hb dX0_firstSilence_14 rfl (lv_at hl 2 rfl) ?_
  refine lv_iload_n hx hb dX0_firstSilence_15 rfl (lv_at hl 0 rfl) ?_
  refine z_calli (va_runV (As := [.int (iI 13)]) (rest := []) ⟨hx, hb, hml, hown, hts⟩ (n_outAt0 l D dA b M 13 (by decide) a0) (cwV 1 hts (z_gV k710 k711 k712 k9 k713) rfl rfl rfl dm_X0_outAt ⟨Nat.le_of_ble_eq_true rfl, Nat.le_of_ble_eq_true rfl⟩) ⟨zP_blind, (z_recv hS hK.1 (by decide) (zkd_of (rfl : zcd wC 78 = 30) rfl) (by decide) (rfl : vwCl[0]? = some (RX0, TX0, 8))), z_pre hS hK⟩ rfl rfl hl.1 rfl (lv_room (Nat.le_of_ble_eq_true rfl)) dX0_firstSilence_16 ⟨Nat.le_refl _, Nat.le_refl _⟩) hS hS0 (zms_sub rfl) (fun z149 M145 H locs r150 h146 F147 hS hS0 => ?_)
  obtain ⟨h151, h146⟩ := h146
  rw [h151] at hS
  have h152 := h146
  obtain ⟨z149e, h152⟩ := h152
  subst z149e
  refine z_if_ne (tgt := 28) hx hb (by decide) dX0_firstSilence_19 (by decide) (fun c153 => absurd c153 (by decide)) (fun c153 => ?_)
  refine lv_iload_n hx hb dX0_firstSilence_22 rfl (lv_at hl 1 rfl) ?_
  refine z_iconst hx hb dX0_firstSilence_23 ?_
  refine z_iadd hx hb dX0_firstSilence_24 ?_
  refine z_top (show ((13 + 1) : Int) = 14 from (by decide)) ?_
  refine lv_goto (tgt := 29) hx hb dX0_firstSilence_25 (by decide) ?_
  refine lv_istore_n (lv' := [(1, .int (iI 14)), (2, .int (iI 13)), (0, .ref (b + 78))]) hx hb dX0_firstSilence_29 rfl hl (by decide) rfl (fun ls hl => ?_)
  refine lv_iload_n hx hb dX0_firstSilence_30 rfl (lv_at hl 0 rfl) ?_
  refine z_bipush hx hb (by decide) dX0_firstSilence_31 ?_
  refine z_icmp_ne (tgt := 43) hx hb (by decide) (by decide) dX0_firstSilence_33 (by decide) (fun c154 => ?_) (fun c154 => absurd c154 (by decide))
  refine z_iinc (lv' := [(2, .int (iI (13 + 1))), (1, .int (iI 14)), (0, .ref (b + 78))]) hx hb dX0_firstSilence_43 hl (k := 1) rfl (by decide) rfl (fun ls hl => ?_)
  rw [show ((13 + 1) : Int) = 14 from by decide] at hl
  refine lv_goto (tgt := 7) hx hb dX0_firstSilence_46 (by decide) ?_
  refine lv_iload_n hx hb dX0_firstSilence_7 rfl (lv_at hl 0 rfl) ?_
  refine z_sipush hx hb (by decide) dX0_firstSilence_8 ?_
  refine z_icmp_gt (tgt := 49) hx hb (by decide) (by decide) dX0_firstSilence_11 (by decide) (fun c155 => absurd c155 (by decide)) (fun c155 => ?_)
  refine lv_aload_n hx hb dX0_firstSilence_14 rfl (lv_at hl 2 rfl) ?_
  refine lv_iload_n hx hb dX0_firstSilence_15 rfl (lv_at hl 0 rfl) ?_
  refine z_calli (va_runV (As := [.int (iI 14)]) (rest := []) ⟨hx, hb, hml, hown, hts⟩ (n_outAt0 l D dA b M 14 (by decide) a0) (cwV 1 hts (z_gV k710 k711 k712 k9 k713) rfl rfl rfl dm_X0_outAt ⟨Nat.le_of_ble_eq_true rfl, Nat.le_of_ble_eq_true rfl⟩) ⟨zP_blind, (z_recv hS hK.1 (by decide) (zkd_of (rfl : zcd wC 78 = 30) rfl) (by decide) (rfl : vwCl[0]? = some (RX0, TX0, 8))), z_pre hS hK⟩ rfl rfl hl.1 rfl (lv_room (Nat.le_of_ble_eq_true rfl)) dX0_firstSilence_16 ⟨Nat.le_refl _, Nat.le_refl _⟩) hS hS0 (zms_sub rfl) (fun z160 M156 H locs r161 h157 F158 hS hS0 => ?_)
  obtain ⟨h162, h157⟩ := h157
  rw [h162] at hS
  have h163 := h157
  obtain ⟨z160e, h163⟩ := h163
  subst z160e
  refine z_if_ne (tgt := 28) hx hb (by decide) dX0_firstSilence_19 (by decide) (fun c164 => absurd c164 (by decide)) (fun c164 => ?_)
  refine lv_iload_n hx hb dX0_firstSilence_22 rfl (lv_at hl 1 rfl) ?_
  refine z_iconst hx hb dX0_firstSilence_23 ?_
  refine z_iadd hx hb dX0_firstSilence_24 ?_
  refine z_top (show ((14 + 1) : Int) = 15 from (by decide)) ?_
  refine lv_goto (tgt := 29) hx hb dX0_firstSilence_25 (by decide) ?_
  refine lv_istore_n (lv' := [(1, .int (iI 15)), (2, .int (iI 14)), (0, .ref (b + 78))]) hx hb dX0_firstSilence_29 rfl hl (by decide) rfl (fun ls hl => ?_)
  refine lv_iload_n hx hb dX0_firstSilence_30 rfl (lv_at hl 0 rfl) ?_
  refine z_bipush hx hb (by decide) dX0_firstSilence_31 ?_
  refine z_icmp_ne (tgt := 43) hx hb (by decide) (by decide) dX0_firstSilence_33 (by decide) (fun c165 => ?_) (fun c165 => absurd c165 (by decide))
  refine z_iinc (lv' := [(2, .int (iI (14 + 1))), (1, .int (iI 15)), (0, .ref (b + 78))]) hx hb dX0_firstSilence_43 hl (k := 1) rfl (by decide) rfl (fun ls hl => ?_)
  rw [show ((14 + 1) : Int) = 15 from by decide] at hl
  refine lv_goto (tgt := 7) hx hb dX0_firstSilence_46 (by decide) ?_
  refine lv_iload_n hx hb dX0_firstSilence_7 rfl (lv_at hl 0 rfl) ?_
  refine z_sipush hx hb (by decide) dX0_firstSilence_8 ?_
  refine z_icmp_gt (tgt := 49) hx hb (by decide) (by decide) dX0_firstSilence_11 (by decide) (fun c166 => absurd c166 (by decide)) (fun c166 => ?_)
  refine lv_aload_n hx hb dX0_firstSilence_14 rfl (lv_at hl 2 rfl) ?_
  refine lv_iload_n hx hb dX0_firstSilence_15 rfl (lv_at hl 0 rfl) ?_
  refine z_calli (va_runV (As := [.int (iI 15)]) (rest := []) ⟨hx, hb, hml, hown, hts⟩ (n_outAt0 l D dA b M 15 (by decide) a0) (cwV 1 hts (z_gV k710 k711 k712 k9 k713) rfl rfl rfl dm_X0_outAt ⟨Nat.le_of_ble_eq_true rfl, Nat.le_of_ble_eq_true rfl⟩) ⟨zP_blind, (z_recv hS hK.1 (by decide) (zkd_of (rfl : zcd wC 78 = 30) rfl) (by decide) (rfl : vwCl[0]? = some (RX0, TX0, 8))), z_pre hS hK⟩ rfl rfl hl.1 rfl (lv_room (Nat.le_of_ble_eq_true rfl)) dX0_firstSilence_16 ⟨Nat.le_refl _, Nat.le_refl _⟩) hS hS0 (zms_sub rfl) (fun z171 M167 H locs r172 h168 F169 hS hS0 => ?_)
  obtain ⟨h173, h168⟩ := h168
  rw [h173] at hS
  have h174 := h168
  obtain ⟨z171e, h174⟩ := h174
  subst z171e
  refine z_if_ne (tgt := 28) hx hb (by decide) dX0_firstSilence_19 (by decide) (fun c175 => absurd c175 (by decide)) (fun c175 => ?_)
  refine lv_iload_n hx hb dX0_firstSilence_22 rfl (lv_at hl 1 rfl) ?_
  refine z_iconst hx hb dX0_firstSilence_23 ?_
  refine z_iadd hx hb dX0_firstSilence_24 ?_
  refine z_top (show ((15 + 1) : Int) = 16 from (by decide)) ?_
  refine lv_goto (tgt := 29) hx hb dX0_firstSilence_25 (by decide) ?_
  refine lv_istore_n (lv' := [(1, .int (iI 16)), (2, .int (iI 15)), (0, .ref (b + 78))]) hx hb dX0_firstSilence_29 rfl hl (by decide) rfl (fun ls hl => ?_)
  refine lv_iload_n hx hb dX0_firstSilence_30 rfl (lv_at hl 0 rfl) ?_
  refine z_bipush hx hb (by decide) dX0_firstSilence_31 ?_
  refine z_icmp_ne (tgt := 43) hx hb (by decide) (by decide) dX0_firstSilence_33 (by decide) (fun c176 => ?_) (fun c176 => absurd c176 (by decide))
  refine z_iinc (lv' := [(2, .int (iI (15 + 1))), (1, .int (iI 16)), (0, .ref (b + 78))]) hx hb dX0_firstSilence_43 hl (k := 1) rfl (by decide) rfl (fun ls hl => ?_)
  rw [show ((15 + 1) : Int) = 16 from by decide] at hl
  refine lv_goto (tgt := 7) hx hb dX0_firstSilence_46 (by decide) ?_
  refine lv_iload_n hx hb dX0_firstSilence_7 rfl (lv_at hl 0 rfl) ?_
  refine z_sipush hx hb (by decide) dX0_firstSilence_8 ?_
  refine z_icmp_gt (tgt := 49) hx hb (by decide) (by decide) dX0_firstSilence_11 (by decide) (fun c177 => absurd c177 (by decide)) (fun c177 => ?_)
  refine lv_aload_n hx hb dX0_firstSilence_14 rfl (lv_at hl 2 rfl) ?_
  refine lv_iload_n hx hb dX0_firstSilence_15 rfl (lv_at hl 0 rfl) ?_
  refine z_calli (va_runV (As := [.int (iI 16)]) (rest := []) ⟨hx, hb, hml, hown, hts⟩ (n_outAt0 l D dA b M 16 (by decide) a0) (cwV 1 hts (z_gV k710 k711 k712 k9 k713) rfl rfl rfl dm_X0_outAt ⟨Nat.le_of_ble_eq_true rfl, Nat.le_of_ble_eq_true rfl⟩) ⟨zP_blind, (z_recv hS hK.1 (by decide) (zkd_of (rfl : zcd wC 78 = 30) rfl) (by decide) (rfl : vwCl[0]? = some (RX0, TX0, 8))), z_pre hS hK⟩ rfl rfl hl.1 rfl (lv_room (Nat.le_of_ble_eq_true rfl)) dX0_firstSilence_16 ⟨Nat.le_refl _, Nat.le_refl _⟩) hS hS0 (zms_sub rfl) (fun z182 M178 H locs r183 h179 F180 hS hS0 => ?_)
  obtain ⟨h184, h179⟩ := h179
  rw [h184] at hS
  have h185 := h179
  obtain ⟨z182e, h185⟩ := h185
  subst z182e
  refine z_if_ne (tgt := 28) hx hb (by decide) dX0_firstSilence_19 (by decide) (fun c186 => absurd c186 (by decide)) (fun c186 => ?_)
  refine lv_iload_n hx hb dX0_firstSilence_22 rfl (lv_at hl 1 rfl) ?_
  refine z_iconst hx hb dX0_firstSilence_23 ?_
  refine z_iadd hx hb dX0_firstSilence_24 ?_
  refine z_top (show ((16 + 1) : Int) = 17 from (by decide)) ?_
  refine lv_goto (tgt := 29) hx hb dX0_firstSilence_25 (by decide) ?_
  refine lv_istore_n (lv' := [(1, .int (iI 17)), (2, .int (iI 16)), (0, .ref (b + 78))]) hx hb dX0_firstSilence_29 rfl hl (by decide) rfl (fun ls hl => ?_)
  refine lv_iload_n hx hb dX0_firstSilence_30 rfl (lv_at hl 0 rfl) ?_
  refine z_bipush hx hb (by decide) dX0_firstSilence_31 ?_
  refine z_icmp_ne (tgt := 43) hx hb (by decide) (by decide) dX0_firstSilence_33 (by decide) (fun c187 => ?_) (fun c187 => absurd c187 (by decide))
  refine z_iinc (lv' := [(2, .int (iI (16 + 1))), (1, .int (iI 17)), (0, .ref (b + 78))]) hx hb dX0_firstSilence_43 hl (k := 1) rfl (by decide) rfl (fun ls hl => ?_)
  rw [show ((16 + 1) : Int) = 17 from by decide] at hl
  refine lv_goto (tgt := 7) hx hb dX0_firstSilence_46 (by decide) ?_
  refine lv_iload_n hx hb dX0_firstSilence_7 rfl (lv_at hl 0 rfl) ?_
  refine z_sipush hx hb (by decide) dX0_firstSilence_8 ?_
  refine z_icmp_gt (tgt := 49) hx hb (by decide) (by decide) dX0_firstSilence_11 (by decide) (fun c188 => absurd c188 (by decide)) (fun c188 => ?_)
  refine lv_aload_n hx hb dX0_firstSilence_14 rfl (lv_at hl 2 rfl) ?_
  refine lv_iload_n hx hb dX0_firstSilence_15 rfl (lv_at hl 0 rfl) ?_
  refine z_calli (va_runV (As := [.int (iI 17)]) (rest := []) ⟨hx, hb, hml, hown, hts⟩ (n_outAt0 l D dA b M 17 (by decide) a0) (cwV 1 hts (z_gV k710 k711 k712 k9 k713) rfl rfl rfl dm_X0_outAt ⟨Nat.le_of_ble_eq_true rfl, Nat.le_of_ble_eq_true rfl⟩) ⟨zP_blind, (z_recv hS hK.1 (by decide) (zkd_of (rfl : zcd wC 78 = 30) rfl) (by decide) (rfl : vwCl[0]? = some (RX0, TX0, 8))), z_pre hS hK⟩ rfl rfl hl.1 rfl (lv_room (Nat.le_of_ble_eq_true rfl)) dX0_firstSilence_16 ⟨Nat.le_refl _, Nat.le_refl _⟩) hS hS0 (zms_sub rfl) (fun z193 M189 H locs r194 h190 F191 hS hS0 => ?_)
  obtain ⟨h195, h190⟩ := h190
  rw [h195] at hS
  have h196 := h190
  obtain ⟨z193e, h196⟩ := h196
  subst z193e
  refine z_if_ne (tgt := 28) hx hb (by decide) dX0_firstSilence_19 (by decide) (fun c197 => absurd c197 (by decide)) (fun c197 => ?_)
  refine lv_iload_n hx hb dX0_firstSilence_22 rfl (lv_at hl 1 rfl) ?_
  refine z_iconst hx hb dX0_firstSilence_23 ?_
  refine z_iadd hx hb dX0_firstSilence_24 ?_
  refine z_top (show ((17 + 1) : Int) = 18 from (by decide)) ?_
  refine lv_goto (tgt := 29) hx hb dX0_firstSilence_25 (by decide) ?_
  refine lv_istore_n (lv' := [(1, .int (iI 18)), (2, .int (iI 17)), (0, .ref (b + 78))]) hx hb dX0_firstSilence_29 rfl hl (by decide) rfl (fun ls hl => ?_)
  refine lv_iload_n hx hb dX0_firstSilence_30 rfl (lv_at hl 0 rfl) ?_
  refine z_bipush hx hb (by decide) dX0_firstSilence_31 ?_
  refine z_icmp_ne (tgt := 43) hx hb (by decide) (by decide) dX0_firstSilence_33 (by decide) (fun c198 => ?_) (fun c198 => absurd c198 (by decide))
  refine z_iinc (lv' := [(2, .int (iI (17 + 1))), (1, .int (iI 18)), (0, .ref (b + 78))]) hx hb dX0_firstSilence_43 hl (k := 1) rfl (by decide) rfl (fun ls hl => ?_)
  rw [show ((17 + 1) : Int) = 18 from by decide] at hl
  refine lv_goto (tgt := 7) hx hb dX0_firstSilence_46 (by decide) ?_
  refine lv_iload_n hx hb dX0_firstSilence_7 rfl (lv_at hl 0 rfl) ?_
  refine z_sipush hx hb (by decide) dX0_firstSilence_8 ?_
  refine z_icmp_gt (tgt := 49) hx hb (by decide) (by decide) dX0_firstSilence_11 (by decide) (fun c199 => absurd c199 (by decide)) (fun c199 => ?_)
  refine lv_aload_n hx hb dX0_firstSilence_14 rfl (lv_at hl 2 rfl) ?_
  refine lv_iload_n hx hb dX0_firstSilence_15 rfl (lv_at hl 0 rfl) ?_
  refine z_calli (va_runV (As := [.int (iI 18)]) (rest := []) ⟨hx, hb, hml, hown, hts⟩ (n_outAt0 l D dA b M 18 (by decide) a0) (cwV 1 hts (z_gV k710 k711 k712 k9 k713) rfl rfl rfl dm_X0_outAt ⟨Nat.le_of_ble_eq_true rfl, Nat.le_of_ble_eq_true rfl⟩) ⟨zP_blind, (z_recv hS hK.1 (by decide) (zkd_of (rfl : zcd wC 78 = 30) rfl) (by decide) (rfl : vwCl[0]? = some (RX0, TX0, 8))), z_pre hS hK⟩ rfl rfl hl.1 rfl (lv_room (Nat.le_of_ble_eq_true rfl)) dX0_firstSilence_16 ⟨Nat.le_refl _, Nat.le_refl _⟩) hS hS0 (zms_sub rfl) (fun z204 M200 H locs r205 h201 F202 hS hS0 => ?_)
  obtain ⟨h206, h201⟩ := h201
  rw [h206] at hS
  have h207 := h201
  obtain ⟨z204e, h207⟩ := h207
  subst z204e
  refine z_if_ne (tgt := 28) hx hb (by decide) dX0_firstSilence_19 (by decide) (fun c208 => absurd c208 (by decide)) (fun c208 => ?_)
  refine lv_iload_n hx hb dX0_firstSilence_22 rfl (lv_at hl 1 rfl) ?_
  refine z_iconst hx hb dX0_firstSilence_23 ?_
  refine z_iadd hx hb dX0_firstSilence_24 ?_
  refine z_top (show ((18 + 1) : Int) = 19 from (by decide)) ?_
  refine lv_goto (tgt := 29) hx hb dX0_firstSilence_25 (by decide) ?_
  refine lv_istore_n (lv' := [(1, .int (iI 19)), (2, .int (iI 18)), (0, .ref (b + 78))]) hx hb dX0_firstSilence_29 rfl hl (by decide) rfl (fun ls hl => ?_)
  refine lv_iload_n hx hb dX0_firstSilence_30 rfl (lv_at hl 0 rfl) ?_
  refine z_bipush hx hb (by decide) dX0_firstSilence_31 ?_
  refine z_icmp_ne (tgt := 43) hx hb (by decide) (by decide) dX0_firstSilence_33 (by decide) (fun c209 => ?_) (fun c209 => absurd c209 (by decide))
  refine z_iinc (lv' := [(2, .int (iI (18 + 1))), (1, .int (iI 19)), (0, .ref (b + 78))]) hx hb dX0_firstSilence_43 hl (k := 1) rfl (by decide) rfl (fun ls hl => ?_)
  rw [show ((18 + 1) : Int) = 19 from by decide] at hl
  refine lv_goto (tgt := 7) hx hb dX0_firstSilence_46 (by decide) ?_
  refine lv_iload_n hx hb dX0_firstSilence_7 rfl (lv_at hl 0 rfl) ?_
  refine z_sipush hx hb (by decide) dX0_firstSilence_8 ?_
  refine z_icmp_gt (tgt := 49) hx hb (by decide) (by decide) dX0_firstSilence_11 (by decide) (fun c210 => absurd c210 (by decide)) (fun c210 => ?_)
  refine lv_aload_n hx hb dX0_firstSilence_14 rfl (lv_at hl 2 rfl) ?_
  refine lv_iload_n hx hb dX0_firstSilence_15 rfl (lv_at hl 0 rfl) ?_
  refine z_calli (va_runV (As := [.int (iI 19)]) (rest := []) ⟨hx, hb, hml, hown, hts⟩ (n_outAt0 l D dA b M 19 (by decide) a0) (cwV 1 hts (z_gV k710 k711 k712 k9 k713) rfl rfl rfl dm_X0_outAt ⟨Nat.le_of_ble_eq_true rfl, Nat.le_of_ble_eq_true rfl⟩) ⟨zP_blind, (z_recv hS hK.1 (by decide) (zkd_of (rfl : zcd wC 78 = 30) rfl) (by decide) (rfl : vwCl[0]? = some (RX0, TX0, 8))), z_pre hS hK⟩ rfl rfl hl.1 rfl (lv_room (Nat.le_of_ble_eq_true rfl)) dX0_firstSilence_16 ⟨Nat.le_refl _, Nat.le_refl _⟩) hS hS0 (zms_sub rfl) (fun z215 M211 H locs r216 h212 F213 hS hS0 => ?_)
  obtain ⟨h217, h212⟩ := h212
  rw [h217] at hS
  have h218 := h212
  obtain ⟨z215e, h218⟩ := h218
  subst z215e
  refine z_if_ne (tgt := 28) hx hb (by decide) dX0_firstSilence_19 (by decide) (fun c219 => absurd c219 (by decide)) (fun c219 => ?_)
  refine lv_iload_n hx hb dX0_firstSilence_22 rfl (lv_at hl 1 rfl) ?_
  refine z_iconst hx hb dX0_firstSilence_23 ?_
  refine z_iadd hx hb dX0_firstSilence_24 ?_
  refine z_top (show ((19 + 1) : Int) = 20 from (by decide)) ?_
  refine lv_goto (tgt := 29) hx hb dX0_firstSilence_25 (by decide) ?_
  refine lv_istore_n (lv' := [(1, .int (iI 20)), (2, .int (iI 19)), (0, .ref (b + 78))]) hx hb dX0_firstSilence_29 rfl hl (by decide) rfl (fun ls hl => ?_)
  refine lv_iload_n hx hb dX0_firstSilence_30 rfl (lv_at hl 0 rfl) ?_
  refine z_bipush hx hb (by decide) dX0_firstSilence_31 ?_
  refine z_icmp_ne (tgt := 43) hx hb (by decide) (by decide) dX0_firstSilence_33 (by decide) (fun c220 => absurd c220 (by decide)) (fun c220 => ?_)
  refine lv_iload_n hx hb dX0_firstSilence_36 rfl (lv_at hl 1 rfl) ?_
  refine z_bipush hx hb (by decide) dX0_firstSilence_37 ?_
  refine z_isub hx hb dX0_firstSilence_39 ?_
  refine z_top (show ((19 - 20) : Int) = (-1) from (by decide)) ?_
  refine z_iconst hx hb dX0_firstSilence_40 ?_
  refine z_iadd hx hb dX0_firstSilence_41 ?_
  refine z_top (show (((-1) + 1) : Int) = 0 from (by decide)) ?_
  exact z_iret hx hb hr hlocks hS hS0 (by decide) (⟨rfl, by first | exact trivial | exact ⟨rfl, trivial⟩ | omega | (refine ⟨by omega, trivial⟩)⟩) dX0_firstSilence_42

set_option maxHeartbeats 4000000 in
set_option maxRecDepth 100000 in
theorem n_fate (l : Launch) (D : va_G) (dA : Nat → ClassId) (b : Nat) (M : zM) (g0 : M 78 0 = 0) (g1 : M 78 3 = 1) (g2 : M 78 4 = 0) (g3 : M 78 5 = 1) (g4 : M 78 6 = 0) : Met l yX0_fate (.code yX0_fate cX0_fate 5 (some .int) :: zt) (z_rm 3) (va_Pc [.ref (b + 78), .ref (b + 32)] (zP D dA vwCl (z_tys dA) wC nC b M)) (va_Qi (zQi wC (zms wC [2175]) M (fun z M1 => z = 0 ∧ True)) (zB D dA vwCl wC nC b) (zA nC b)) 0 0 (zA nC b) := by
  refine Met.ofW (cc := cX0_fate) (maxL := 5) (ret := (some .int)) (by decide) rfl ?_
  intro p e s m args below meth c s₁ B hml hv
  obtain ⟨hargs, hR0, hJ, hK⟩ := hv
  have hx := B.exec
  have hb := B.bytes
  have hr := B.returns
  have hts := atoms_spec (ws := .code yX0_fate cX0_fate 5 (some .int) :: zt) B.pre
  have hown : s.vm.findClass RX0 = some m.cls := findClass_of_methodNamed B.named
  have hlocks := B.notSynchronized
  have hS : zS D dA vwCl wC nC b (zms wC [2175]) M M s.heap := ⟨hR0, hJ, zF_rf _ _⟩
  have hS0 : va_S (zA nC b) s.heap s.heap [] := va_S.rf
  have hl := lv_entry ([.ref (b + 78), .ref (b + 32)]) (n := 5) (Nat.le_of_ble_eq_true rfl)
  have hent : entryFrame m args 5 = F0 m 0 ((lg_sl ([.ref (b + 78), .ref (b + 32)]) ++ List.replicate (5 - (lg_sl ([.ref (b + 78), .ref (b + 32)])).length) Slot.unset).toArray) [] := by rw [hargs]; exact lg_entry_eq m ([.ref (b + 78), .ref (b + 32)]) 5
  rw [hent]
  generalize (lg_sl ([.ref (b + 78), .ref (b + 32)]) ++ List.replicate (5 - (lg_sl ([.ref (b + 78), .ref (b + 32)])).length) Slot.unset).toArray = ls at hl ⊢
  have hl : lv_has ls 5 [(0, .ref (b + 78)), (1, .ref (b + 32))] := hl
  refine lv_aload_n hx hb dX0_fate_0 rfl (lv_at hl 0 rfl) ?_
  refine lv_aload_n hx hb dX0_fate_1 rfl (lv_at hl 1 rfl) ?_
  refine z_sipush hx hb (by decide) dX0_fate_2 ?_
  refine z_callv (va_runV (As := [.ref (b + 32), .int (iI 4000)]) (rest := []) ⟨hx, hb, hml, hown, hts⟩ (n_run l D dA b M 4000 (by decide) (by rw [g0]) (by rw [g1]) (by rw [g2]) (by rw [g3]) (by rw [g4]) (by omega)) (cwV 2 hts (z_gV k724 k700 k701 k9 k702) rfl rfl rfl dm_X0_run ⟨Nat.le_of_ble_eq_true rfl, Nat.le_of_ble_eq_true rfl⟩) ⟨zP_blind, (z_recv hS hK.1 (by decide) (zkd_of (rfl : zcd wC 78 = 30) rfl) (by decide) (rfl : vwCl[0]? = some (RX0, TX0, 8))), z_pre hS hK⟩ rfl rfl hl.1 rfl (lv_room (Nat.le_of_ble_eq_true rfl)) dX0_fate_5 ⟨Nat.le_refl _, Nat.le_refl _⟩) hS hS0 (zms_sub rfl) (fun M1 H locs h2 F3 hS hS0 => ?_)
  have J4 := hS.2.1
  have ar5 : ∀ k : Nat, k < 4001 → M1 81 k = 0 := fun k hk => h2 k (by omega)
  refine lv_aload_n hx hb dX0_fate_8 rfl (lv_at hl 0 rfl) ?_
  refine z_calli (va_runV (As := []) (rest := []) ⟨hx, hb, hml, hown, hts⟩ (n_firstSilence l D dA b M1 (by rw [F3 _ _ (zms_not (rfl : zcd wC 78 = 30) rfl), g0]) ar5) (cwV 0 hts (z_gV k725 k726 k1382 k9 k727) rfl rfl rfl dm_X0_firstSilence ⟨Nat.le_of_ble_eq_true rfl, Nat.le_of_ble_eq_true rfl⟩) ⟨zP_blind, (z_recv hS hK.1 (by decide) (zkd_of (rfl : zcd wC 78 = 30) rfl) (by decide) (rfl : vwCl[0]? = some (RX0, TX0, 8))), z_pre hS hK⟩ rfl rfl hl.1 rfl (lv_room (Nat.le_of_ble_eq_true rfl)) dX0_fate_9 ⟨Nat.le_refl _, Nat.le_refl _⟩) hS hS0 (zms_sub rfl) (fun z10 M6 H locs r11 h7 F8 hS hS0 => ?_)
  obtain ⟨h12, h7⟩ := h7
  rw [h12] at hS
  have h13 := h7
  obtain ⟨z10e, h13⟩ := h13
  subst z10e
  refine lv_istore_n (lv' := [(2, .int (iI 0)), (0, .ref (b + 78)), (1, .ref (b + 32))]) hx hb dX0_fate_12 rfl hl (by decide) rfl (fun ls hl => ?_)
  refine lv_iload_n hx hb dX0_fate_13 rfl (lv_at hl 0 rfl) ?_
  refine z_iconst hx hb dX0_fate_14 ?_
  refine z_icmp_eq (tgt := 20) hx hb (by decide) (by decide) dX0_fate_15 (by decide) (fun c14 => absurd c14 (by decide)) (fun c14 => ?_)
  refine lv_iload_n hx hb dX0_fate_18 rfl (lv_at hl 0 rfl) ?_
  exact z_iret hx hb hr hlocks hS hS0 (by decide) (by first | exact trivial | exact ⟨rfl, trivial⟩ | omega | (refine ⟨by omega, trivial⟩)) dX0_fate_19

set_option maxHeartbeats 4000000 in
set_option maxRecDepth 100000 in
theorem n_oadd (l : Launch) (D : va_G) (dA : Nat → ClassId) (b : Nat) (M : zM) (v : Int) (c0 : Int) (r_v : R32 v) (g_c0 : M 82 1 = c0) (p0 : c0 < 60) : Met l yX3_add (.code yX3_add cX3_add 2 (some .int) :: zt) (z_rm 0) (va_Pc [.ref (b + 82), .int (iI v)] (zP D dA vwCl (z_tys dA) wC nC b M)) (va_Qi (zQi wC (zms wC [2177, 2303]) M (fun z M1 => (z = c0 + 1 ∧ True) ∧ M1 82 1 = c0 + 1)) (zB D dA vwCl wC nC b) (zA nC b)) 0 0 (zA nC b) := by
  refine Met.ofW (cc := cX3_add) (maxL := 2) (ret := (some .int)) (by decide) rfl ?_
  intro p e s m args below meth c s₁ B hml hv
  obtain ⟨hargs, hR0, hJ, hK⟩ := hv
  have hx := B.exec
  have hb := B.bytes
  have hr := B.returns
  have hts := atoms_spec (ws := .code yX3_add cX3_add 2 (some .int) :: zt) B.pre
  have hown : s.vm.findClass RX3 = some m.cls := findClass_of_methodNamed B.named
  have hlocks := B.notSynchronized
  have hS : zS D dA vwCl wC nC b (zms wC [2177, 2303]) M M s.heap := ⟨hR0, hJ, zF_rf _ _⟩
  have hS0 : va_S (zA nC b) s.heap s.heap [] := va_S.rf
  have hl := lv_entry ([.ref (b + 82), .int (iI v)]) (n := 2) (Nat.le_of_ble_eq_true rfl)
  have hent : entryFrame m args 2 = F0 m 0 ((lg_sl ([.ref (b + 82), .int (iI v)]) ++ List.replicate (2 - (lg_sl ([.ref (b + 82), .int (iI v)])).length) Slot.unset).toArray) [] := by rw [hargs]; exact lg_entry_eq m ([.ref (b + 82), .int (iI v)]) 2
  rw [hent]
  generalize (lg_sl ([.ref (b + 82), .int (iI v)]) ++ List.replicate (2 - (lg_sl ([.ref (b + 82), .int (iI v)])).length) Slot.unset).toArray = ls at hl ⊢
  have hl : lv_has ls 2 [(0, .ref (b + 82)), (1, .int (iI v))] := hl
  have gb_c0 : (0 : Int) ≤ c0 ∧ c0 ≤ 60 := by rw [← g_c0]; exact zJ_at hJ (rfl : zcd wC 82 = 34) rfl
  refine lv_aload_n hx hb dX3_add_0 rfl (lv_at hl 0 rfl) ?_
  refine z_geti hx hb hts (z_memU u3) hown hK.1 hS f3_1 (by decide) (zkd_of (rfl : zcd wC 82 = 34) rfl) (Or.inl (hts _ (z_mem k196))) dX3_add_1 ?_
  refine z_top (show M 82 1 = c0 from by rw [g_c0]) ?_
  refine z_bipush hx hb (by decide) dX3_add_4 ?_
  refine z_icmp_lt (tgt := 11) hx hb ⟨by omega, by omega⟩ (by decide) dX3_add_6 (by decide) (fun c1 => ?_) (fun c1 => absurd c1 (by omega))
  refine lv_aload_n hx hb dX3_add_11 rfl (lv_at hl 0 rfl) ?_
  refine z_getr (j2 := 83) hx hb hts (z_memU u3) hown hK.1 hS f3_0 (by decide) (zkd_of (rfl : zcd wC 82 = 34) rfl) (zrf_of (rfl : zcd wC 82 = 34) rfl) (Or.inl (hts _ (z_mem k195))) dX3_add_12 ?_
  refine lv_aload_n hx hb dX3_add_15 rfl (lv_at hl 0 rfl) ?_
  refine z_geti hx hb hts (z_memU u3) hown hK.1 hS f3_1 (by decide) (zkd_of (rfl : zcd wC 82 = 34) rfl) (Or.inl (hts _ (z_mem k196))) dX3_add_16 ?_
  refine z_top (show M 82 1 = c0 from by rw [g_c0]) ?_
  refine lv_iload_n hx hb dX3_add_19 rfl (lv_at hl 1 rfl) ?_
  refine z_iast (n := 60) hx hb hK.1 (t0 := 0) rfl hS hS0 (by decide) (zkd_of (rfl : zcd wC 83 = 35) rfl) (zln_of (rfl : zcd wC 83 = 35) rfl) (by omega) (by omega) (by decide) (zbd_in (rfl : zcd wC 83 = 35) rfl r_v) (zms_of (rfl : zcd wC 83 = 35) rfl) dX3_add_20 (fun H locs hS hS0 => ?_)
  obtain ⟨M2, e3⟩ : ∃ M2 : zM, M2 = zup M 83 (c0.toNat) v := ⟨_, rfl⟩
  rw [← e3] at hS
  have J4 := hS.2.1
  refine lv_aload_n hx hb dX3_add_21 rfl (lv_at hl 0 rfl) ?_
  refine lv_dup hx hb dX3_add_22 rfl ?_
  refine z_geti hx hb hts (z_memU u3) hown hK.1 hS f3_1 (by decide) (zkd_of (rfl : zcd wC 82 = 34) rfl) (Or.inl (hts _ (z_mem k196))) dX3_add_23 ?_
  refine z_top (show M2 82 1 = c0 from by rw [e3, zup_n _ _ (by omega), g_c0]) ?_
  refine z_iconst hx hb dX3_add_26 ?_
  refine z_iadd hx hb dX3_add_27 ?_
  refine z_puti hx hb hts (z_memU u3) tyX3 tyX3_ok nmX3 hown hK.1 hS hS0 f3_1 (by decide) (zkd_of (rfl : zcd wC 82 = 34) rfl) (Or.inl (hts _ (z_mem k196))) rfl (z := (c0 + 1)) (by decide +kernel) (zbd_in (rfl : zcd wC 82 = 34) rfl ⟨by omega, by omega⟩) (zms_of (rfl : zcd wC 82 = 34) rfl) dX3_add_28 (fun H locs hS hS0 => ?_)
  obtain ⟨M5, e6⟩ : ∃ M5 : zM, M5 = zup M2 82 1 (c0 + 1) := ⟨_, rfl⟩
  rw [← e6] at hS
  have J7 := hS.2.1
  refine lv_aload_n hx hb dX3_add_31 rfl (lv_at hl 0 rfl) ?_
  refine z_geti hx hb hts (z_memU u3) hown hK.1 hS f3_1 (by decide) (zkd_of (rfl : zcd wC 82 = 34) rfl) (Or.inl (hts _ (z_mem k196))) dX3_add_32 ?_
  refine z_top (show M5 82 1 = (c0 + 1) from by rw [e6, zup_s]) ?_
  exact z_iret hx hb hr hlocks hS hS0 ⟨by omega, by omega⟩ (⟨by first | exact trivial | exact ⟨rfl, trivial⟩ | omega | (refine ⟨by omega, trivial⟩), by rw [e6, zup_s] <;> omega⟩) dX3_add_35

set_option maxHeartbeats 4000000 in
set_option maxRecDepth 100000 in
theorem n_makeGap (l : Launch) (D : va_G) (dA : Nat → ClassId) (b : Nat) (M : zM) (i : Int) (r_i : R32 i) (g0 : M 82 1 = 0) : Met l yX3_makeGap (.code yX3_makeGap cX3_makeGap 2 (some .boolean) :: zt) (z_rm 0) (va_Pc [.ref (b + 82), .int (iI i)] (zP D dA vwCl (z_tys dA) wC nC b M)) (va_Qi (zQi wC (zms wC []) M (fun z M1 => M1 = M ∧ (z = 0 ∧ True))) (zB D dA vwCl wC nC b) (zA nC b)) 0 0 (zA nC b) := by
  refine Met.ofW (cc := cX3_makeGap) (maxL := 2) (ret := (some .boolean)) (by decide) rfl ?_
  intro p e s m args below meth c s₁ B hml hv
  obtain ⟨hargs, hR0, hJ, hK⟩ := hv
  have hx := B.exec
  have hb := B.bytes
  have hr := B.returns
  have hts := atoms_spec (ws := .code yX3_makeGap cX3_makeGap 2 (some .boolean) :: zt) B.pre
  have hown : s.vm.findClass RX3 = some m.cls := findClass_of_methodNamed B.named
  have hlocks := B.notSynchronized
  have hS : zS D dA vwCl wC nC b (zms wC []) M M s.heap := ⟨hR0, hJ, zF_rf _ _⟩
  have hS0 : va_S (zA nC b) s.heap s.heap [] := va_S.rf
  have hl := lv_entry ([.ref (b + 82), .int (iI i)]) (n := 2) (Nat.le_of_ble_eq_true rfl)
  have hent : entryFrame m args 2 = F0 m 0 ((lg_sl ([.ref (b + 82), .int (iI i)]) ++ List.replicate (2 - (lg_sl ([.ref (b + 82), .int (iI i)])).length) Slot.unset).toArray) [] := by rw [hargs]; exact lg_entry_eq m ([.ref (b + 82), .int (iI i)]) 2
  rw [hent]
  generalize (lg_sl ([.ref (b + 82), .int (iI i)]) ++ List.replicate (2 - (lg_sl ([.ref (b + 82), .int (iI i)])).length) Slot.unset).toArray = ls at hl ⊢
  have hl : lv_has ls 2 [(0, .ref (b + 82)), (1, .int (iI i))] := hl
  refine lv_iload_n hx hb dX3_makeGap_0 rfl (lv_at hl 1 rfl) ?_
  refine z_if_lt (tgt := 12) hx hb r_i dX3_makeGap_1 (by decide) (fun c1 => ?_) (fun c1 => ?_)
  · skip
    refine z_iconst hx hb dX3_makeGap_12 ?_
    exact z_zret hx hb hr hlocks hS hS0 (by first | decide | omega) (⟨rfl, by first | exact trivial | exact ⟨rfl, trivial⟩ | omega | (refine ⟨by omega, trivial⟩)⟩) dX3_makeGap_13
  · skip
    refine lv_iload_n hx hb dX3_makeGap_4 rfl (lv_at hl 1 rfl) ?_
    refine lv_aload_n hx hb dX3_makeGap_5 rfl (lv_at hl 0 rfl) ?_
    refine z_geti hx hb hts (z_memU u3) hown hK.1 hS f3_1 (by decide) (zkd_of (rfl : zcd wC 82 = 34) rfl) (Or.inl (hts _ (z_mem k196))) dX3_makeGap_6 ?_
    refine z_top (show M 82 1 = 0 from by rw [g0]) ?_
    refine z_icmp_lt (tgt := 14) hx hb r_i (by decide) dX3_makeGap_9 (by decide) (fun c2 => absurd c2 (by omega)) (fun c2 => ?_)
    refine z_iconst hx hb dX3_makeGap_12 ?_
    exact z_zret hx hb hr hlocks hS hS0 (by first | decide | omega) (⟨rfl, by first | exact trivial | exact ⟨rfl, trivial⟩ | omega | (refine ⟨by omega, trivial⟩)⟩) dX3_makeGap_13

set_option maxHeartbeats 4000000 in
set_option maxRecDepth 100000 in
theorem n_spanFits (l : Launch) (D : va_G) (dA : Nat → ClassId) (b : Nat) (M : zM) (pp : Int) (r_pp : R32 pp) (g0 : M 82 1 = 0) : Met l yX3_spanFits (.code yX3_spanFits cX3_spanFits 4 (some .boolean) :: zt) (z_rm 1) (va_Pc [.ref (b + 82), .int (iI pp)] (zP D dA vwCl (z_tys dA) wC nC b M)) (va_Qi (zQi wC (zms wC [2367]) M (fun z M1 => z = 1 ∧ True)) (zB D dA vwCl wC nC b) (zA nC b)) 0 0 (zA nC b) := by
  refine Met.ofW (cc := cX3_spanFits) (maxL := 4) (ret := (some .boolean)) (by decide) rfl ?_
  intro p e s m args below meth c s₁ B hml hv
  obtain ⟨hargs, hR0, hJ, hK⟩ := hv
  have hx := B.exec
  have hb := B.bytes
  have hr := B.returns
  have hts := atoms_spec (ws := .code yX3_spanFits cX3_spanFits 4 (some .boolean) :: zt) B.pre
  have hown : s.vm.findClass RX3 = some m.cls := findClass_of_methodNamed B.named
  have hlocks := B.notSynchronized
  have hS : zS D dA vwCl wC nC b (zms wC [2367]) M M s.heap := ⟨hR0, hJ, zF_rf _ _⟩
  have hS0 : va_S (zA nC b) s.heap s.heap [] := va_S.rf
  have hl := lv_entry ([.ref (b + 82), .int (iI pp)]) (n := 4) (Nat.le_of_ble_eq_true rfl)
  have hent : entryFrame m args 4 = F0 m 0 ((lg_sl ([.ref (b + 82), .int (iI pp)]) ++ List.replicate (4 - (lg_sl ([.ref (b + 82), .int (iI pp)])).length) Slot.unset).toArray) [] := by rw [hargs]; exact lg_entry_eq m ([.ref (b + 82), .int (iI pp)]) 4
  rw [hent]
  generalize (lg_sl ([.ref (b + 82), .int (iI pp)]) ++ List.replicate (4 - (lg_sl ([.ref (b + 82), .int (iI pp)])).length) Slot.unset).toArray = ls at hl ⊢
  have hl : lv_has ls 4 [(0, .ref (b + 82)), (1, .int (iI pp))] := hl
  refine lv_aload_n hx hb dX3_spanFits_0 rfl (lv_at hl 0 rfl) ?_
  refine z_getr (j2 := 84) hx hb hts (z_memU u3) hown hK.1 hS f3_2 (by decide) (zkd_of (rfl : zcd wC 82 = 34) rfl) (zrf_of (rfl : zcd wC 82 = 34) rfl) (Or.inl (hts _ (z_mem k198))) dX3_spanFits_1 ?_
  refine z_iconst hx hb dX3_spanFits_4 ?_
  refine z_callv (va_runS (As := [.ref (b + 84), .int (iI (-1))]) (rest := []) ⟨hx, hb, hml, hown, hts⟩ (n_fill84 l D dA b M (-1) (by decide)) (va_cwS 2 hts (z_gS k769 k170 k10 k171) rfl rfl rfl dm_J7_fill_53178.2 ⟨Nat.le_of_ble_eq_true rfl, Nat.le_of_ble_eq_true rfl⟩) ⟨zP_blind, z_pre hS hK⟩ rfl rfl hl.1 rfl (lv_room (Nat.le_of_ble_eq_true rfl)) dX3_spanFits_5 ⟨Nat.le_refl _, Nat.le_refl _⟩) hS hS0 (zms_sub rfl) (fun M1 H locs h2 F3 hS hS0 => ?_)
  have J4 := hS.2.1
  refine z_iconst hx hb dX3_spanFits_8 ?_
  refine lv_istore_n (lv' := [(2, .int (iI 0)), (0, .ref (b + 82)), (1, .int (iI pp))]) hx hb dX3_spanFits_9 rfl hl (by decide) rfl (fun ls hl => ?_)
  refine lv_iload_n hx hb dX3_spanFits_10 rfl (lv_at hl 0 rfl) ?_
  refine lv_aload_n hx hb dX3_spanFits_11 rfl (lv_at hl 1 rfl) ?_
  refine z_geti hx hb hts (z_memU u3) hown hK.1 hS f3_1 (by decide) (zkd_of (rfl : zcd wC 82 = 34) rfl) (Or.inl (hts _ (z_mem k196))) dX3_spanFits_12 ?_
  refine z_top (show M1 82 1 = 0 from by rw [F3 _ _ (zms_not (rfl : zcd wC 82 = 34) rfl), g0]) ?_
  refine z_icmp_ge (tgt := 83) hx hb (by decide) (by decide) dX3_spanFits_15 (by decide) (fun c5 => ?_) (fun c5 => absurd c5 (by decide))
  refine z_iconst hx hb dX3_spanFits_83 ?_
  exact z_zret hx hb hr hlocks hS hS0 (by first | decide | omega) (by first | exact trivial | exact ⟨rfl, trivial⟩ | omega | (refine ⟨by omega, trivial⟩)) dX3_spanFits_84

set_option maxHeartbeats 4000000 in
set_option maxRecDepth 100000 in
theorem n_spanNumber (l : Launch) (D : va_G) (dA : Nat → ClassId) (b : Nat) (M : zM) (i : Int) (r_i : R32 i) (g0 : M 82 1 = 0) : Met l yX3_spanNumber (.code yX3_spanNumber cX3_spanNumber 4 (some .int) :: zt) (z_rm 2) (va_Pc [.ref (b + 82), .int (iI i)] (zP D dA vwCl (z_tys dA) wC nC b M)) (va_Qi (zQi wC (zms wC [2367]) M (fun z M1 => (0 ≤ i ∧ i < 24 ∧ z = i + 1) ∨ ((i < 0 ∨ 24 ≤ i) ∧ z = -1))) (zB D dA vwCl wC nC b) (zA nC b)) 0 0 (zA nC b) := by
  refine Met.ofW (cc := cX3_spanNumber) (maxL := 4) (ret := (some .int)) (by decide) rfl ?_
  intro p e s m args below meth c s₁ B hml hv
  obtain ⟨hargs, hR0, hJ, hK⟩ := hv
  have hx := B.exec
  have hb := B.bytes
  have hr := B.returns
  have hts := atoms_spec (ws := .code yX3_spanNumber cX3_spanNumber 4 (some .int) :: zt) B.pre
  have hown : s.vm.findClass RX3 = some m.cls := findClass_of_methodNamed B.named
  have hlocks := B.notSynchronized
  have hS : zS D dA vwCl wC nC b (zms wC [2367]) M M s.heap := ⟨hR0, hJ, zF_rf _ _⟩
  have hS0 : va_S (zA nC b) s.heap s.heap [] := va_S.rf
  have hl := lv_entry ([.ref (b + 82), .int (iI i)]) (n := 4) (Nat.le_of_ble_eq_true rfl)
  have hent : entryFrame m args 4 = F0 m 0 ((lg_sl ([.ref (b + 82), .int (iI i)]) ++ List.replicate (4 - (lg_sl ([.ref (b + 82), .int (iI i)])).length) Slot.unset).toArray) [] := by rw [hargs]; exact lg_entry_eq m ([.ref (b + 82), .int (iI i)]) 4
  rw [hent]
  generalize (lg_sl ([.ref (b + 82), .int (iI i)]) ++ List.replicate (4 - (lg_sl ([.ref (b + 82), .int (iI i)])).length) Slot.unset).toArray = ls at hl ⊢
  have hl : lv_has ls 4 [(0, .ref (b + 82)), (1, .int (iI i))] := hl
  refine z_iconst hx hb dX3_spanNumber_0 ?_
  refine lv_istore_n (lv' := [(2, .int (iI 0)), (0, .ref (b + 82)), (1, .int (iI i))]) hx hb dX3_spanNumber_1 rfl hl (by decide) rfl (fun ls hl => ?_)
  refine z_iconst hx hb dX3_spanNumber_2 ?_
  refine lv_istore_n (lv' := [(3, .int (iI 1)), (2, .int (iI 0)), (0, .ref (b + 82)), (1, .int (iI i))]) hx hb dX3_spanNumber_3 rfl hl (by decide) rfl (fun ls hl => ?_)
  have L5 : ∀ (n3 : Nat) (f1 : Int) (pp2 : Int) (M6 : zM) (H : Heap) (locs : List Loc) (ls : Array Slot), (2147483648 - pp2).toNat ≤ n3 → R32 f1 → R32 pp2 → (1 ≤ pp2 ∧ pp2 ≤ 25) → (f1 = pp2 - 1) → (i < 0 ∨ pp2 - 1 ≤ i) → zS D dA vwCl wC nC b (zms wC [2367]) M M6 H → va_S (zA nC b) s.heap H locs → lv_has ls 4 [(0, .ref (b + 82)), (1, .int (iI i)), (2, .int (iI f1)), (3, .int (iI pp2))] → W p l e (headSpec (.code yX3_spanNumber cX3_spanNumber 4 (some .int) :: zt) (z_rm 2)).room s m args below meth c H locs 0 0 (MQ below (va_Qi (zQi wC (zms wC [2367]) M (fun z M1 => (0 ≤ i ∧ i < 24 ∧ z = i + 1) ∨ ((i < 0 ∨ 24 ≤ i) ∧ z = -1))) (zB D dA vwCl wC nC b) (zA nC b)) args s 0 0 (zA nC b)) (F0 m 4 ls []) := by
    intro n3
    induction n3 with
    | zero =>
      intro f1 pp2 M6 H locs ls hm r_f1 r_pp2 i7 i8 i9 hS hS0 hl
      exfalso
      omega
    | succ n3 ih4 =>
      intro f1 pp2 M6 H locs ls hm r_f1 r_pp2 i7 i8 i9 hS hS0 hl
      have J10 := hS.2.1
      have F11 := hS.2.2
      refine lv_iload_n hx hb dX3_spanNumber_4 rfl (lv_at hl 3 rfl) ?_
      refine z_bipush hx hb (by decide) dX3_spanNumber_5 ?_
      refine z_icmp_gt (tgt := 34) hx hb r_pp2 (by decide) dX3_spanNumber_7 (by decide) (fun c12 => ?_) (fun c12 => ?_)
      · skip
        refine z_iconst hx hb dX3_spanNumber_34 ?_
        exact z_iret hx hb hr hlocks hS hS0 (by decide) (by first | exact trivial | exact ⟨rfl, trivial⟩ | omega | (refine ⟨by omega, trivial⟩)) dX3_spanNumber_35
      · skip
        refine lv_aload_n hx hb dX3_spanNumber_10 rfl (lv_at hl 0 rfl) ?_
        refine lv_iload_n hx hb dX3_spanNumber_11 rfl (lv_at hl 3 rfl) ?_
        refine z_calli (va_runV (As := [.int (iI pp2)]) (rest := []) ⟨hx, hb, hml, hown, hts⟩ (n_spanFits l D dA b M6 pp2 r_pp2 (by rw [F11 _ _ (zms_not (rfl : zcd wC 82 = 34) rfl), g0])) (cwV 1 hts (z_gV k766 k767 k1385 k11 k768) rfl rfl rfl dm_X3_spanFits ⟨Nat.le_of_ble_eq_true rfl, Nat.le_of_ble_eq_true rfl⟩) ⟨zP_blind, (z_recv hS hK.1 (by decide) (zkd_of (rfl : zcd wC 82 = 34) rfl) (by decide) (rfl : vwCl[3]? = some (RX3, TX3, 4))), z_pre hS hK⟩ rfl rfl hl.1 rfl (lv_room (Nat.le_of_ble_eq_true rfl)) dX3_spanNumber_12 ⟨Nat.le_refl _, Nat.le_refl _⟩) hS hS0 (zms_sub rfl) (fun z17 M13 H locs r18 h14 F15 hS hS0 => ?_)
        have J16 := hS.2.1
        have h19 := h14
        obtain ⟨z17e, h19⟩ := h19
        subst z17e
        refine z_if_eq (tgt := 28) hx hb (by decide) dX3_spanNumber_15 (by decide) (fun c20 => absurd c20 (by decide)) (fun c20 => ?_)
        refine lv_iload_n hx hb dX3_spanNumber_18 rfl (lv_at hl 2 rfl) ?_
        refine lv_iload_n hx hb dX3_spanNumber_19 rfl (lv_at hl 1 rfl) ?_
        refine z_icmp_ne (tgt := 25) hx hb r_f1 r_i dX3_spanNumber_20 (by decide) (fun c21 => ?_) (fun c21 => ?_)
        · skip
          refine z_iinc (lv' := [(2, .int (iI (f1 + 1))), (0, .ref (b + 82)), (1, .int (iI i)), (3, .int (iI pp2))]) hx hb dX3_spanNumber_25 hl (k := 2) rfl (by decide) rfl (fun ls hl => ?_)
          refine z_iinc (lv' := [(3, .int (iI (pp2 + 1))), (2, .int (iI (f1 + 1))), (0, .ref (b + 82)), (1, .int (iI i))]) hx hb dX3_spanNumber_28 hl (k := 3) rfl (by decide) rfl (fun ls hl => ?_)
          refine lv_goto (tgt := 4) hx hb dX3_spanNumber_31 (by decide) ?_
          exact ih4 (f1 + 1) (pp2 + 1) M13 _ _ _ (by omega) ⟨by omega, by omega⟩ ⟨by omega, by omega⟩ (by omega) (by omega) (by omega) hS hS0 (lv_sub hl [2, 3, 1, 0] rfl)
        · skip
          refine lv_iload_n hx hb dX3_spanNumber_23 rfl (lv_at hl 3 rfl) ?_
          exact z_iret hx hb hr hlocks hS hS0 r_pp2 (by first | exact trivial | exact ⟨rfl, trivial⟩ | omega | (refine ⟨by omega, trivial⟩)) dX3_spanNumber_24
  exact L5 _ 0 1 M _ _ _ (Nat.le_refl _) (by decide) (by decide) (by omega) (by omega) (by omega) hS hS0 (lv_sub hl [2, 3, 1, 0] rfl)

set_option maxHeartbeats 4000000 in
set_option maxRecDepth 100000 in
theorem n_makeGreatest84 (l : Launch) (D : va_G) (dA : Nat → ClassId) (b : Nat) (M : zM) (n : Int) (r_n : R32 n) (g0 : M 82 1 = 0) : Met l yX3_makeGreatest (.code yX3_makeGreatest cX3_makeGreatest 4 none :: zt) (z_rm 1) (va_Pc [.ref (b + 82), .ref (b + 84), .int (iI n)] (zP D dA vwCl (z_tys dA) wC nC b M)) (va_Qv (zQv wC (zms wC [2367]) M (fun M1 => True)) (zB D dA vwCl wC nC b) (zA nC b)) 0 0 (zA nC b) := by
  refine Met.ofW (cc := cX3_makeGreatest) (maxL := 4) (ret := none) (by decide) rfl ?_
  intro p e s m args below meth c s₁ B hml hv
  obtain ⟨hargs, hR0, hJ, hK⟩ := hv
  have hx := B.exec
  have hb := B.bytes
  have hr := B.returns
  have hts := atoms_spec (ws := .code yX3_makeGreatest cX3_makeGreatest 4 none :: zt) B.pre
  have hown : s.vm.findClass RX3 = some m.cls := findClass_of_methodNamed B.named
  have hlocks := B.notSynchronized
  have hS : zS D dA vwCl wC nC b (zms wC [2367]) M M s.heap := ⟨hR0, hJ, zF_rf _ _⟩
  have hS0 : va_S (zA nC b) s.heap s.heap [] := va_S.rf
  have hl := lv_entry ([.ref (b + 82), .ref (b + 84), .int (iI n)]) (n := 4) (Nat.le_of_ble_eq_true rfl)
  have hent : entryFrame m args 4 = F0 m 0 ((lg_sl ([.ref (b + 82), .ref (b + 84), .int (iI n)]) ++ List.replicate (4 - (lg_sl ([.ref (b + 82), .ref (b + 84), .int (iI n)])).length) Slot.unset).toArray) [] := by rw [hargs]; exact lg_entry_eq m ([.ref (b + 82), .ref (b + 84), .int (iI n)]) 4
  rw [hent]
  generalize (lg_sl ([.ref (b + 82), .ref (b + 84), .int (iI n)]) ++ List.replicate (4 - (lg_sl ([.ref (b + 82), .ref (b + 84), .int (iI n)])).length) Slot.unset).toArray = ls at hl ⊢
  have hl : lv_has ls 4 [(0, .ref (b + 82)), (1, .ref (b + 84)), (2, .int (iI n))] := hl
  refine lv_aload_n hx hb dX3_makeGreatest_0 rfl (lv_at hl 1 rfl) ?_
  refine z_sipush hx hb (by decide) dX3_makeGreatest_1 ?_
  refine z_callv (va_runS (As := [.ref (b + 84), .int (iI 1022)]) (rest := []) ⟨hx, hb, hml, hown, hts⟩ (n_fill84 l D dA b M 1022 (by decide)) (va_cwS 2 hts (z_gS k769 k170 k10 k171) rfl rfl rfl dm_J7_fill_53178.2 ⟨Nat.le_of_ble_eq_true rfl, Nat.le_of_ble_eq_true rfl⟩) ⟨zP_blind, z_pre hS hK⟩ rfl rfl hl.1 rfl (lv_room (Nat.le_of_ble_eq_true rfl)) dX3_makeGreatest_4 ⟨Nat.le_refl _, Nat.le_refl _⟩) hS hS0 (zms_sub rfl) (fun M1 H locs h2 F3 hS hS0 => ?_)
  have J4 := hS.2.1
  refine z_iconst hx hb dX3_makeGreatest_7 ?_
  refine lv_istore_n (lv' := [(3, .int (iI 0)), (0, .ref (b + 82)), (1, .ref (b + 84)), (2, .int (iI n))]) hx hb dX3_makeGreatest_8 rfl hl (by decide) rfl (fun ls hl => ?_)
  refine lv_iload_n hx hb dX3_makeGreatest_9 rfl (lv_at hl 0 rfl) ?_
  refine lv_aload_n hx hb dX3_makeGreatest_10 rfl (lv_at hl 1 rfl) ?_
  refine z_geti hx hb hts (z_memU u3) hown hK.1 hS f3_1 (by decide) (zkd_of (rfl : zcd wC 82 = 34) rfl) (Or.inl (hts _ (z_mem k196))) dX3_makeGreatest_11 ?_
  refine z_top (show M1 82 1 = 0 from by rw [F3 _ _ (zms_not (rfl : zcd wC 82 = 34) rfl), g0]) ?_
  refine z_icmp_ge (tgt := 50) hx hb (by decide) (by decide) dX3_makeGreatest_14 (by decide) (fun c5 => ?_) (fun c5 => absurd c5 (by decide))
  exact z_vret hx hb hr hlocks hS hS0 (by first | exact trivial | exact ⟨rfl, trivial⟩ | omega | (refine ⟨by omega, trivial⟩)) dX3_makeGreatest_50

set_option maxHeartbeats 4000000 in
set_option maxRecDepth 100000 in
theorem n_makeGreatest85 (l : Launch) (D : va_G) (dA : Nat → ClassId) (b : Nat) (M : zM) (n : Int) (r_n : R32 n) (g0 : M 82 1 = 0) : Met l yX3_makeGreatest (.code yX3_makeGreatest cX3_makeGreatest 4 none :: zt) (z_rm 1) (va_Pc [.ref (b + 82), .ref (b + 85), .int (iI n)] (zP D dA vwCl (z_tys dA) wC nC b M)) (va_Qv (zQv wC (zms wC [2431]) M (fun M1 => True)) (zB D dA vwCl wC nC b) (zA nC b)) 0 0 (zA nC b) := by
  refine Met.ofW (cc := cX3_makeGreatest) (maxL := 4) (ret := none) (by decide) rfl ?_
  intro p e s m args below meth c s₁ B hml hv
  obtain ⟨hargs, hR0, hJ, hK⟩ := hv
  have hx := B.exec
  have hb := B.bytes
  have hr := B.returns
  have hts := atoms_spec (ws := .code yX3_makeGreatest cX3_makeGreatest 4 none :: zt) B.pre
  have hown : s.vm.findClass RX3 = some m.cls := findClass_of_methodNamed B.named
  have hlocks := B.notSynchronized
  have hS : zS D dA vwCl wC nC b (zms wC [2431]) M M s.heap := ⟨hR0, hJ, zF_rf _ _⟩
  have hS0 : va_S (zA nC b) s.heap s.heap [] := va_S.rf
  have hl := lv_entry ([.ref (b + 82), .ref (b + 85), .int (iI n)]) (n := 4) (Nat.le_of_ble_eq_true rfl)
  have hent : entryFrame m args 4 = F0 m 0 ((lg_sl ([.ref (b + 82), .ref (b + 85), .int (iI n)]) ++ List.replicate (4 - (lg_sl ([.ref (b + 82), .ref (b + 85), .int (iI n)])).length) Slot.unset).toArray) [] := by rw [hargs]; exact lg_entry_eq m ([.ref (b + 82), .ref (b + 85), .int (iI n)]) 4
  rw [hent]
  generalize (lg_sl ([.ref (b + 82), .ref (b + 85), .int (iI n)]) ++ List.replicate (4 - (lg_sl ([.ref (b + 82), .ref (b + 85), .int (iI n)])).length) Slot.unset).toArray = ls at hl ⊢
  have hl : lv_has ls 4 [(0, .ref (b + 82)), (1, .ref (b + 85)), (2, .int (iI n))] := hl
  refine lv_aload_n hx hb dX3_makeGreatest_0 rfl (lv_at hl 1 rfl) ?_
  refine z_sipush hx hb (by decide) dX3_makeGreatest_1 ?_
  refine z_callv (va_runS (As := [.ref (b + 85), .int (iI 1022)]) (rest := []) ⟨hx, hb, hml, hown, hts⟩ (n_fill85 l D dA b M 1022 (by decide)) (va_cwS 2 hts (z_gS k769 k170 k10 k171) rfl rfl rfl dm_J7_fill_53178.2 ⟨Nat.le_of_ble_eq_true rfl, Nat.le_of_ble_eq_true rfl⟩) ⟨zP_blind, z_pre hS hK⟩ rfl rfl hl.1 rfl (lv_room (Nat.le_of_ble_eq_true rfl)) dX3_makeGreatest_4 ⟨Nat.le_refl _, Nat.le_refl _⟩) hS hS0 (zms_sub rfl) (fun M1 H locs h2 F3 hS hS0 => ?_)
  have J4 := hS.2.1
  refine z_iconst hx hb dX3_makeGreatest_7 ?_
  refine lv_istore_n (lv' := [(3, .int (iI 0)), (0, .ref (b + 82)), (1, .ref (b + 85)), (2, .int (iI n))]) hx hb dX3_makeGreatest_8 rfl hl (by decide) rfl (fun ls hl => ?_)
  refine lv_iload_n hx hb dX3_makeGreatest_9 rfl (lv_at hl 0 rfl) ?_
  refine lv_aload_n hx hb dX3_makeGreatest_10 rfl (lv_at hl 1 rfl) ?_
  refine z_geti hx hb hts (z_memU u3) hown hK.1 hS f3_1 (by decide) (zkd_of (rfl : zcd wC 82 = 34) rfl) (Or.inl (hts _ (z_mem k196))) dX3_makeGreatest_11 ?_
  refine z_top (show M1 82 1 = 0 from by rw [F3 _ _ (zms_not (rfl : zcd wC 82 = 34) rfl), g0]) ?_
  refine z_icmp_ge (tgt := 50) hx hb (by decide) (by decide) dX3_makeGreatest_14 (by decide) (fun c5 => ?_) (fun c5 => absurd c5 (by decide))
  exact z_vret hx hb hr hlocks hS hS0 (by first | exact trivial | exact ⟨rfl, trivial⟩ | omega | (refine ⟨by omega, trivial⟩)) dX3_makeGreatest_50

set_option maxHeartbeats 4000000 in
set_option maxRecDepth 100000 in
theorem n_pairFits (l : Launch) (D : va_G) (dA : Nat → ClassId) (b : Nat) (M : zM) (pp : Int) (qq : Int) (r_pp : R32 pp) (r_qq : R32 qq) (g0 : M 82 1 = 0) : Met l yX3_pairFits (.code yX3_pairFits cX3_pairFits 4 (some .boolean) :: zt) (z_rm 2) (va_Pc [.ref (b + 82), .int (iI pp), .int (iI qq)] (zP D dA vwCl (z_tys dA) wC nC b M)) (va_Qi (zQi wC (zms wC [2367, 2431]) M (fun z M1 => z = 1 ∧ True)) (zB D dA vwCl wC nC b) (zA nC b)) 0 0 (zA nC b) := by
  refine Met.ofW (cc := cX3_pairFits) (maxL := 4) (ret := (some .boolean)) (by decide) rfl ?_
  intro p e s m args below meth c s₁ B hml hv
  obtain ⟨hargs, hR0, hJ, hK⟩ := hv
  have hx := B.exec
  have hb := B.bytes
  have hr := B.returns
  have hts := atoms_spec (ws := .code yX3_pairFits cX3_pairFits 4 (some .boolean) :: zt) B.pre
  have hown : s.vm.findClass RX3 = some m.cls := findClass_of_methodNamed B.named
  have hlocks := B.notSynchronized
  have hS : zS D dA vwCl wC nC b (zms wC [2367, 2431]) M M s.heap := ⟨hR0, hJ, zF_rf _ _⟩
  have hS0 : va_S (zA nC b) s.heap s.heap [] := va_S.rf
  have hl := lv_entry ([.ref (b + 82), .int (iI pp), .int (iI qq)]) (n := 4) (Nat.le_of_ble_eq_true rfl)
  have hent : entryFrame m args 4 = F0 m 0 ((lg_sl ([.ref (b + 82), .int (iI pp), .int (iI qq)]) ++ List.replicate (4 - (lg_sl ([.ref (b + 82), .int (iI pp), .int (iI qq)])).length) Slot.unset).toArray) [] := by rw [hargs]; exact lg_entry_eq m ([.ref (b + 82), .int (iI pp), .int (iI qq)]) 4
  rw [hent]
  generalize (lg_sl ([.ref (b + 82), .int (iI pp), .int (iI qq)]) ++ List.replicate (4 - (lg_sl ([.ref (b + 82), .int (iI pp), .int (iI qq)])).length) Slot.unset).toArray = ls at hl ⊢
  have hl : lv_has ls 4 [(0, .ref (b + 82)), (1, .int (iI pp)), (2, .int (iI qq))] := hl
  refine lv_aload_n hx hb dX3_pairFits_0 rfl (lv_at hl 0 rfl) ?_
  refine lv_aload_n hx hb dX3_pairFits_1 rfl (lv_at hl 0 rfl) ?_
  refine z_getr (j2 := 84) hx hb hts (z_memU u3) hown hK.1 hS f3_2 (by decide) (zkd_of (rfl : zcd wC 82 = 34) rfl) (zrf_of (rfl : zcd wC 82 = 34) rfl) (Or.inl (hts _ (z_mem k198))) dX3_pairFits_2 ?_
  refine lv_iload_n hx hb dX3_pairFits_5 rfl (lv_at hl 1 rfl) ?_
  refine z_callv (va_runV (As := [.ref (b + 84), .int (iI pp)]) (rest := []) ⟨hx, hb, hml, hown, hts⟩ (n_makeGreatest84 l D dA b M pp r_pp (by rw [g0])) (cwV 2 hts (z_gV k782 k783 k1387 k11 k784) rfl rfl rfl dm_X3_makeGreatest ⟨Nat.le_of_ble_eq_true rfl, Nat.le_of_ble_eq_true rfl⟩) ⟨zP_blind, (z_recv hS hK.1 (by decide) (zkd_of (rfl : zcd wC 82 = 34) rfl) (by decide) (rfl : vwCl[3]? = some (RX3, TX3, 4))), z_pre hS hK⟩ rfl rfl hl.1 rfl (lv_room (Nat.le_of_ble_eq_true rfl)) dX3_pairFits_6 ⟨Nat.le_refl _, Nat.le_refl _⟩) hS hS0 (zms_sub rfl) (fun M1 H locs h2 F3 hS hS0 => ?_)
  have J4 := hS.2.1
  refine lv_aload_n hx hb dX3_pairFits_9 rfl (lv_at hl 0 rfl) ?_
  refine lv_aload_n hx hb dX3_pairFits_10 rfl (lv_at hl 0 rfl) ?_
  refine z_getr (j2 := 85) hx hb hts (z_memU u3) hown hK.1 hS f3_3 (by decide) (zkd_of (rfl : zcd wC 82 = 34) rfl) (zrf_of (rfl : zcd wC 82 = 34) rfl) (Or.inl (hts _ (z_mem k199))) dX3_pairFits_11 ?_
  refine lv_iload_n hx hb dX3_pairFits_14 rfl (lv_at hl 2 rfl) ?_
  refine z_callv (va_runV (As := [.ref (b + 85), .int (iI qq)]) (rest := []) ⟨hx, hb, hml, hown, hts⟩ (n_makeGreatest85 l D dA b M1 qq r_qq (by rw [F3 _ _ (zms_not (rfl : zcd wC 82 = 34) rfl), g0])) (cwV 2 hts (z_gV k782 k783 k1387 k11 k784) rfl rfl rfl dm_X3_makeGreatest ⟨Nat.le_of_ble_eq_true rfl, Nat.le_of_ble_eq_true rfl⟩) ⟨zP_blind, (z_recv hS hK.1 (by decide) (zkd_of (rfl : zcd wC 82 = 34) rfl) (by decide) (rfl : vwCl[3]? = some (RX3, TX3, 4))), z_pre hS hK⟩ rfl rfl hl.1 rfl (lv_room (Nat.le_of_ble_eq_true rfl)) dX3_pairFits_15 ⟨Nat.le_refl _, Nat.le_refl _⟩) hS hS0 (zms_sub rfl) (fun M5 H locs h6 F7 hS hS0 => ?_)
  have J8 := hS.2.1
  refine z_iconst hx hb dX3_pairFits_18 ?_
  refine lv_istore_n (lv' := [(3, .int (iI 0)), (0, .ref (b + 82)), (1, .int (iI pp)), (2, .int (iI qq))]) hx hb dX3_pairFits_19 rfl hl (by decide) rfl (fun ls hl => ?_)
  refine lv_iload_n hx hb dX3_pairFits_20 rfl (lv_at hl 0 rfl) ?_
  refine lv_aload_n hx hb dX3_pairFits_21 rfl (lv_at hl 1 rfl) ?_
  refine z_geti hx hb hts (z_memU u3) hown hK.1 hS f3_1 (by decide) (zkd_of (rfl : zcd wC 82 = 34) rfl) (Or.inl (hts _ (z_mem k196))) dX3_pairFits_22 ?_
  refine z_top (show M5 82 1 = 0 from by rw [F7 _ _ (zms_not (rfl : zcd wC 82 = 34) rfl), F3 _ _ (zms_not (rfl : zcd wC 82 = 34) rfl), g0]) ?_
  refine z_icmp_ge (tgt := 78) hx hb (by decide) (by decide) dX3_pairFits_25 (by decide) (fun c9 => ?_) (fun c9 => absurd c9 (by decide))
  refine z_iconst hx hb dX3_pairFits_78 ?_
  exact z_zret hx hb hr hlocks hS hS0 (by first | decide | omega) (by first | exact trivial | exact ⟨rfl, trivial⟩ | omega | (refine ⟨by omega, trivial⟩)) dX3_pairFits_79

set_option maxHeartbeats 4000000 in
set_option maxRecDepth 100000 in
theorem n_mendedAt (l : Launch) (D : va_G) (dA : Nat → ClassId) (b : Nat) (M : zM) (i : Int) (r_i : R32 i) (g0 : M 82 1 = 0) : Met l yX3_mendedAt (.code yX3_mendedAt cX3_mendedAt 3 (some .int) :: zt) (z_rm 0) (va_Pc [.ref (b + 82), .int (iI i)] (zP D dA vwCl (z_tys dA) wC nC b M)) (va_Qi (zQi wC (zms wC []) M (fun z M1 => M1 = M ∧ (z = -1 ∧ True))) (zB D dA vwCl wC nC b) (zA nC b)) 0 0 (zA nC b) := by
  refine Met.ofW (cc := cX3_mendedAt) (maxL := 3) (ret := (some .int)) (by decide) rfl ?_
  intro p e s m args below meth c s₁ B hml hv
  obtain ⟨hargs, hR0, hJ, hK⟩ := hv
  have hx := B.exec
  have hb := B.bytes
  have hr := B.returns
  have hts := atoms_spec (ws := .code yX3_mendedAt cX3_mendedAt 3 (some .int) :: zt) B.pre
  have hown : s.vm.findClass RX3 = some m.cls := findClass_of_methodNamed B.named
  have hlocks := B.notSynchronized
  have hS : zS D dA vwCl wC nC b (zms wC []) M M s.heap := ⟨hR0, hJ, zF_rf _ _⟩
  have hS0 : va_S (zA nC b) s.heap s.heap [] := va_S.rf
  have hl := lv_entry ([.ref (b + 82), .int (iI i)]) (n := 3) (Nat.le_of_ble_eq_true rfl)
  have hent : entryFrame m args 3 = F0 m 0 ((lg_sl ([.ref (b + 82), .int (iI i)]) ++ List.replicate (3 - (lg_sl ([.ref (b + 82), .int (iI i)])).length) Slot.unset).toArray) [] := by rw [hargs]; exact lg_entry_eq m ([.ref (b + 82), .int (iI i)]) 3
  rw [hent]
  generalize (lg_sl ([.ref (b + 82), .int (iI i)]) ++ List.replicate (3 - (lg_sl ([.ref (b + 82), .int (iI i)])).length) Slot.unset).toArray = ls at hl ⊢
  have hl : lv_has ls 3 [(0, .ref (b + 82)), (1, .int (iI i))] := hl
  refine lv_iload_n hx hb dX3_mendedAt_0 rfl (lv_at hl 1 rfl) ?_
  refine z_if_lt (tgt := 12) hx hb r_i dX3_mendedAt_1 (by decide) (fun c1 => ?_) (fun c1 => ?_)
  · skip
    refine z_iconst hx hb dX3_mendedAt_12 ?_
    exact z_iret hx hb hr hlocks hS hS0 (by decide) (⟨rfl, by first | exact trivial | exact ⟨rfl, trivial⟩ | omega | (refine ⟨by omega, trivial⟩)⟩) dX3_mendedAt_13
  · skip
    refine lv_iload_n hx hb dX3_mendedAt_4 rfl (lv_at hl 1 rfl) ?_
    refine lv_aload_n hx hb dX3_mendedAt_5 rfl (lv_at hl 0 rfl) ?_
    refine z_geti hx hb hts (z_memU u3) hown hK.1 hS f3_1 (by decide) (zkd_of (rfl : zcd wC 82 = 34) rfl) (Or.inl (hts _ (z_mem k196))) dX3_mendedAt_6 ?_
    refine z_top (show M 82 1 = 0 from by rw [g0]) ?_
    refine z_icmp_lt (tgt := 14) hx hb r_i (by decide) dX3_mendedAt_9 (by decide) (fun c2 => absurd c2 (by omega)) (fun c2 => ?_)
    refine z_iconst hx hb dX3_mendedAt_12 ?_
    exact z_iret hx hb hr hlocks hS hS0 (by decide) (⟨rfl, by first | exact trivial | exact ⟨rfl, trivial⟩ | omega | (refine ⟨by omega, trivial⟩)⟩) dX3_mendedAt_13

set_option maxHeartbeats 4000000 in
set_option maxRecDepth 100000 in
theorem n_keepBetter (l : Launch) (D : va_G) (dA : Nat → ClassId) (b : Nat) (M : zM) (n : Int) (r_n : R32 n) (g0 : M 86 2 = 41) (p0 : n = 0) : Met l yX4_keepBetter (.code yX4_keepBetter cX4_keepBetter 2 none :: zt) (z_rm 1) (va_Pc [.ref (b + 86), .int (iI n)] (zP D dA vwCl (z_tys dA) wC nC b M)) (va_Qv (zQv wC (zms wC [2434, 2559]) M (fun M1 => (True) ∧ M1 86 2 = 0)) (zB D dA vwCl wC nC b) (zA nC b)) 0 0 (zA nC b) := by
  refine Met.ofW (cc := cX4_keepBetter) (maxL := 2) (ret := none) (by decide) rfl ?_
  intro p e s m args below meth c s₁ B hml hv
  obtain ⟨hargs, hR0, hJ, hK⟩ := hv
  have hx := B.exec
  have hb := B.bytes
  have hr := B.returns
  have hts := atoms_spec (ws := .code yX4_keepBetter cX4_keepBetter 2 none :: zt) B.pre
  have hown : s.vm.findClass RX4 = some m.cls := findClass_of_methodNamed B.named
  have hlocks := B.notSynchronized
  have hS : zS D dA vwCl wC nC b (zms wC [2434, 2559]) M M s.heap := ⟨hR0, hJ, zF_rf _ _⟩
  have hS0 : va_S (zA nC b) s.heap s.heap [] := va_S.rf
  have hl := lv_entry ([.ref (b + 86), .int (iI n)]) (n := 2) (Nat.le_of_ble_eq_true rfl)
  have hent : entryFrame m args 2 = F0 m 0 ((lg_sl ([.ref (b + 86), .int (iI n)]) ++ List.replicate (2 - (lg_sl ([.ref (b + 86), .int (iI n)])).length) Slot.unset).toArray) [] := by rw [hargs]; exact lg_entry_eq m ([.ref (b + 86), .int (iI n)]) 2
  rw [hent]
  generalize (lg_sl ([.ref (b + 86), .int (iI n)]) ++ List.replicate (2 - (lg_sl ([.ref (b + 86), .int (iI n)])).length) Slot.unset).toArray = ls at hl ⊢
  have hl : lv_has ls 2 [(0, .ref (b + 86)), (1, .int (iI n))] := hl
  refine lv_iload_n hx hb dX4_keepBetter_0 rfl (lv_at hl 1 rfl) ?_
  refine lv_aload_n hx hb dX4_keepBetter_1 rfl (lv_at hl 0 rfl) ?_
  refine z_geti hx hb hts (z_memU u4) hown hK.1 hS f4_2 (by decide) (zkd_of (rfl : zcd wC 86 = 38) rfl) (Or.inl (hts _ (z_mem k214))) dX4_keepBetter_2 ?_
  refine z_top (show M 86 2 = 41 from by rw [g0]) ?_
  refine z_icmp_lt (tgt := 24) hx hb r_n (by decide) dX4_keepBetter_5 (by decide) (fun c1 => ?_) (fun c1 => absurd c1 (by omega))
  refine lv_aload_n hx hb dX4_keepBetter_24 rfl (lv_at hl 0 rfl) ?_
  refine lv_iload_n hx hb dX4_keepBetter_25 rfl (lv_at hl 1 rfl) ?_
  refine z_puti hx hb hts (z_memU u4) tyX4 tyX4_ok nmX4 hown hK.1 hS hS0 f4_2 (by decide) (zkd_of (rfl : zcd wC 86 = 38) rfl) (Or.inl (hts _ (z_mem k214))) rfl (z := n) (by decide +kernel) (zbd_in (rfl : zcd wC 86 = 38) rfl r_n) (zms_of (rfl : zcd wC 86 = 38) rfl) dX4_keepBetter_26 (fun H locs hS hS0 => ?_)
  obtain ⟨M2, e3⟩ : ∃ M2 : zM, M2 = zup M 86 2 n := ⟨_, rfl⟩
  rw [← e3] at hS
  have J4 := hS.2.1
  refine lv_aload_n hx hb dX4_keepBetter_29 rfl (lv_at hl 0 rfl) ?_
  refine z_getr (j2 := 95) hx hb hts (z_memU u4) hown hK.1 hS f4_5 (by decide) (zkd_of (rfl : zcd wC 86 = 38) rfl) (zrf_of (rfl : zcd wC 86 = 38) rfl) (Or.inl (hts _ (z_mem k217))) dX4_keepBetter_30 ?_
  refine z_iconst hx hb dX4_keepBetter_33 ?_
  refine lv_aload_n hx hb dX4_keepBetter_34 rfl (lv_at hl 0 rfl) ?_
  refine z_getr (j2 := 87) hx hb hts (z_memU u4) hown hK.1 hS f4_1 (by decide) (zkd_of (rfl : zcd wC 86 = 38) rfl) (zrf_of (rfl : zcd wC 86 = 38) rfl) (Or.inl (hts _ (z_mem k212))) dX4_keepBetter_35 ?_
  refine z_iconst hx hb dX4_keepBetter_38 ?_
  refine lv_iload_n hx hb dX4_keepBetter_39 rfl (lv_at hl 1 rfl) ?_
  refine z_acopy (n0 := 40) (n1 := 40) hx hb (hml.trans hl.1.symm) hown (hts _ (z_mem k826)) (hts _ (z_mem k366)) (hts _ (z_mem k365)) (hts _ (z_mem k16)) hK.1 (t0 := 0) rfl hS hS0 (by decide) (by decide) (by decide) (zkd_of (rfl : zcd wC 95 = 43) rfl) (zkd_of (rfl : zcd wC 87 = 39) rfl) (zln_of (rfl : zcd wC 95 = 43) rfl) (zln_of (rfl : zcd wC 87 = 39) rfl) (by decide) (by decide) (by decide) (by decide) (by omega) (by omega) (by omega) (fun k hk => zbd_in (lo := 0) (hi := 9) (rfl : zcd wC 87 = 39) rfl (zwk (zJ_at (lo := 0) (hi := 9) J4 (rfl : zcd wC 95 = 43) rfl) (by decide) (by decide))) (fun k => zms_of (rfl : zcd wC 87 = 39) rfl) (by exact Nat.le_of_ble_eq_true rfl) (by exact Nat.le_of_ble_eq_true rfl) dX4_keepBetter_40 (fun H locs hS hS0 => ?_)
  obtain ⟨M5, e6⟩ : ∃ M5 : zM, M5 = zcp M2 95 87 (0 : Int).toNat (0 : Int).toNat (n : Int).toNat := ⟨_, rfl⟩
  rw [← e6] at hS
  have J7 := hS.2.1
  have F8 : zF (zms wC [2559]) M2 M5 := by rw [e6]; exact zcp_F (rfl : zcd wC 87 = 39) (fun _ => rfl)
  exact z_vret hx hb hr hlocks hS hS0 (⟨by first | exact trivial | exact ⟨rfl, trivial⟩ | omega | (refine ⟨by omega, trivial⟩), by rw [F8 _ _ (zms_not (rfl : zcd wC 86 = 38) rfl), e3, zup_s] <;> omega⟩) dX4_keepBetter_43

set_option maxHeartbeats 4000000 in
set_option maxRecDepth 100000 in
theorem n_layRest (l : Launch) (D : va_G) (dA : Nat → ClassId) (b : Nat) (M : zM) (d : Int) (u : Int) (n : Int) (r_d : R32 d) (r_u : R32 u) (r_n : R32 n) (g0 : M 86 0 = 0) (g1 : M 86 2 = 41) (p0 : d = 0) (p1 : n = 0) : Met l yX4_layRest (.code yX4_layRest cX4_layRest 6 none :: zt) (z_rm 2) (va_Pc [.ref (b + 86), .int (iI d), .int (iI u), .int (iI n)] (zP D dA vwCl (z_tys dA) wC nC b M)) (va_Qv (zQv wC (zms wC [2434, 2559]) M (fun M1 => (True) ∧ M1 86 2 = 0)) (zB D dA vwCl wC nC b) (zA nC b)) 0 0 (zA nC b) := by
  refine Met.ofW (cc := cX4_layRest) (maxL := 6) (ret := none) (by decide) rfl ?_
  intro p e s m args below meth c s₁ B hml hv
  obtain ⟨hargs, hR0, hJ, hK⟩ := hv
  have hx := B.exec
  have hb := B.bytes
  have hr := B.returns
  have hts := atoms_spec (ws := .code yX4_layRest cX4_layRest 6 none :: zt) B.pre
  have hown : s.vm.findClass RX4 = some m.cls := findClass_of_methodNamed B.named
  have hlocks := B.notSynchronized
  have hS : zS D dA vwCl wC nC b (zms wC [2434, 2559]) M M s.heap := ⟨hR0, hJ, zF_rf _ _⟩
  have hS0 : va_S (zA nC b) s.heap s.heap [] := va_S.rf
  have hl := lv_entry ([.ref (b + 86), .int (iI d), .int (iI u), .int (iI n)]) (n := 6) (Nat.le_of_ble_eq_true rfl)
  have hent : entryFrame m args 6 = F0 m 0 ((lg_sl ([.ref (b + 86), .int (iI d), .int (iI u), .int (iI n)]) ++ List.replicate (6 - (lg_sl ([.ref (b + 86), .int (iI d), .int (iI u), .int (iI n)])).length) Slot.unset).toArray) [] := by rw [hargs]; exact lg_entry_eq m ([.ref (b + 86), .int (iI d), .int (iI u), .int (iI n)]) 6
  rw [hent]
  generalize (lg_sl ([.ref (b + 86), .int (iI d), .int (iI u), .int (iI n)]) ++ List.replicate (6 - (lg_sl ([.ref (b + 86), .int (iI d), .int (iI u), .int (iI n)])).length) Slot.unset).toArray = ls at hl ⊢
  have hl : lv_has ls 6 [(0, .ref (b + 86)), (1, .int (iI d)), (2, .int (iI u)), (3, .int (iI n))] := hl
  refine lv_iload_n hx hb dX4_layRest_0 rfl (lv_at hl 3 rfl) ?_
  refine lv_aload_n hx hb dX4_layRest_1 rfl (lv_at hl 0 rfl) ?_
  refine z_geti hx hb hts (z_memU u4) hown hK.1 hS f4_2 (by decide) (zkd_of (rfl : zcd wC 86 = 38) rfl) (Or.inl (hts _ (z_mem k214))) dX4_layRest_2 ?_
  refine z_top (show M 86 2 = 41 from by rw [g1]) ?_
  refine z_icmp_le (tgt := 9) hx hb r_n (by decide) dX4_layRest_5 (by decide) (fun c1 => ?_) (fun c1 => absurd c1 (by omega))
  refine lv_iload_n hx hb dX4_layRest_9 rfl (lv_at hl 1 rfl) ?_
  refine lv_aload_n hx hb dX4_layRest_10 rfl (lv_at hl 0 rfl) ?_
  refine z_geti hx hb hts (z_memU u4) hown hK.1 hS f4_0 (by decide) (zkd_of (rfl : zcd wC 86 = 38) rfl) (Or.inl (hts _ (z_mem k210))) dX4_layRest_11 ?_
  refine z_top (show M 86 0 = 0 from by rw [g0]) ?_
  refine z_icmp_ge (tgt := 22) hx hb r_d (by decide) dX4_layRest_14 (by decide) (fun c2 => ?_) (fun c2 => absurd c2 (by omega))
  refine lv_aload_n hx hb dX4_layRest_22 rfl (lv_at hl 0 rfl) ?_
  refine lv_iload_n hx hb dX4_layRest_23 rfl (lv_at hl 3 rfl) ?_
  refine z_callv (va_runV (As := [.int (iI n)]) (rest := []) ⟨hx, hb, hml, hown, hts⟩ (n_keepBetter l D dA b M n r_n (by rw [g1]) (by omega)) (cwV 1 hts (z_gV k820 k821 k1388 k12 k822) rfl rfl rfl dm_X4_keepBetter ⟨Nat.le_of_ble_eq_true rfl, Nat.le_of_ble_eq_true rfl⟩) ⟨zP_blind, (z_recv hS hK.1 (by decide) (zkd_of (rfl : zcd wC 86 = 38) rfl) (by decide) (rfl : vwCl[4]? = some (RX4, TX4, 6))), z_pre hS hK⟩ rfl rfl hl.1 rfl (lv_room (Nat.le_of_ble_eq_true rfl)) dX4_layRest_24 ⟨Nat.le_refl _, Nat.le_refl _⟩) hS hS0 (zms_sub rfl) (fun M3 H locs h4 F5 hS hS0 => ?_)
  have J6 := hS.2.1
  obtain ⟨h4, m7⟩ := h4
  exact z_vret hx hb hr hlocks hS hS0 (⟨by first | exact trivial | exact ⟨rfl, trivial⟩ | omega | (refine ⟨by omega, trivial⟩), by rw [m7]⟩) dX4_layRest_27

set_option maxHeartbeats 4000000 in
set_option maxRecDepth 100000 in
theorem n_joinAll (l : Launch) (D : va_G) (dA : Nat → ClassId) (b : Nat) (M : zM) (g0 : M 86 0 = 0) : Met l yX4_joinAll (.code yX4_joinAll cX4_joinAll 1 (some .int) :: zt) (z_rm 3) (va_Pc [.ref (b + 86)] (zP D dA vwCl (z_tys dA) wC nC b M)) (va_Qi (zQi wC (zms wC [2434, 2559]) M (fun z M1 => z = 0 ∧ True)) (zB D dA vwCl wC nC b) (zA nC b)) 0 0 (zA nC b) := by
  refine Met.ofW (cc := cX4_joinAll) (maxL := 1) (ret := (some .int)) (by decide) rfl ?_
  intro p e s m args below meth c s₁ B hml hv
  obtain ⟨hargs, hR0, hJ, hK⟩ := hv
  have hx := B.exec
  have hb := B.bytes
  have hr := B.returns
  have hts := atoms_spec (ws := .code yX4_joinAll cX4_joinAll 1 (some .int) :: zt) B.pre
  have hown : s.vm.findClass RX4 = some m.cls := findClass_of_methodNamed B.named
  have hlocks := B.notSynchronized
  have hS : zS D dA vwCl wC nC b (zms wC [2434, 2559]) M M s.heap := ⟨hR0, hJ, zF_rf _ _⟩
  have hS0 : va_S (zA nC b) s.heap s.heap [] := va_S.rf
  have hl := lv_entry ([.ref (b + 86)]) (n := 1) (Nat.le_of_ble_eq_true rfl)
  have hent : entryFrame m args 1 = F0 m 0 ((lg_sl ([.ref (b + 86)]) ++ List.replicate (1 - (lg_sl ([.ref (b + 86)])).length) Slot.unset).toArray) [] := by rw [hargs]; exact lg_entry_eq m ([.ref (b + 86)]) 1
  rw [hent]
  generalize (lg_sl ([.ref (b + 86)]) ++ List.replicate (1 - (lg_sl ([.ref (b + 86)])).length) Slot.unset).toArray = ls at hl ⊢
  have hl : lv_has ls 1 [(0, .ref (b + 86))] := hl
  refine lv_aload_n hx hb dX4_joinAll_0 rfl (lv_at hl 0 rfl) ?_
  refine z_bipush hx hb (by decide) dX4_joinAll_1 ?_
  refine z_puti hx hb hts (z_memU u4) tyX4 tyX4_ok nmX4 hown hK.1 hS hS0 f4_2 (by decide) (zkd_of (rfl : zcd wC 86 = 38) rfl) (Or.inl (hts _ (z_mem k214))) rfl (z := 41) (by decide +kernel) (zbd_in (rfl : zcd wC 86 = 38) rfl (by decide)) (zms_of (rfl : zcd wC 86 = 38) rfl) dX4_joinAll_3 (fun H locs hS hS0 => ?_)
  obtain ⟨M1, e2⟩ : ∃ M1 : zM, M1 = zup M 86 2 41 := ⟨_, rfl⟩
  rw [← e2] at hS
  have J3 := hS.2.1
  refine lv_aload_n hx hb dX4_joinAll_6 rfl (lv_at hl 0 rfl) ?_
  refine z_iconst hx hb dX4_joinAll_7 ?_
  refine z_iconst hx hb dX4_joinAll_8 ?_
  refine z_iconst hx hb dX4_joinAll_9 ?_
  refine z_callv (va_runS (As := [.ref (b + 86), .int (iI 0), .int (iI 0), .int (iI 0)]) (rest := []) ⟨hx, hb, hml, hown, hts⟩ (n_layRest l D dA b M1 0 0 0 (by decide) (by decide) (by decide) (by rw [e2, zup_n _ _ (by omega), g0]) (by rw [e2, zup_s]) (by omega) (by omega)) (va_cwS 4 hts (z_gS k817 k818 k12 k819) rfl rfl rfl dm_X4_layRest.2 ⟨Nat.le_of_ble_eq_true rfl, Nat.le_of_ble_eq_true rfl⟩) ⟨zP_blind, z_pre hS hK⟩ rfl rfl hl.1 rfl (lv_room (Nat.le_of_ble_eq_true rfl)) dX4_joinAll_10 ⟨Nat.le_refl _, Nat.le_refl _⟩) hS hS0 (zms_sub rfl) (fun M4 H locs h5 F6 hS hS0 => ?_)
  have J7 := hS.2.1
  obtain ⟨h5, m8⟩ := h5
  refine lv_aload_n hx hb dX4_joinAll_13 rfl (lv_at hl 0 rfl) ?_
  refine z_geti hx hb hts (z_memU u4) hown hK.1 hS f4_2 (by decide) (zkd_of (rfl : zcd wC 86 = 38) rfl) (Or.inl (hts _ (z_mem k214))) dX4_joinAll_14 ?_
  refine z_top (show M4 86 2 = 0 from by rw [m8]) ?_
  exact z_iret hx hb hr hlocks hS hS0 (by decide) (by first | exact trivial | exact ⟨rfl, trivial⟩ | omega | (refine ⟨by omega, trivial⟩)) dX4_joinAll_17

set_option maxHeartbeats 4000000 in
set_option maxRecDepth 100000 in
theorem n_vfind (l : Launch) (D : va_G) (dA : Nat → ClassId) (b : Nat) (M : zM) (i : Int) (r_i : R32 i) (g0 : M 96 0 = 0) : Met l yX10_find (.code yX10_find cX10_find 2 (some (.object "TapeRings$Strip")) :: zt) (z_rm 0) (va_Pc [.ref (b + 96), .int (iI i)] (zP D dA vwCl (z_tys dA) wC nC b M)) (va_Qq (zQq wC (zms wC []) M (fun z M1 => M1 = M ∧ (z = none ∧ True))) (zB D dA vwCl wC nC b) (zA nC b)) 0 0 (zA nC b) := by
  refine Met.ofW (cc := cX10_find) (maxL := 2) (ret := (some (.object "TapeRings$Strip"))) (by decide) rfl ?_
  intro p e s m args below meth c s₁ B hml hv
  obtain ⟨hargs, hR0, hJ, hK⟩ := hv
  have hx := B.exec
  have hb := B.bytes
  have hr := B.returns
  have hts := atoms_spec (ws := .code yX10_find cX10_find 2 (some (.object "TapeRings$Strip")) :: zt) B.pre
  have hown : s.vm.findClass RX10 = some m.cls := findClass_of_methodNamed B.named
  have hlocks := B.notSynchronized
  have hS : zS D dA vwCl wC nC b (zms wC []) M M s.heap := ⟨hR0, hJ, zF_rf _ _⟩
  have hS0 : va_S (zA nC b) s.heap s.heap [] := va_S.rf
  have hl := lv_entry ([.ref (b + 96), .int (iI i)]) (n := 2) (Nat.le_of_ble_eq_true rfl)
  have hent : entryFrame m args 2 = F0 m 0 ((lg_sl ([.ref (b + 96), .int (iI i)]) ++ List.replicate (2 - (lg_sl ([.ref (b + 96), .int (iI i)])).length) Slot.unset).toArray) [] := by rw [hargs]; exact lg_entry_eq m ([.ref (b + 96), .int (iI i)]) 2
  rw [hent]
  generalize (lg_sl ([.ref (b + 96), .int (iI i)]) ++ List.replicate (2 - (lg_sl ([.ref (b + 96), .int (iI i)])).length) Slot.unset).toArray = ls at hl ⊢
  have hl : lv_has ls 2 [(0, .ref (b + 96)), (1, .int (iI i))] := hl
  refine lv_iload_n hx hb dX10_find_0 rfl (lv_at hl 1 rfl) ?_
  refine z_if_lt (tgt := 27) hx hb r_i dX10_find_1 (by decide) (fun c1 => ?_) (fun c1 => ?_)
  · skip
    refine lv_null hx hb dX10_find_27 ?_
    exact z_aret (r := none) hx hb hr (Or.inl ⟨_, rfl⟩) hlocks hS hS0 rfl (⟨rfl, by first | exact trivial | exact ⟨rfl, trivial⟩ | omega | (refine ⟨by omega, trivial⟩)⟩) dX10_find_28
  · skip
    refine lv_iload_n hx hb dX10_find_4 rfl (lv_at hl 1 rfl) ?_
    refine lv_aload_n hx hb dX10_find_5 rfl (lv_at hl 0 rfl) ?_
    refine z_geti hx hb hts (z_memU u10) hown hK.1 hS f10_0 (by decide) (zkd_of (rfl : zcd wC 96 = 44) rfl) (Or.inl (hts _ (z_mem k231))) dX10_find_6 ?_
    refine z_top (show M 96 0 = 0 from by rw [g0]) ?_
    refine z_icmp_ge (tgt := 27) hx hb r_i (by decide) dX10_find_9 (by decide) (fun c2 => ?_) (fun c2 => absurd c2 (by omega))
    refine lv_null hx hb dX10_find_27 ?_
    exact z_aret (r := none) hx hb hr (Or.inl ⟨_, rfl⟩) hlocks hS hS0 rfl (⟨rfl, by first | exact trivial | exact ⟨rfl, trivial⟩ | omega | (refine ⟨by omega, trivial⟩)⟩) dX10_find_28

set_option maxHeartbeats 4000000 in
set_option maxRecDepth 100000 in
theorem n_latest (l : Launch) (D : va_G) (dA : Nat → ClassId) (b : Nat) (M : zM) (r : Int) (d : Int) (r_r : R32 r) (r_d : R32 d) (g0 : M 96 0 = 0) : Met l yX10_latest (.code yX10_latest cX10_latest 4 (some .int) :: zt) (z_rm 0) (va_Pc [.ref (b + 96), .int (iI r), .int (iI d)] (zP D dA vwCl (z_tys dA) wC nC b M)) (va_Qi (zQi wC (zms wC []) M (fun z M1 => M1 = M ∧ (z = -1 ∧ True))) (zB D dA vwCl wC nC b) (zA nC b)) 0 0 (zA nC b) := by
  refine Met.ofW (cc := cX10_latest) (maxL := 4) (ret := (some .int)) (by decide) rfl ?_
  intro p e s m args below meth c s₁ B hml hv
  obtain ⟨hargs, hR0, hJ, hK⟩ := hv
  have hx := B.exec
  have hb := B.bytes
  have hr := B.returns
  have hts := atoms_spec (ws := .code yX10_latest cX10_latest 4 (some .int) :: zt) B.pre
  have hown : s.vm.findClass RX10 = some m.cls := findClass_of_methodNamed B.named
  have hlocks := B.notSynchronized
  have hS : zS D dA vwCl wC nC b (zms wC []) M M s.heap := ⟨hR0, hJ, zF_rf _ _⟩
  have hS0 : va_S (zA nC b) s.heap s.heap [] := va_S.rf
  have hl := lv_entry ([.ref (b + 96), .int (iI r), .int (iI d)]) (n := 4) (Nat.le_of_ble_eq_true rfl)
  have hent : entryFrame m args 4 = F0 m 0 ((lg_sl ([.ref (b + 96), .int (iI r), .int (iI d)]) ++ List.replicate (4 - (lg_sl ([.ref (b + 96), .int (iI r), .int (iI d)])).length) Slot.unset).toArray) [] := by rw [hargs]; exact lg_entry_eq m ([.ref (b + 96), .int (iI r), .int (iI d)]) 4
  rw [hent]
  generalize (lg_sl ([.ref (b + 96), .int (iI r), .int (iI d)]) ++ List.replicate (4 - (lg_sl ([.ref (b + 96), .int (iI r), .int (iI d)])).length) Slot.unset).toArray = ls at hl ⊢
  have hl : lv_has ls 4 [(0, .ref (b + 96)), (1, .int (iI r)), (2, .int (iI d))] := hl
  refine lv_aload_n hx hb dX10_latest_0 rfl (lv_at hl 0 rfl) ?_
  refine z_geti hx hb hts (z_memU u10) hown hK.1 hS f10_0 (by decide) (zkd_of (rfl : zcd wC 96 = 44) rfl) (Or.inl (hts _ (z_mem k231))) dX10_latest_1 ?_
  refine z_top (show M 96 0 = 0 from by rw [g0]) ?_
  refine z_iconst hx hb dX10_latest_4 ?_
  refine z_isub hx hb dX10_latest_5 ?_
  refine z_top (show ((0 - 1) : Int) = (-1) from (by decide)) ?_
  refine lv_istore_n (lv' := [(3, .int (iI (-1))), (0, .ref (b + 96)), (1, .int (iI r)), (2, .int (iI d))]) hx hb dX10_latest_6 rfl hl (by decide) rfl (fun ls hl => ?_)
  refine lv_iload_n hx hb dX10_latest_7 rfl (lv_at hl 0 rfl) ?_
  refine z_if_lt (tgt := 39) hx hb (by decide) dX10_latest_8 (by decide) (fun c1 => ?_) (fun c1 => absurd c1 (by decide))
  refine z_iconst hx hb dX10_latest_39 ?_
  exact z_iret hx hb hr hlocks hS hS0 (by decide) (⟨rfl, by first | exact trivial | exact ⟨rfl, trivial⟩ | omega | (refine ⟨by omega, trivial⟩)⟩) dX10_latest_40
