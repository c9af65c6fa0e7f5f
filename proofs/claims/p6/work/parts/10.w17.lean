/-! the W layer, 17 -/
theorem dX12_allRounds_0 : decode cX12_allRounds 0 = .ok (.lconst 1, 1) := by decide +kernel
theorem dX12_allRounds_1 : decode cX12_allRounds 1 = .ok (.lstore_n 1, 1) := by decide +kernel
theorem dX12_allRounds_12 : decode cX12_allRounds 12 = .ok (.aload_n 0, 1) := by decide +kernel
theorem dX12_allRounds_13 : decode cX12_allRounds 13 = .ok (.iload_n 3, 1) := by decide +kernel
theorem dX12_allRounds_14 : decode cX12_allRounds 14 = .ok (.invokevirtual 203, 3) := by decide +kernel
theorem dX12_allRounds_17 : decode cX12_allRounds 17 = .ok (.istore 4, 2) := by decide +kernel
theorem dX12_allRounds_19 : decode cX12_allRounds 19 = .ok (.lload_n 1, 1) := by decide +kernel
theorem dX12_allRounds_2 : decode cX12_allRounds 2 = .ok (.iconst 0, 1) := by decide +kernel
theorem dX12_allRounds_20 : decode cX12_allRounds 20 = .ok (.iload 4, 2) := by decide +kernel
theorem dX12_allRounds_22 : decode cX12_allRounds 22 = .ok (.lload_n 1, 1) := by decide +kernel
theorem dX12_allRounds_23 : decode cX12_allRounds 23 = .ok (.iload 4, 2) := by decide +kernel
theorem dX12_allRounds_25 : decode cX12_allRounds 25 = .ok (.i2l, 1) := by decide +kernel
theorem dX12_allRounds_26 : decode cX12_allRounds 26 = .ok (.lrem, 1) := by decide +kernel
theorem dX12_allRounds_27 : decode cX12_allRounds 27 = .ok (.l2i, 1) := by decide +kernel
theorem dX12_allRounds_28 : decode cX12_allRounds 28 = .ok (.invokestatic 191, 3) := by decide +kernel
theorem dX12_allRounds_3 : decode cX12_allRounds 3 = .ok (.istore_n 3, 1) := by decide +kernel
theorem dX12_allRounds_31 : decode cX12_allRounds 31 = .ok (.i2l, 1) := by decide +kernel
theorem dX12_allRounds_32 : decode cX12_allRounds 32 = .ok (.ldiv, 1) := by decide +kernel
theorem dX12_allRounds_33 : decode cX12_allRounds 33 = .ok (.iload 4, 2) := by decide +kernel
theorem dX12_allRounds_35 : decode cX12_allRounds 35 = .ok (.i2l, 1) := by decide +kernel
theorem dX12_allRounds_36 : decode cX12_allRounds 36 = .ok (.lmul, 1) := by decide +kernel
theorem dX12_allRounds_37 : decode cX12_allRounds 37 = .ok (.lstore_n 1, 1) := by decide +kernel
theorem dX12_allRounds_38 : decode cX12_allRounds 38 = .ok (.iinc 3 1, 3) := by decide +kernel
theorem dX12_allRounds_4 : decode cX12_allRounds 4 = .ok (.iload_n 3, 1) := by decide +kernel
theorem dX12_allRounds_41 : decode cX12_allRounds 41 = .ok (.goto (-37), 3) := by decide +kernel
theorem dX12_allRounds_44 : decode cX12_allRounds 44 = .ok (.lload_n 1, 1) := by decide +kernel
theorem dX12_allRounds_45 : decode cX12_allRounds 45 = .ok (.lreturn, 1) := by decide +kernel
theorem dX12_allRounds_5 : decode cX12_allRounds 5 = .ok (.aload_n 0, 1) := by decide +kernel
theorem dX12_allRounds_6 : decode cX12_allRounds 6 = .ok (.getfield 121, 3) := by decide +kernel
theorem dX12_allRounds_9 : decode cX12_allRounds 9 = .ok (.if_icmp .ge 35, 3) := by decide +kernel
theorem dX12_all_0 : decode cX12_all 0 = .ok (.aload_n 0, 1) := by decide +kernel
theorem dX12_all_1 : decode cX12_all 1 = .ok (.iconst 0, 1) := by decide +kernel
theorem dX12_all_2 : decode cX12_all 2 = .ok (.putfield 118, 3) := by decide +kernel
theorem dX12_all_5 : decode cX12_all 5 = .ok (.aload_n 0, 1) := by decide +kernel
theorem dX12_all_6 : decode cX12_all 6 = .ok (.invokevirtual 233, 3) := by decide +kernel
theorem dX12_all_9 : decode cX12_all 9 = .ok (.lreturn, 1) := by decide +kernel
theorem dX12_heardAt_0 : decode cX12_heardAt 0 = .ok (.iconst 0, 1) := by decide +kernel
theorem dX12_heardAt_1 : decode cX12_heardAt 1 = .ok (.istore_n 3, 1) := by decide +kernel
theorem dX12_heardAt_12 : decode cX12_heardAt 12 = .ok (.aload_n 0, 1) := by decide +kernel
theorem dX12_heardAt_13 : decode cX12_heardAt 13 = .ok (.getfield 29, 3) := by decide +kernel
theorem dX12_heardAt_16 : decode cX12_heardAt 16 = .ok (.iload_n 1, 1) := by decide +kernel
theorem dX12_heardAt_17 : decode cX12_heardAt 17 = .ok (.iaload, 1) := by decide +kernel
theorem dX12_heardAt_18 : decode cX12_heardAt 18 = .ok (.iload 4, 2) := by decide +kernel
theorem dX12_heardAt_2 : decode cX12_heardAt 2 = .ok (.iconst 0, 1) := by decide +kernel
theorem dX12_heardAt_20 : decode cX12_heardAt 20 = .ok (.ishr, 1) := by decide +kernel
theorem dX12_heardAt_21 : decode cX12_heardAt 21 = .ok (.iconst 1, 1) := by decide +kernel
theorem dX12_heardAt_22 : decode cX12_heardAt 22 = .ok (.iand, 1) := by decide +kernel
theorem dX12_heardAt_23 : decode cX12_heardAt 23 = .ok (.iconst 1, 1) := by decide +kernel
theorem dX12_heardAt_24 : decode cX12_heardAt 24 = .ok (.if_icmp .ne 27, 3) := by decide +kernel
theorem dX12_heardAt_27 : decode cX12_heardAt 27 = .ok (.iload_n 3, 1) := by decide +kernel
theorem dX12_heardAt_28 : decode cX12_heardAt 28 = .ok (.aload_n 0, 1) := by decide +kernel
theorem dX12_heardAt_29 : decode cX12_heardAt 29 = .ok (.getfield 17, 3) := by decide +kernel
theorem dX12_heardAt_3 : decode cX12_heardAt 3 = .ok (.istore 4, 2) := by decide +kernel
theorem dX12_heardAt_32 : decode cX12_heardAt 32 = .ok (.bipush 24, 2) := by decide +kernel
theorem dX12_heardAt_34 : decode cX12_heardAt 34 = .ok (.iload_n 1, 1) := by decide +kernel
theorem dX12_heardAt_35 : decode cX12_heardAt 35 = .ok (.imul, 1) := by decide +kernel
theorem dX12_heardAt_36 : decode cX12_heardAt 36 = .ok (.iload_n 2, 1) := by decide +kernel
theorem dX12_heardAt_37 : decode cX12_heardAt 37 = .ok (.iload 4, 2) := by decide +kernel
theorem dX12_heardAt_39 : decode cX12_heardAt 39 = .ok (.iadd, 1) := by decide +kernel
theorem dX12_heardAt_40 : decode cX12_heardAt 40 = .ok (.aload_n 0, 1) := by decide +kernel
theorem dX12_heardAt_41 : decode cX12_heardAt 41 = .ok (.getfield 20, 3) := by decide +kernel
theorem dX12_heardAt_44 : decode cX12_heardAt 44 = .ok (.iload_n 1, 1) := by decide +kernel
theorem dX12_heardAt_45 : decode cX12_heardAt 45 = .ok (.iaload, 1) := by decide +kernel
theorem dX12_heardAt_46 : decode cX12_heardAt 46 = .ok (.irem, 1) := by decide +kernel
theorem dX12_heardAt_47 : decode cX12_heardAt 47 = .ok (.iadd, 1) := by decide +kernel
theorem dX12_heardAt_48 : decode cX12_heardAt 48 = .ok (.iaload, 1) := by decide +kernel
theorem dX12_heardAt_49 : decode cX12_heardAt 49 = .ok (.ior, 1) := by decide +kernel
theorem dX12_heardAt_5 : decode cX12_heardAt 5 = .ok (.iload 4, 2) := by decide +kernel
theorem dX12_heardAt_50 : decode cX12_heardAt 50 = .ok (.istore_n 3, 1) := by decide +kernel
theorem dX12_heardAt_51 : decode cX12_heardAt 51 = .ok (.iinc 4 1, 3) := by decide +kernel
theorem dX12_heardAt_54 : decode cX12_heardAt 54 = .ok (.goto (-49), 3) := by decide +kernel
theorem dX12_heardAt_57 : decode cX12_heardAt 57 = .ok (.iload_n 3, 1) := by decide +kernel
theorem dX12_heardAt_58 : decode cX12_heardAt 58 = .ok (.ireturn, 1) := by decide +kernel
theorem dX12_heardAt_7 : decode cX12_heardAt 7 = .ok (.bipush 24, 2) := by decide +kernel
theorem dX12_heardAt_9 : decode cX12_heardAt 9 = .ok (.if_icmp .ge 48, 3) := by decide +kernel
theorem dX12_heardInAll_0 : decode cX12_heardInAll 0 = .ok (.iconst 0, 1) := by decide +kernel
theorem dX12_heardInAll_1 : decode cX12_heardInAll 1 = .ok (.istore_n 3, 1) := by decide +kernel
theorem dX12_heardInAll_11 : decode cX12_heardInAll 11 = .ok (.if_icmp .ge 19, 3) := by decide +kernel
theorem dX12_heardInAll_14 : decode cX12_heardInAll 14 = .ok (.iload_n 3, 1) := by decide +kernel
theorem dX12_heardInAll_15 : decode cX12_heardInAll 15 = .ok (.aload_n 0, 1) := by decide +kernel
theorem dX12_heardInAll_16 : decode cX12_heardInAll 16 = .ok (.iload 4, 2) := by decide +kernel
theorem dX12_heardInAll_18 : decode cX12_heardInAll 18 = .ok (.lload_n 1, 1) := by decide +kernel
theorem dX12_heardInAll_19 : decode cX12_heardInAll 19 = .ok (.invokevirtual 225, 3) := by decide +kernel
theorem dX12_heardInAll_2 : decode cX12_heardInAll 2 = .ok (.iconst 0, 1) := by decide +kernel
theorem dX12_heardInAll_22 : decode cX12_heardInAll 22 = .ok (.ior, 1) := by decide +kernel
theorem dX12_heardInAll_23 : decode cX12_heardInAll 23 = .ok (.istore_n 3, 1) := by decide +kernel
theorem dX12_heardInAll_24 : decode cX12_heardInAll 24 = .ok (.iinc 4 1, 3) := by decide +kernel
theorem dX12_heardInAll_27 : decode cX12_heardInAll 27 = .ok (.goto (-22), 3) := by decide +kernel
theorem dX12_heardInAll_3 : decode cX12_heardInAll 3 = .ok (.istore 4, 2) := by decide +kernel
theorem dX12_heardInAll_30 : decode cX12_heardInAll 30 = .ok (.iload_n 3, 1) := by decide +kernel
theorem dX12_heardInAll_31 : decode cX12_heardInAll 31 = .ok (.ireturn, 1) := by decide +kernel
theorem dX12_heardInAll_5 : decode cX12_heardInAll 5 = .ok (.iload 4, 2) := by decide +kernel
theorem dX12_heardInAll_7 : decode cX12_heardInAll 7 = .ok (.aload_n 0, 1) := by decide +kernel
theorem dX12_heardInAll_8 : decode cX12_heardInAll 8 = .ok (.getfield 121, 3) := by decide +kernel
theorem dX12_heardOf_0 : decode cX12_heardOf 0 = .ok (.aload_n 0, 1) := by decide +kernel
theorem dX12_heardOf_1 : decode cX12_heardOf 1 = .ok (.iload_n 1, 1) := by decide +kernel
theorem dX12_heardOf_10 : decode cX12_heardOf 10 = .ok (.getfield 23, 3) := by decide +kernel
theorem dX12_heardOf_13 : decode cX12_heardOf 13 = .ok (.iload_n 1, 1) := by decide +kernel
theorem dX12_heardOf_14 : decode cX12_heardOf 14 = .ok (.iaload, 1) := by decide +kernel
theorem dX12_heardOf_15 : decode cX12_heardOf 15 = .ok (.lload_n 2, 1) := by decide +kernel
theorem dX12_heardOf_16 : decode cX12_heardOf 16 = .ok (.aload_n 0, 1) := by decide +kernel
theorem dX12_heardOf_17 : decode cX12_heardOf 17 = .ok (.getfield 20, 3) := by decide +kernel
theorem dX12_heardOf_2 : decode cX12_heardOf 2 = .ok (.aload_n 0, 1) := by decide +kernel
theorem dX12_heardOf_20 : decode cX12_heardOf 20 = .ok (.iload_n 1, 1) := by decide +kernel
theorem dX12_heardOf_21 : decode cX12_heardOf 21 = .ok (.iaload, 1) := by decide +kernel
theorem dX12_heardOf_22 : decode cX12_heardOf 22 = .ok (.invokevirtual 218, 3) := by decide +kernel
theorem dX12_heardOf_25 : decode cX12_heardOf 25 = .ok (.iadd, 1) := by decide +kernel
theorem dX12_heardOf_26 : decode cX12_heardOf 26 = .ok (.aload_n 0, 1) := by decide +kernel
theorem dX12_heardOf_27 : decode cX12_heardOf 27 = .ok (.getfield 20, 3) := by decide +kernel
theorem dX12_heardOf_3 : decode cX12_heardOf 3 = .ok (.getfield 26, 3) := by decide +kernel
theorem dX12_heardOf_30 : decode cX12_heardOf 30 = .ok (.iload_n 1, 1) := by decide +kernel
theorem dX12_heardOf_31 : decode cX12_heardOf 31 = .ok (.iaload, 1) := by decide +kernel
theorem dX12_heardOf_32 : decode cX12_heardOf 32 = .ok (.irem, 1) := by decide +kernel
theorem dX12_heardOf_33 : decode cX12_heardOf 33 = .ok (.invokevirtual 222, 3) := by decide +kernel
theorem dX12_heardOf_36 : decode cX12_heardOf 36 = .ok (.ireturn, 1) := by decide +kernel
theorem dX12_heardOf_6 : decode cX12_heardOf 6 = .ok (.iload_n 1, 1) := by decide +kernel
theorem dX12_heardOf_7 : decode cX12_heardOf 7 = .ok (.iaload, 1) := by decide +kernel
theorem dX12_heardOf_8 : decode cX12_heardOf 8 = .ok (.aload_n 0, 1) := by decide +kernel
theorem dX12_heardOf_9 : decode cX12_heardOf 9 = .ok (.aload_n 0, 1) := by decide +kernel
theorem dX12_heard_0 : decode cX12_heard 0 = .ok (.aload_n 0, 1) := by decide +kernel
theorem dX12_heard_1 : decode cX12_heard 1 = .ok (.iconst 0, 1) := by decide +kernel
theorem dX12_heard_10 : decode cX12_heard 10 = .ok (.aload_n 0, 1) := by decide +kernel
theorem dX12_heard_11 : decode cX12_heard 11 = .ok (.iload_n 1, 1) := by decide +kernel
theorem dX12_heard_12 : decode cX12_heard 12 = .ok (.invokevirtual 168, 3) := by decide +kernel
theorem dX12_heard_15 : decode cX12_heard 15 = .ok (.ifCond .eq 9, 3) := by decide +kernel
theorem dX12_heard_18 : decode cX12_heard 18 = .ok (.lload_n 2, 1) := by decide +kernel
theorem dX12_heard_19 : decode cX12_heard 19 = .ok (.lconst 0, 1) := by decide +kernel
theorem dX12_heard_2 : decode cX12_heard 2 = .ok (.putfield 118, 3) := by decide +kernel
theorem dX12_heard_20 : decode cX12_heard 20 = .ok (.lcmp, 1) := by decide +kernel
theorem dX12_heard_21 : decode cX12_heard 21 = .ok (.ifCond .ge 5, 3) := by decide +kernel
theorem dX12_heard_24 : decode cX12_heard 24 = .ok (.iconst (-1), 1) := by decide +kernel
theorem dX12_heard_25 : decode cX12_heard 25 = .ok (.ireturn, 1) := by decide +kernel
theorem dX12_heard_26 : decode cX12_heard 26 = .ok (.iload_n 1, 1) := by decide +kernel
theorem dX12_heard_27 : decode cX12_heard 27 = .ok (.iconst (-1), 1) := by decide +kernel
theorem dX12_heard_28 : decode cX12_heard 28 = .ok (.if_icmp .ne 11, 3) := by decide +kernel
theorem dX12_heard_31 : decode cX12_heard 31 = .ok (.aload_n 0, 1) := by decide +kernel
theorem dX12_heard_32 : decode cX12_heard 32 = .ok (.lload_n 2, 1) := by decide +kernel
theorem dX12_heard_33 : decode cX12_heard 33 = .ok (.invokevirtual 229, 3) := by decide +kernel
theorem dX12_heard_36 : decode cX12_heard 36 = .ok (.goto 9, 3) := by decide +kernel
theorem dX12_heard_39 : decode cX12_heard 39 = .ok (.aload_n 0, 1) := by decide +kernel
theorem dX12_heard_40 : decode cX12_heard 40 = .ok (.iload_n 1, 1) := by decide +kernel
theorem dX12_heard_41 : decode cX12_heard 41 = .ok (.lload_n 2, 1) := by decide +kernel
theorem dX12_heard_42 : decode cX12_heard 42 = .ok (.invokevirtual 225, 3) := by decide +kernel
theorem dX12_heard_45 : decode cX12_heard 45 = .ok (.ireturn, 1) := by decide +kernel
theorem dX12_heard_5 : decode cX12_heard 5 = .ok (.iload_n 1, 1) := by decide +kernel
theorem dX12_heard_6 : decode cX12_heard 6 = .ok (.iconst (-1), 1) := by decide +kernel
theorem dX12_heard_7 : decode cX12_heard 7 = .ok (.if_icmp .eq 11, 3) := by decide +kernel
theorem dX12_inch_0 : decode cX12_inch 0 = .ok (.aload_n 0, 1) := by decide +kernel
theorem dX12_inch_1 : decode cX12_inch 1 = .ok (.iconst 0, 1) := by decide +kernel
theorem dX12_inch_10 : decode cX12_inch 10 = .ok (.ifCond .eq 33, 3) := by decide +kernel
theorem dX12_inch_13 : decode cX12_inch 13 = .ok (.iload_n 2, 1) := by decide +kernel
theorem dX12_inch_14 : decode cX12_inch 14 = .ok (.iconst 0, 1) := by decide +kernel
theorem dX12_inch_15 : decode cX12_inch 15 = .ok (.aload_n 0, 1) := by decide +kernel
theorem dX12_inch_16 : decode cX12_inch 16 = .ok (.getfield 20, 3) := by decide +kernel
theorem dX12_inch_19 : decode cX12_inch 19 = .ok (.iload_n 1, 1) := by decide +kernel
theorem dX12_inch_2 : decode cX12_inch 2 = .ok (.putfield 118, 3) := by decide +kernel
theorem dX12_inch_20 : decode cX12_inch 20 = .ok (.iaload, 1) := by decide +kernel
theorem dX12_inch_21 : decode cX12_inch 21 = .ok (.iconst 1, 1) := by decide +kernel
theorem dX12_inch_22 : decode cX12_inch 22 = .ok (.isub, 1) := by decide +kernel
theorem dX12_inch_23 : decode cX12_inch 23 = .ok (.invokestatic 124, 3) := by decide +kernel
theorem dX12_inch_26 : decode cX12_inch 26 = .ok (.ifCond .eq 17, 3) := by decide +kernel
theorem dX12_inch_29 : decode cX12_inch 29 = .ok (.aload_n 0, 1) := by decide +kernel
theorem dX12_inch_30 : decode cX12_inch 30 = .ok (.getfield 17, 3) := by decide +kernel
theorem dX12_inch_33 : decode cX12_inch 33 = .ok (.bipush 24, 2) := by decide +kernel
theorem dX12_inch_35 : decode cX12_inch 35 = .ok (.iload_n 1, 1) := by decide +kernel
theorem dX12_inch_36 : decode cX12_inch 36 = .ok (.imul, 1) := by decide +kernel
theorem dX12_inch_37 : decode cX12_inch 37 = .ok (.iload_n 2, 1) := by decide +kernel
theorem dX12_inch_38 : decode cX12_inch 38 = .ok (.iadd, 1) := by decide +kernel
theorem dX12_inch_39 : decode cX12_inch 39 = .ok (.iaload, 1) := by decide +kernel
theorem dX12_inch_40 : decode cX12_inch 40 = .ok (.goto 4, 3) := by decide +kernel
theorem dX12_inch_43 : decode cX12_inch 43 = .ok (.iconst (-1), 1) := by decide +kernel
theorem dX12_inch_44 : decode cX12_inch 44 = .ok (.ireturn, 1) := by decide +kernel
theorem dX12_inch_5 : decode cX12_inch 5 = .ok (.aload_n 0, 1) := by decide +kernel
theorem dX12_inch_6 : decode cX12_inch 6 = .ok (.iload_n 1, 1) := by decide +kernel
theorem dX12_inch_7 : decode cX12_inch 7 = .ok (.invokevirtual 168, 3) := by decide +kernel
theorem dX12_wayBy_0 : decode cX12_wayBy 0 = .ok (.aload_n 0, 1) := by decide +kernel
theorem dX12_wayBy_1 : decode cX12_wayBy 1 = .ok (.iload_n 1, 1) := by decide +kernel
theorem dX12_wayBy_11 : decode cX12_wayBy 11 = .ok (.lcmp, 1) := by decide +kernel
theorem dX12_wayBy_12 : decode cX12_wayBy 12 = .ok (.ifCond .gt 17, 3) := by decide +kernel
theorem dX12_wayBy_15 : decode cX12_wayBy 15 = .ok (.aload_n 0, 1) := by decide +kernel
theorem dX12_wayBy_16 : decode cX12_wayBy 16 = .ok (.iload_n 1, 1) := by decide +kernel
theorem dX12_wayBy_17 : decode cX12_wayBy 17 = .ok (.lload_n 2, 1) := by decide +kernel
theorem dX12_wayBy_18 : decode cX12_wayBy 18 = .ok (.invokevirtual 207, 3) := by decide +kernel
theorem dX12_wayBy_2 : decode cX12_wayBy 2 = .ok (.invokevirtual 211, 3) := by decide +kernel
theorem dX12_wayBy_21 : decode cX12_wayBy 21 = .ok (.iload 4, 2) := by decide +kernel
theorem dX12_wayBy_23 : decode cX12_wayBy 23 = .ok (.i2l, 1) := by decide +kernel
theorem dX12_wayBy_24 : decode cX12_wayBy 24 = .ok (.invokestatic 214, 3) := by decide +kernel
theorem dX12_wayBy_27 : decode cX12_wayBy 27 = .ok (.l2i, 1) := by decide +kernel
theorem dX12_wayBy_28 : decode cX12_wayBy 28 = .ok (.ireturn, 1) := by decide +kernel
theorem dX12_wayBy_29 : decode cX12_wayBy 29 = .ok (.lload_n 2, 1) := by decide +kernel
theorem dX12_wayBy_30 : decode cX12_wayBy 30 = .ok (.lload 5, 2) := by decide +kernel
theorem dX12_wayBy_32 : decode cX12_wayBy 32 = .ok (.lsub, 1) := by decide +kernel
theorem dX12_wayBy_33 : decode cX12_wayBy 33 = .ok (.iload 4, 2) := by decide +kernel
theorem dX12_wayBy_35 : decode cX12_wayBy 35 = .ok (.i2l, 1) := by decide +kernel
theorem dX12_wayBy_36 : decode cX12_wayBy 36 = .ok (.lrem, 1) := by decide +kernel
theorem dX12_wayBy_37 : decode cX12_wayBy 37 = .ok (.aload_n 0, 1) := by decide +kernel
theorem dX12_wayBy_38 : decode cX12_wayBy 38 = .ok (.iload_n 1, 1) := by decide +kernel
theorem dX12_wayBy_39 : decode cX12_wayBy 39 = .ok (.invokevirtual 195, 3) := by decide +kernel
theorem dX12_wayBy_42 : decode cX12_wayBy 42 = .ok (.i2l, 1) := by decide +kernel
theorem dX12_wayBy_43 : decode cX12_wayBy 43 = .ok (.lmul, 1) := by decide +kernel
theorem dX12_wayBy_44 : decode cX12_wayBy 44 = .ok (.lstore 7, 2) := by decide +kernel
theorem dX12_wayBy_46 : decode cX12_wayBy 46 = .ok (.aload_n 0, 1) := by decide +kernel
theorem dX12_wayBy_47 : decode cX12_wayBy 47 = .ok (.iload_n 1, 1) := by decide +kernel
theorem dX12_wayBy_48 : decode cX12_wayBy 48 = .ok (.lload 5, 2) := by decide +kernel
theorem dX12_wayBy_5 : decode cX12_wayBy 5 = .ok (.i2l, 1) := by decide +kernel
theorem dX12_wayBy_50 : decode cX12_wayBy 50 = .ok (.invokevirtual 207, 3) := by decide +kernel
theorem dX12_wayBy_53 : decode cX12_wayBy 53 = .ok (.lload 7, 2) := by decide +kernel
theorem dX12_wayBy_55 : decode cX12_wayBy 55 = .ok (.ladd, 1) := by decide +kernel
theorem dX12_wayBy_56 : decode cX12_wayBy 56 = .ok (.iload 4, 2) := by decide +kernel
theorem dX12_wayBy_58 : decode cX12_wayBy 58 = .ok (.i2l, 1) := by decide +kernel
theorem dX12_wayBy_59 : decode cX12_wayBy 59 = .ok (.invokestatic 214, 3) := by decide +kernel
theorem dX12_wayBy_6 : decode cX12_wayBy 6 = .ok (.lstore 5, 2) := by decide +kernel
theorem dX12_wayBy_62 : decode cX12_wayBy 62 = .ok (.l2i, 1) := by decide +kernel
theorem dX12_wayBy_63 : decode cX12_wayBy 63 = .ok (.ireturn, 1) := by decide +kernel
theorem dX12_wayBy_8 : decode cX12_wayBy 8 = .ok (.lload_n 2, 1) := by decide +kernel
theorem dX12_wayBy_9 : decode cX12_wayBy 9 = .ok (.lload 5, 2) := by decide +kernel
theorem dX12_wayEarly_0 : decode cX12_wayEarly 0 = .ok (.lconst 0, 1) := by decide +kernel
theorem dX12_wayEarly_1 : decode cX12_wayEarly 1 = .ok (.lstore 4, 2) := by decide +kernel
theorem dX12_wayEarly_10 : decode cX12_wayEarly 10 = .ok (.istore 9, 2) := by decide +kernel
theorem dX12_wayEarly_101 : decode cX12_wayEarly 101 = .ok (.lload 4, 2) := by decide +kernel
theorem dX12_wayEarly_103 : decode cX12_wayEarly 103 = .ok (.iload 8, 2) := by decide +kernel
theorem dX12_wayEarly_105 : decode cX12_wayEarly 105 = .ok (.i2l, 1) := by decide +kernel
theorem dX12_wayEarly_106 : decode cX12_wayEarly 106 = .ok (.lload_n 2, 1) := by decide +kernel
theorem dX12_wayEarly_107 : decode cX12_wayEarly 107 = .ok (.lload 6, 2) := by decide +kernel
theorem dX12_wayEarly_109 : decode cX12_wayEarly 109 = .ok (.lsub, 1) := by decide +kernel
theorem dX12_wayEarly_110 : decode cX12_wayEarly 110 = .ok (.lmul, 1) := by decide +kernel
theorem dX12_wayEarly_111 : decode cX12_wayEarly 111 = .ok (.ladd, 1) := by decide +kernel
theorem dX12_wayEarly_112 : decode cX12_wayEarly 112 = .ok (.lreturn, 1) := by decide +kernel
theorem dX12_wayEarly_12 : decode cX12_wayEarly 12 = .ok (.iload 9, 2) := by decide +kernel
theorem dX12_wayEarly_14 : decode cX12_wayEarly 14 = .ok (.aload_n 0, 1) := by decide +kernel
theorem dX12_wayEarly_15 : decode cX12_wayEarly 15 = .ok (.getfield 41, 3) := by decide +kernel
theorem dX12_wayEarly_18 : decode cX12_wayEarly 18 = .ok (.iload_n 1, 1) := by decide +kernel
theorem dX12_wayEarly_19 : decode cX12_wayEarly 19 = .ok (.iaload, 1) := by decide +kernel
theorem dX12_wayEarly_20 : decode cX12_wayEarly 20 = .ok (.if_icmp .ge 81, 3) := by decide +kernel
theorem dX12_wayEarly_23 : decode cX12_wayEarly 23 = .ok (.aload_n 0, 1) := by decide +kernel
theorem dX12_wayEarly_24 : decode cX12_wayEarly 24 = .ok (.getfield 35, 3) := by decide +kernel
theorem dX12_wayEarly_27 : decode cX12_wayEarly 27 = .ok (.bipush 12, 2) := by decide +kernel
theorem dX12_wayEarly_29 : decode cX12_wayEarly 29 = .ok (.iload_n 1, 1) := by decide +kernel
theorem dX12_wayEarly_3 : decode cX12_wayEarly 3 = .ok (.lconst 0, 1) := by decide +kernel
theorem dX12_wayEarly_30 : decode cX12_wayEarly 30 = .ok (.imul, 1) := by decide +kernel
theorem dX12_wayEarly_31 : decode cX12_wayEarly 31 = .ok (.iload 9, 2) := by decide +kernel
theorem dX12_wayEarly_33 : decode cX12_wayEarly 33 = .ok (.iadd, 1) := by decide +kernel
theorem dX12_wayEarly_34 : decode cX12_wayEarly 34 = .ok (.iaload, 1) := by decide +kernel
theorem dX12_wayEarly_35 : decode cX12_wayEarly 35 = .ok (.i2l, 1) := by decide +kernel
theorem dX12_wayEarly_36 : decode cX12_wayEarly 36 = .ok (.lload_n 2, 1) := by decide +kernel
theorem dX12_wayEarly_37 : decode cX12_wayEarly 37 = .ok (.lcmp, 1) := by decide +kernel
theorem dX12_wayEarly_38 : decode cX12_wayEarly 38 = .ok (.ifCond .ge 63, 3) := by decide +kernel
theorem dX12_wayEarly_4 : decode cX12_wayEarly 4 = .ok (.lstore 6, 2) := by decide +kernel
theorem dX12_wayEarly_41 : decode cX12_wayEarly 41 = .ok (.lload 4, 2) := by decide +kernel
theorem dX12_wayEarly_43 : decode cX12_wayEarly 43 = .ok (.iload 8, 2) := by decide +kernel
theorem dX12_wayEarly_45 : decode cX12_wayEarly 45 = .ok (.i2l, 1) := by decide +kernel
theorem dX12_wayEarly_46 : decode cX12_wayEarly 46 = .ok (.aload_n 0, 1) := by decide +kernel
theorem dX12_wayEarly_47 : decode cX12_wayEarly 47 = .ok (.getfield 35, 3) := by decide +kernel
theorem dX12_wayEarly_50 : decode cX12_wayEarly 50 = .ok (.bipush 12, 2) := by decide +kernel
theorem dX12_wayEarly_52 : decode cX12_wayEarly 52 = .ok (.iload_n 1, 1) := by decide +kernel
theorem dX12_wayEarly_53 : decode cX12_wayEarly 53 = .ok (.imul, 1) := by decide +kernel
theorem dX12_wayEarly_54 : decode cX12_wayEarly 54 = .ok (.iload 9, 2) := by decide +kernel
theorem dX12_wayEarly_56 : decode cX12_wayEarly 56 = .ok (.iadd, 1) := by decide +kernel
theorem dX12_wayEarly_57 : decode cX12_wayEarly 57 = .ok (.iaload, 1) := by decide +kernel
theorem dX12_wayEarly_58 : decode cX12_wayEarly 58 = .ok (.i2l, 1) := by decide +kernel
theorem dX12_wayEarly_59 : decode cX12_wayEarly 59 = .ok (.lload 6, 2) := by decide +kernel
theorem dX12_wayEarly_6 : decode cX12_wayEarly 6 = .ok (.iconst 1, 1) := by decide +kernel
theorem dX12_wayEarly_61 : decode cX12_wayEarly 61 = .ok (.lsub, 1) := by decide +kernel
theorem dX12_wayEarly_62 : decode cX12_wayEarly 62 = .ok (.lmul, 1) := by decide +kernel
theorem dX12_wayEarly_63 : decode cX12_wayEarly 63 = .ok (.ladd, 1) := by decide +kernel
theorem dX12_wayEarly_64 : decode cX12_wayEarly 64 = .ok (.lstore 4, 2) := by decide +kernel
theorem dX12_wayEarly_66 : decode cX12_wayEarly 66 = .ok (.aload_n 0, 1) := by decide +kernel
theorem dX12_wayEarly_67 : decode cX12_wayEarly 67 = .ok (.getfield 35, 3) := by decide +kernel
theorem dX12_wayEarly_7 : decode cX12_wayEarly 7 = .ok (.istore 8, 2) := by decide +kernel
theorem dX12_wayEarly_70 : decode cX12_wayEarly 70 = .ok (.bipush 12, 2) := by decide +kernel
theorem dX12_wayEarly_72 : decode cX12_wayEarly 72 = .ok (.iload_n 1, 1) := by decide +kernel
theorem dX12_wayEarly_73 : decode cX12_wayEarly 73 = .ok (.imul, 1) := by decide +kernel
theorem dX12_wayEarly_74 : decode cX12_wayEarly 74 = .ok (.iload 9, 2) := by decide +kernel
theorem dX12_wayEarly_76 : decode cX12_wayEarly 76 = .ok (.iadd, 1) := by decide +kernel
theorem dX12_wayEarly_77 : decode cX12_wayEarly 77 = .ok (.iaload, 1) := by decide +kernel
theorem dX12_wayEarly_78 : decode cX12_wayEarly 78 = .ok (.i2l, 1) := by decide +kernel
theorem dX12_wayEarly_79 : decode cX12_wayEarly 79 = .ok (.lstore 6, 2) := by decide +kernel
theorem dX12_wayEarly_81 : decode cX12_wayEarly 81 = .ok (.aload_n 0, 1) := by decide +kernel
theorem dX12_wayEarly_82 : decode cX12_wayEarly 82 = .ok (.getfield 38, 3) := by decide +kernel
theorem dX12_wayEarly_85 : decode cX12_wayEarly 85 = .ok (.bipush 12, 2) := by decide +kernel
theorem dX12_wayEarly_87 : decode cX12_wayEarly 87 = .ok (.iload_n 1, 1) := by decide +kernel
theorem dX12_wayEarly_88 : decode cX12_wayEarly 88 = .ok (.imul, 1) := by decide +kernel
theorem dX12_wayEarly_89 : decode cX12_wayEarly 89 = .ok (.iload 9, 2) := by decide +kernel
theorem dX12_wayEarly_9 : decode cX12_wayEarly 9 = .ok (.iconst 0, 1) := by decide +kernel
theorem dX12_wayEarly_91 : decode cX12_wayEarly 91 = .ok (.iadd, 1) := by decide +kernel
theorem dX12_wayEarly_92 : decode cX12_wayEarly 92 = .ok (.iaload, 1) := by decide +kernel
theorem dX12_wayEarly_93 : decode cX12_wayEarly 93 = .ok (.istore 8, 2) := by decide +kernel
theorem dX12_wayEarly_95 : decode cX12_wayEarly 95 = .ok (.iinc 9 1, 3) := by decide +kernel
theorem dX12_wayEarly_98 : decode cX12_wayEarly 98 = .ok (.goto (-86), 3) := by decide +kernel
theorem dX12_way_0 : decode cX12_way 0 = .ok (.aload_n 0, 1) := by decide +kernel
theorem dX12_way_1 : decode cX12_way 1 = .ok (.iconst 0, 1) := by decide +kernel
theorem dX12_way_12 : decode cX12_way 12 = .ok (.iload_n 2, 1) := by decide +kernel
theorem dX12_way_13 : decode cX12_way 13 = .ok (.iconst 0, 1) := by decide +kernel
theorem dX12_way_14 : decode cX12_way 14 = .ok (.ldc 206, 2) := by decide +kernel
theorem dX12_way_16 : decode cX12_way 16 = .ok (.invokestatic 124, 3) := by decide +kernel
theorem dX12_way_19 : decode cX12_way 19 = .ok (.ifCond .ne 10, 3) := by decide +kernel
theorem dX12_way_2 : decode cX12_way 2 = .ok (.putfield 118, 3) := by decide +kernel
theorem dX12_way_22 : decode cX12_way 22 = .ok (.aload_n 0, 1) := by decide +kernel
theorem dX12_way_23 : decode cX12_way 23 = .ok (.iconst 1, 1) := by decide +kernel
theorem dX12_way_24 : decode cX12_way 24 = .ok (.putfield 118, 3) := by decide +kernel
theorem dX12_way_27 : decode cX12_way 27 = .ok (.lconst 0, 1) := by decide +kernel
theorem dX12_way_28 : decode cX12_way 28 = .ok (.lreturn, 1) := by decide +kernel
theorem dX12_way_29 : decode cX12_way 29 = .ok (.aload_n 0, 1) := by decide +kernel
theorem dX12_way_30 : decode cX12_way 30 = .ok (.iload_n 1, 1) := by decide +kernel
theorem dX12_way_31 : decode cX12_way 31 = .ok (.iload_n 2, 1) := by decide +kernel
theorem dX12_way_32 : decode cX12_way 32 = .ok (.i2l, 1) := by decide +kernel
theorem dX12_way_33 : decode cX12_way 33 = .ok (.invokevirtual 207, 3) := by decide +kernel
theorem dX12_way_36 : decode cX12_way 36 = .ok (.lreturn, 1) := by decide +kernel
theorem dX12_way_5 : decode cX12_way 5 = .ok (.iload_n 1, 1) := by decide +kernel
theorem dX12_way_6 : decode cX12_way 6 = .ok (.invokestatic 165, 3) := by decide +kernel
theorem dX12_way_9 : decode cX12_way 9 = .ok (.ifCond .eq 13, 3) := by decide +kernel
theorem dX12_wish_0 : decode cX12_wish 0 = .ok (.aload_n 0, 1) := by decide +kernel
theorem dX12_wish_1 : decode cX12_wish 1 = .ok (.iconst 0, 1) := by decide +kernel
theorem dX12_wish_10 : decode cX12_wish 10 = .ok (.ifCond .eq 10, 3) := by decide +kernel
theorem dX12_wish_13 : decode cX12_wish 13 = .ok (.iload_n 2, 1) := by decide +kernel
theorem dX12_wish_14 : decode cX12_wish 14 = .ok (.invokestatic 237, 3) := by decide +kernel
theorem dX12_wish_17 : decode cX12_wish 17 = .ok (.ifCond .ne 5, 3) := by decide +kernel
theorem dX12_wish_2 : decode cX12_wish 2 = .ok (.putfield 118, 3) := by decide +kernel
theorem dX12_wish_20 : decode cX12_wish 20 = .ok (.iconst 0, 1) := by decide +kernel
theorem dX12_wish_21 : decode cX12_wish 21 = .ok (.ireturn, 1) := by decide +kernel
theorem dX12_wish_22 : decode cX12_wish 22 = .ok (.aload_n 0, 1) := by decide +kernel
theorem dX12_wish_23 : decode cX12_wish 23 = .ok (.getfield 32, 3) := by decide +kernel
theorem dX12_wish_26 : decode cX12_wish 26 = .ok (.iload_n 1, 1) := by decide +kernel
theorem dX12_wish_27 : decode cX12_wish 27 = .ok (.iload_n 2, 1) := by decide +kernel
theorem dX12_wish_28 : decode cX12_wish 28 = .ok (.iastore, 1) := by decide +kernel
theorem dX12_wish_29 : decode cX12_wish 29 = .ok (.iconst 1, 1) := by decide +kernel
theorem dX12_wish_30 : decode cX12_wish 30 = .ok (.ireturn, 1) := by decide +kernel
theorem dX12_wish_5 : decode cX12_wish 5 = .ok (.aload_n 0, 1) := by decide +kernel
theorem dX12_wish_6 : decode cX12_wish 6 = .ok (.iload_n 1, 1) := by decide +kernel
theorem dX12_wish_7 : decode cX12_wish 7 = .ok (.invokevirtual 168, 3) := by decide +kernel
theorem dm_X12_wayEarly : yX12_wayEarly.cls = RX12 ∧ yX12_wayEarly.cls ≠ "java/lang/invoke/MethodHandle" ∧ yX12_wayEarly.cls ≠ "java/lang/invoke/VarHandle" ∧ (parseMethodDescriptor yX12_wayEarly.desc).map (fun d => d.parameters.length) = some 2 := by decide +kernel
theorem dm_X12_steady : yX12_steady.cls = RX12 ∧ yX12_steady.cls ≠ "java/lang/invoke/MethodHandle" ∧ yX12_steady.cls ≠ "java/lang/invoke/VarHandle" ∧ (parseMethodDescriptor yX12_steady.desc).map (fun d => d.parameters.length) = some 1 := by decide +kernel
theorem dm_X12_wayBy : yX12_wayBy.cls = RX12 ∧ yX12_wayBy.cls ≠ "java/lang/invoke/MethodHandle" ∧ yX12_wayBy.cls ≠ "java/lang/invoke/VarHandle" ∧ (parseMethodDescriptor yX12_wayBy.desc).map (fun d => d.parameters.length) = some 3 := by decide +kernel
theorem dm_X12_heardAt : yX12_heardAt.cls = RX12 ∧ yX12_heardAt.cls ≠ "java/lang/invoke/MethodHandle" ∧ yX12_heardAt.cls ≠ "java/lang/invoke/VarHandle" ∧ (parseMethodDescriptor yX12_heardAt.desc).map (fun d => d.parameters.length) = some 2 := by decide +kernel
theorem dm_X12_heardOf : yX12_heardOf.cls = RX12 ∧ yX12_heardOf.cls ≠ "java/lang/invoke/MethodHandle" ∧ yX12_heardOf.cls ≠ "java/lang/invoke/VarHandle" ∧ (parseMethodDescriptor yX12_heardOf.desc).map (fun d => d.parameters.length) = some 2 := by decide +kernel
theorem dm_X12_heardInAll : yX12_heardInAll.cls = RX12 ∧ yX12_heardInAll.cls ≠ "java/lang/invoke/MethodHandle" ∧ yX12_heardInAll.cls ≠ "java/lang/invoke/VarHandle" ∧ (parseMethodDescriptor yX12_heardInAll.desc).map (fun d => d.parameters.length) = some 1 := by decide +kernel
theorem dm_X12_allRounds : yX12_allRounds.cls = RX12 ∧ yX12_allRounds.cls ≠ "java/lang/invoke/MethodHandle" ∧ yX12_allRounds.cls ≠ "java/lang/invoke/VarHandle" ∧ (parseMethodDescriptor yX12_allRounds.desc).map (fun d => d.parameters.length) = some 0 := by decide +kernel
theorem dm_X12_areSounds : yX12_areSounds.cls = RX12 ∧ yX12_areSounds.cls ≠ "java/lang/invoke/MethodHandle" ∧ yX12_areSounds.cls ≠ "java/lang/invoke/VarHandle" ∧ (parseMethodDescriptor yX12_areSounds.desc).map (fun d => d.parameters.length) = some 1 := by decide +kernel
set_option maxRecDepth 100000 in
def wR_inch (a0 : Int) (a1 : Int) (M : zM) (Q : Int → zM → Prop) : Prop := (∀ M1 : zM, M1 = zup M 0 35 0 → wR_isRing a0 M1 (fun z4 => (z4 = 0 → Q (-1) M1) ∧ (z4 ≠ 0 → ((0 ≤ (sI a0) ∧ (sI a0) < 4) ∧ wR_in a1 0 ((M1 4 (sI a0).toNat) - 1) M1 (fun z10 => (z10 = 0 → Q (-1) M1) ∧ (z10 ≠ 0 → ((0 ≤ (sI ((24 * a0) + a1)) ∧ (sI ((24 * a0) + a1)) < 96) ∧ Q (sI (M1 3 (sI ((24 * a0) + a1)).toNat)) M1)))))))
set_option maxHeartbeats 4000000 in
set_option maxRecDepth 100000 in
theorem cR_inch (l : Launch) (D : va_G) (dA : Nat → ClassId) (b : Nat) (M : zM) (a0 : Int) (a1 : Int)  (Q : Int → zM → Prop) (h : wR_inch a0 a1 M Q) : Met l yX12_inch (.code yX12_inch cX12_inch 3 (some .int) :: zt) (z_rm 2) (va_Pc [.ref (b + 0), .int (iI a0), .int (iI a1)] (wPre D dA vwCl (z_tys dA) wR nR b M)) (va_Qi (wQi Q) (zB D dA vwCl wR nR b) (zA nR b)) 0 0 (zA nR b) := by
  unfold wR_inch at h
  refine Met.ofW (cc := cX12_inch) (maxL := 3) (ret := (some .int)) (by decide) rfl ?_
  intro p e s m args below meth c s₁ B hml hv
  obtain ⟨hargs, hS, hK⟩ := hv
  have hx := B.exec
  have hb := B.bytes
  have hr := B.returns
  have hts := atoms_spec (ws := .code yX12_inch cX12_inch 3 (some .int) :: zt) B.pre
  have hown : s.vm.findClass RX12 = some m.cls := findClass_of_methodNamed B.named
  have hlocks := B.notSynchronized
  have hS0 : va_S (zA nR b) s.heap s.heap [] := va_S.rf
  have hl := lv_entry ([.ref (b + 0), .int (iI a0), .int (iI a1)]) (n := 3) (Nat.le_of_ble_eq_true rfl)
  have hent : entryFrame m args 3 = F0 m 0 ((lg_sl ([.ref (b + 0), .int (iI a0), .int (iI a1)]) ++ List.replicate (3 - (lg_sl ([.ref (b + 0), .int (iI a0), .int (iI a1)])).length) Slot.unset).toArray) [] := by rw [hargs]; exact lg_entry_eq m ([.ref (b + 0), .int (iI a0), .int (iI a1)]) 3
  rw [hent]
  generalize (lg_sl ([.ref (b + 0), .int (iI a0), .int (iI a1)]) ++ List.replicate (3 - (lg_sl ([.ref (b + 0), .int (iI a0), .int (iI a1)])).length) Slot.unset).toArray = ls at hl ⊢
  have hl : lv_has ls 3 [(0, .ref (b + 0)), (1, .int (iI a0)), (2, .int (iI a1))] := hl
  refine lv_aload_n hx hb dX12_inch_0 rfl (lv_at hl 0 rfl) ?_
  refine z_iconst hx hb dX12_inch_1 ?_
  refine w_puti hx hb hts (z_memU u12) tyX12 tyX12_ok nmX12 hown hK.1 hS hS0 f12_35 (by decide) (zkd_of (rfl : zcd wR 0 = 50) rfl) (Or.inl (hts _ (z_mem k979))) rfl (z := 0) (by decide +kernel) dX12_inch_2 (fun H locs hS hS0 => ?_)
  obtain ⟨M1, e2⟩ : ∃ M1 : zM, M1 = zup M 0 35 0 := ⟨_, rfl⟩
  rw [← e2] at hS
  have h := h M1 e2
  refine lv_aload_n hx hb dX12_inch_5 rfl (lv_at hl 0 rfl) ?_
  refine lv_iload_n hx hb dX12_inch_6 rfl (lv_at hl 1 rfl) ?_
  refine w_callz (va_runV (As := [.int (iI a0)]) (rest := []) ⟨hx, hb, hml, hown, hts⟩ (cR_isRing l D dA b M1 a0 _ h) (cwV 1 hts (z_gV k1097 k1098 k1397 k14 k1099) rfl rfl rfl dm_X12_isRing ⟨Nat.le_of_ble_eq_true rfl, Nat.le_of_ble_eq_true rfl⟩) ⟨wPre_blind, (w_recv hS hK.1 (by decide) (zkd_of (rfl : zcd wR 0 = 50) rfl) (by decide) (rfl : vwCl[12]? = some (RX12, TX12, 50))), w_pre hS hK⟩ rfl rfl hl.1 rfl (lv_room (Nat.le_of_ble_eq_true rfl)) dX12_inch_7 ⟨Nat.le_refl _, Nat.le_refl _⟩) hS0 (fun z4 M3 H locs r5 h hS hS0 => ?_)
  obtain ⟨e6, h⟩ := h
  rw [e6] at hS
  refine w_if_eq (tgt := 43) hx hb (sI_01 r5) dX12_inch_10 (by decide) (fun c7 => ?_) (fun c7 => ?_)
  · skip
    have h := h.1 c7
    refine z_iconst hx hb dX12_inch_43 ?_
    exact w_iret hx hb hr hlocks hS hS0 (sI_of (by decide)) h dX12_inch_44
  · skip
    have h := h.2 c7
    refine lv_iload_n hx hb dX12_inch_13 rfl (lv_at hl 2 rfl) ?_
    refine z_iconst hx hb dX12_inch_14 ?_
    refine lv_aload_n hx hb dX12_inch_15 rfl (lv_at hl 0 rfl) ?_
    refine w_getr (j2 := 4) hx hb hts (z_memU u12) hown hK.1 hS f12_5 (by decide) (zkd_of (rfl : zcd wR 0 = 50) rfl) (zrf_of (rfl : zcd wR 0 = 50) rfl) (Or.inl (hts _ (z_mem k949))) dX12_inch_16 ?_
    refine lv_iload_n hx hb dX12_inch_19 rfl (lv_at hl 1 rfl) ?_
    obtain ⟨o8, h⟩ := h
    refine w_iald (n := 4) (i := (sI a0)) hx hb hK.1 (t0 := 0) rfl hS (by decide) (zkd_of (rfl : zcd wR 4 = 54) rfl) (zln_of (rfl : zcd wR 4 = 54) rfl) rfl o8.1 o8.2 (by decide) dX12_inch_20 ?_
    refine z_iconst hx hb dX12_inch_21 ?_
    refine z_isub hx hb dX12_inch_22 ?_
    refine w_callz (va_runS (As := [.int (iI a1), .int (iI 0), .int (iI ((M1 4 (sI a0).toNat) - 1))]) (rest := []) ⟨hx, hb, hml, hown, hts⟩ (cR_in l D dA b M1 a1 0 ((M1 4 (sI a0).toNat) - 1) _ h) (va_cwS 3 hts (z_gS k1083 k1084 k14 k1085) rfl rfl rfl dm_X12_in.2 ⟨Nat.le_of_ble_eq_true rfl, Nat.le_of_ble_eq_true rfl⟩) ⟨wPre_blind, w_pre hS hK⟩ rfl rfl hl.1 rfl (lv_room (Nat.le_of_ble_eq_true rfl)) dX12_inch_23 ⟨Nat.le_refl _, Nat.le_refl _⟩) hS0 (fun z10 M9 H locs r11 h hS hS0 => ?_)
    obtain ⟨e12, h⟩ := h
    rw [e12] at hS
    refine w_if_eq (tgt := 43) hx hb (sI_01 r11) dX12_inch_26 (by decide) (fun c13 => ?_) (fun c13 => ?_)
    · skip
      have h := h.1 c13
      refine z_iconst hx hb dX12_inch_43 ?_
      exact w_iret hx hb hr hlocks hS hS0 (sI_of (by decide)) h dX12_inch_44
    · skip
      have h := h.2 c13
      refine lv_aload_n hx hb dX12_inch_29 rfl (lv_at hl 0 rfl) ?_
      refine w_getr (j2 := 3) hx hb hts (z_memU u12) hown hK.1 hS f12_4 (by decide) (zkd_of (rfl : zcd wR 0 = 50) rfl) (zrf_of (rfl : zcd wR 0 = 50) rfl) (Or.inl (hts _ (z_mem k948))) dX12_inch_30 ?_
      refine z_bipush hx hb (by decide) dX12_inch_33 ?_
      refine lv_iload_n hx hb dX12_inch_35 rfl (lv_at hl 1 rfl) ?_
      refine z_imul hx hb dX12_inch_36 ?_
      refine lv_iload_n hx hb dX12_inch_37 rfl (lv_at hl 2 rfl) ?_
      refine z_iadd hx hb dX12_inch_38 ?_
      obtain ⟨o14, h⟩ := h
      refine w_iald (n := 96) (i := (sI ((24 * a0) + a1))) hx hb hK.1 (t0 := 0) rfl hS (by decide) (zkd_of (rfl : zcd wR 3 = 53) rfl) (zln_of (rfl : zcd wR 3 = 53) rfl) rfl o14.1 o14.2 (by decide) dX12_inch_39 ?_
      refine lv_goto (tgt := 44) hx hb dX12_inch_40 (by decide) ?_
      exact w_iret hx hb hr hlocks hS hS0 rfl h dX12_inch_44

set_option maxRecDepth 100000 in
def wR_wayEarly (a0 : Int) (a1 : Int) (M : zM) (Q : Int → Prop) : Prop := pL4 (fun K12 x1 x2 x3 x4 => ((0 ≤ (sI a0) ∧ (sI a0) < 2) ∧ pJ0 (fun J101 => ((sI (M 11 (sI a0).toNat)) ≤ (sI x4) → J101) ∧ ((sI x4) < (sI (M 11 (sI a0).toNat)) → ((0 ≤ (sI ((12 * a0) + x4)) ∧ (sI ((12 * a0) + x4)) < 24) ∧ ((sL a1) ≤ (sI (M 9 (sI ((12 * a0) + x4)).toNat)) → J101) ∧ ((sI (M 9 (sI ((12 * a0) + x4)).toNat)) < (sL a1) → ((0 ≤ (sI ((12 * a0) + x4)) ∧ (sI ((12 * a0) + x4)) < 24) ∧ (∀ t29 : Int, t29 = (x1 + ((sI x3) * ((sI (M 9 (sI ((12 * a0) + x4)).toNat)) - x2))) → ((0 ≤ (sI ((12 * a0) + x4)) ∧ (sI ((12 * a0) + x4)) < 24) ∧ ((0 ≤ (sI ((12 * a0) + x4)) ∧ (sI ((12 * a0) + x4)) < 24) ∧ K12 t29 (sI (M 9 (sI ((12 * a0) + x4)).toNat)) (M 10 (sI ((12 * a0) + x4)).toNat) (x4 + 1))))))))) (Q (sL (x1 + ((sI x3) * (a1 - x2))))))) 0 0 1 0
set_option maxHeartbeats 4000000 in
set_option maxRecDepth 100000 in
theorem cR_wayEarly (l : Launch) (D : va_G) (dA : Nat → ClassId) (b : Nat) (M : zM) (a0 : Int) (a1 : Int)  (Q : Int → Prop) (h : wR_wayEarly a0 a1 M Q) : Met l yX12_wayEarly (.code yX12_wayEarly cX12_wayEarly 10 (some .long) :: zt) (z_rm 0) (va_Pc [.ref (b + 0), .int (iI a0), .long (iL a1)] (wPre D dA vwCl (z_tys dA) wR nR b M)) (va_Ql (wQl (fun z9 u9 => u9 = M ∧ Q z9)) (zB D dA vwCl wR nR b) (zA nR b)) 0 0 (zA nR b) := by
  unfold wR_wayEarly at h
  refine Met.ofW (cc := cX12_wayEarly) (maxL := 10) (ret := (some .long)) (by decide) rfl ?_
  intro p e s m args below meth c s₁ B hml hv
  obtain ⟨hargs, hS, hK⟩ := hv
  have hx := B.exec
  have hb := B.bytes
  have hr := B.returns
  have hts := atoms_spec (ws := .code yX12_wayEarly cX12_wayEarly 10 (some .long) :: zt) B.pre
  have hown : s.vm.findClass RX12 = some m.cls := findClass_of_methodNamed B.named
  have hlocks := B.notSynchronized
  have hS0 : va_S (zA nR b) s.heap s.heap [] := va_S.rf
  have hl := lv_entry ([.ref (b + 0), .int (iI a0), .long (iL a1)]) (n := 10) (Nat.le_of_ble_eq_true rfl)
  have hent : entryFrame m args 10 = F0 m 0 ((lg_sl ([.ref (b + 0), .int (iI a0), .long (iL a1)]) ++ List.replicate (10 - (lg_sl ([.ref (b + 0), .int (iI a0), .long (iL a1)])).length) Slot.unset).toArray) [] := by rw [hargs]; exact lg_entry_eq m ([.ref (b + 0), .int (iI a0), .long (iL a1)]) 10
  rw [hent]
  generalize (lg_sl ([.ref (b + 0), .int (iI a0), .long (iL a1)]) ++ List.replicate (10 - (lg_sl ([.ref (b + 0), .int (iI a0), .long (iL a1)])).length) Slot.unset).toArray = ls at hl ⊢
  have hl : lv_has ls 10 [(0, .ref (b + 0)), (1, .int (iI a0)), (2, .long (iL a1))] := hl
  refine z_lconst0 hx hb dX12_wayEarly_0 ?_
  refine lv_lstore (lv' := [(4, .long (iL 0)), (0, .ref (b + 0)), (1, .int (iI a0)), (2, .long (iL a1))]) hx hb dX12_wayEarly_1 hl (by decide) rfl (fun ls hl => ?_)
  refine z_lconst0 hx hb dX12_wayEarly_3 ?_
  refine lv_lstore (lv' := [(6, .long (iL 0)), (4, .long (iL 0)), (0, .ref (b + 0)), (1, .int (iI a0)), (2, .long (iL a1))]) hx hb dX12_wayEarly_4 hl (by decide) rfl (fun ls hl => ?_)
  refine z_iconst hx hb dX12_wayEarly_6 ?_
  refine lv_istore (lv' := [(8, .int (iI 1)), (6, .long (iL 0)), (4, .long (iL 0)), (0, .ref (b + 0)), (1, .int (iI a0)), (2, .long (iL a1))]) hx hb dX12_wayEarly_7 hl (by decide) rfl (fun ls hl => ?_)
  refine z_iconst hx hb dX12_wayEarly_9 ?_
  refine lv_istore (lv' := [(9, .int (iI 0)), (8, .int (iI 1)), (6, .long (iL 0)), (4, .long (iL 0)), (0, .ref (b + 0)), (1, .int (iI a0)), (2, .long (iL a1))]) hx hb dX12_wayEarly_10 hl (by decide) rfl (fun ls hl => ?_)
  obtain ⟨I5, ⟨n6, h7⟩, h8⟩ := h
  have L9 : ∀ (n10 : Nat) (x1 x2 x3 x4 : Int) (H : Heap) (locs : List Loc) (ls : Array Slot), I5 n10 x1 x2 x3 x4 → zR D dA vwCl wR nR b M H → va_S (zA nR b) s.heap H locs → lv_has ls 10 [(0, .ref (b + 0)), (1, .int (iI a0)), (2, .long (iL a1)), (4, .long (iL x1)), (6, .long (iL x2)), (8, .int (iI x3)), (9, .int (iI x4))] → W p l e (headSpec (.code yX12_wayEarly cX12_wayEarly 10 (some .long) :: zt) (z_rm 0)).room s m args below meth c H locs 0 0 (MQ below (va_Ql (wQl (fun z9 u9 => u9 = M ∧ Q z9)) (zB D dA vwCl wR nR b) (zA nR b)) args s 0 0 (zA nR b)) (F0 m 12 ls []) := by
    intro n10
    induction n10 using Nat.strongRecOn with
    | ind n10 i11 =>
      intro x1 x2 x3 x4 H locs ls h hS hS0 hl
      have h := h8 n10 x1 x2 x3 x4 h
      refine lv_iload hx hb dX12_wayEarly_12 (lv_at hl 6 rfl) ?_
      refine lv_aload_n hx hb dX12_wayEarly_14 rfl (lv_at hl 0 rfl) ?_
      refine w_getr (j2 := 11) hx hb hts (z_memU u12) hown hK.1 hS f12_13 (by decide) (zkd_of (rfl : zcd wR 0 = 50) rfl) (zrf_of (rfl : zcd wR 0 = 50) rfl) (Or.inl (hts _ (z_mem k957))) dX12_wayEarly_15 ?_
      refine lv_iload_n hx hb dX12_wayEarly_18 rfl (lv_at hl 1 rfl) ?_
      obtain ⟨o12, h⟩ := h
      refine w_iald (n := 2) (i := (sI a0)) hx hb hK.1 (t0 := 0) rfl hS (by decide) (zkd_of (rfl : zcd wR 11 = 61) rfl) (zln_of (rfl : zcd wR 11 = 61) rfl) rfl o12.1 o12.2 (by decide) dX12_wayEarly_19 ?_
      obtain ⟨J101, B24, h⟩ := h
      have L23 : ∀ (H : Heap) (locs : List Loc) (ls : Array Slot), J101 → zR D dA vwCl wR nR b M H → va_S (zA nR b) s.heap H locs → lv_has ls 10 [(2, .long (iL a1)), (4, .long (iL x1)), (6, .long (iL x2)), (8, .int (iI x3))] → W p l e (headSpec (.code yX12_wayEarly cX12_wayEarly 10 (some .long) :: zt) (z_rm 0)).room s m args below meth c H locs 0 0 (MQ below (va_Ql (wQl (fun z9 u9 => u9 = M ∧ Q z9)) (zB D dA vwCl wR nR b) (zA nR b)) args s 0 0 (zA nR b)) (F0 m 101 ls []) := by
        intro  H locs ls h hS hS0 hl
        have h := B24 h
        refine lv_lload hx hb dX12_wayEarly_101 (lv_at hl 1 rfl) ?_
        refine lv_iload hx hb dX12_wayEarly_103 (lv_at hl 3 rfl) ?_
        refine w_i2l hx hb rfl dX12_wayEarly_105 ?_
        refine lv_lload_n hx hb dX12_wayEarly_106 rfl (lv_at hl 0 rfl) ?_
        refine lv_lload hx hb dX12_wayEarly_107 (lv_at hl 2 rfl) ?_
        refine z_lsub hx hb dX12_wayEarly_109 ?_
        refine z_lmul hx hb dX12_wayEarly_110 ?_
        refine z_ladd hx hb dX12_wayEarly_111 ?_
        exact w_lret hx hb hr hlocks hS hS0 rfl ⟨rfl, h⟩ dX12_wayEarly_112
      refine w_icmp_ge (tgt := 101) hx hb rfl rfl dX12_wayEarly_20 (by decide) (fun c25 => ?_) (fun c25 => ?_)
      · skip
        have h := h.1 c25
        exact L23 _ _ _ h hS hS0 (lv_sub hl [2, 3, 4, 5] rfl)
      · skip
        have h := h.2 c25
        refine lv_aload_n hx hb dX12_wayEarly_23 rfl (lv_at hl 0 rfl) ?_
        refine w_getr (j2 := 9) hx hb hts (z_memU u12) hown hK.1 hS f12_11 (by decide) (zkd_of (rfl : zcd wR 0 = 50) rfl) (zrf_of (rfl : zcd wR 0 = 50) rfl) (Or.inl (hts _ (z_mem k955))) dX12_wayEarly_24 ?_
        refine z_bipush hx hb (by decide) dX12_wayEarly_27 ?_
        refine lv_iload_n hx hb dX12_wayEarly_29 rfl (lv_at hl 1 rfl) ?_
        refine z_imul hx hb dX12_wayEarly_30 ?_
        refine lv_iload hx hb dX12_wayEarly_31 (lv_at hl 6 rfl) ?_
        refine z_iadd hx hb dX12_wayEarly_33 ?_
        obtain ⟨o26, h⟩ := h
        refine w_iald (n := 24) (i := (sI ((12 * a0) + x4))) hx hb hK.1 (t0 := 0) rfl hS (by decide) (zkd_of (rfl : zcd wR 9 = 59) rfl) (zln_of (rfl : zcd wR 9 = 59) rfl) rfl o26.1 o26.2 (by decide) dX12_wayEarly_34 ?_
        refine w_i2l hx hb rfl dX12_wayEarly_35 ?_
        refine lv_lload_n hx hb dX12_wayEarly_36 rfl (lv_at hl 2 rfl) ?_
        refine w_lcmp_ge hx hb (sL_ofI rfl) rfl dX12_wayEarly_37 dX12_wayEarly_38 (tgt := 101) (by decide) (fun c27 => ?_) (fun c27 => ?_)
        · skip
          have h := h.1 c27
          exact L23 _ _ _ h hS hS0 (lv_sub hl [2, 3, 4, 5] rfl)
        · skip
          have h := h.2 c27
          refine lv_lload hx hb dX12_wayEarly_41 (lv_at hl 3 rfl) ?_
          refine lv_iload hx hb dX12_wayEarly_43 (lv_at hl 5 rfl) ?_
          refine w_i2l hx hb rfl dX12_wayEarly_45 ?_
          refine lv_aload_n hx hb dX12_wayEarly_46 rfl (lv_at hl 0 rfl) ?_
          refine w_getr (j2 := 9) hx hb hts (z_memU u12) hown hK.1 hS f12_11 (by decide) (zkd_of (rfl : zcd wR 0 = 50) rfl) (zrf_of (rfl : zcd wR 0 = 50) rfl) (Or.inl (hts _ (z_mem k955))) dX12_wayEarly_47 ?_
          refine z_bipush hx hb (by decide) dX12_wayEarly_50 ?_
          refine lv_iload_n hx hb dX12_wayEarly_52 rfl (lv_at hl 1 rfl) ?_
          refine z_imul hx hb dX12_wayEarly_53 ?_
          refine lv_iload hx hb dX12_wayEarly_54 (lv_at hl 6 rfl) ?_
          refine z_iadd hx hb dX12_wayEarly_56 ?_
          obtain ⟨o28, h⟩ := h
          refine w_iald (n := 24) (i := (sI ((12 * a0) + x4))) hx hb hK.1 (t0 := 0) rfl hS (by decide) (zkd_of (rfl : zcd wR 9 = 59) rfl) (zln_of (rfl : zcd wR 9 = 59) rfl) rfl o28.1 o28.2 (by decide) dX12_wayEarly_57 ?_
          refine w_i2l hx hb rfl dX12_wayEarly_58 ?_
          refine lv_lload hx hb dX12_wayEarly_59 (lv_at hl 4 rfl) ?_
          refine z_lsub hx hb dX12_wayEarly_61 ?_
          refine z_lmul hx hb dX12_wayEarly_62 ?_
          refine z_ladd hx hb dX12_wayEarly_63 ?_
          obtain ⟨t29, e30⟩ : ∃ t29 : Int, t29 = (x1 + ((sI x3) * ((sI (M 9 (sI ((12 * a0) + x4)).toNat)) - x2))) := ⟨_, rfl⟩
          refine z_topl (y := t29) e30.symm ?_
          have h := h t29 e30
          refine lv_lstore (lv' := [(4, .long (iL t29)), (0, .ref (b + 0)), (1, .int (iI a0)), (2, .long (iL a1)), (6, .long (iL x2)), (8, .int (iI x3)), (9, .int (iI x4))]) hx hb dX12_wayEarly_64 hl (by decide) rfl (fun ls hl => ?_)
          refine lv_aload_n hx hb dX12_wayEarly_66 rfl (lv_at hl 1 rfl) ?_
          refine w_getr (j2 := 9) hx hb hts (z_memU u12) hown hK.1 hS f12_11 (by decide) (zkd_of (rfl : zcd wR 0 = 50) rfl) (zrf_of (rfl : zcd wR 0 = 50) rfl) (Or.inl (hts _ (z_mem k955))) dX12_wayEarly_67 ?_
          refine z_bipush hx hb (by decide) dX12_wayEarly_70 ?_
          refine lv_iload_n hx hb dX12_wayEarly_72 rfl (lv_at hl 2 rfl) ?_
          refine z_imul hx hb dX12_wayEarly_73 ?_
          refine lv_iload hx hb dX12_wayEarly_74 (lv_at hl 6 rfl) ?_
          refine z_iadd hx hb dX12_wayEarly_76 ?_
          obtain ⟨o31, h⟩ := h
          refine w_iald (n := 24) (i := (sI ((12 * a0) + x4))) hx hb hK.1 (t0 := 0) rfl hS (by decide) (zkd_of (rfl : zcd wR 9 = 59) rfl) (zln_of (rfl : zcd wR 9 = 59) rfl) rfl o31.1 o31.2 (by decide) dX12_wayEarly_77 ?_
          refine w_i2l hx hb rfl dX12_wayEarly_78 ?_
          refine lv_lstore (lv' := [(6, .long (iL (sI (M 9 (sI ((12 * a0) + x4)).toNat)))), (4, .long (iL t29)), (0, .ref (b + 0)), (1, .int (iI a0)), (2, .long (iL a1)), (8, .int (iI x3)), (9, .int (iI x4))]) hx hb dX12_wayEarly_79 hl (by decide) rfl (fun ls hl => ?_)
          refine lv_aload_n hx hb dX12_wayEarly_81 rfl (lv_at hl 2 rfl) ?_
          refine w_getr (j2 := 10) hx hb hts (z_memU u12) hown hK.1 hS f12_12 (by decide) (zkd_of (rfl : zcd wR 0 = 50) rfl) (zrf_of (rfl : zcd wR 0 = 50) rfl) (Or.inl (hts _ (z_mem k956))) dX12_wayEarly_82 ?_
          refine z_bipush hx hb (by decide) dX12_wayEarly_85 ?_
          refine lv_iload_n hx hb dX12_wayEarly_87 rfl (lv_at hl 3 rfl) ?_
          refine z_imul hx hb dX12_wayEarly_88 ?_
          refine lv_iload hx hb dX12_wayEarly_89 (lv_at hl 6 rfl) ?_
          refine z_iadd hx hb dX12_wayEarly_91 ?_
          obtain ⟨o32, h⟩ := h
          refine w_iald (n := 24) (i := (sI ((12 * a0) + x4))) hx hb hK.1 (t0 := 0) rfl hS (by decide) (zkd_of (rfl : zcd wR 10 = 60) rfl) (zln_of (rfl : zcd wR 10 = 60) rfl) rfl o32.1 o32.2 (by decide) dX12_wayEarly_92 ?_
          refine lv_istore (lv' := [(8, .int (iI (M 10 (sI ((12 * a0) + x4)).toNat))), (6, .long (iL (sI (M 9 (sI ((12 * a0) + x4)).toNat)))), (4, .long (iL t29)), (0, .ref (b + 0)), (1, .int (iI a0)), (2, .long (iL a1)), (9, .int (iI x4))]) hx hb dX12_wayEarly_93 hl (by decide) rfl (fun ls hl => ?_)
          refine z_iinc (lv' := [(9, .int (iI (x4 + 1))), (8, .int (iI (M 10 (sI ((12 * a0) + x4)).toNat))), (6, .long (iL (sI (M 9 (sI ((12 * a0) + x4)).toNat)))), (4, .long (iL t29)), (0, .ref (b + 0)), (1, .int (iI a0)), (2, .long (iL a1))]) hx hb dX12_wayEarly_95 hl (k := 6) rfl (by decide) rfl (fun ls hl => ?_)
          refine lv_goto (tgt := 12) hx hb dX12_wayEarly_98 (by decide) ?_
          obtain ⟨n33, h34, h⟩ := h
          exact i11 n33 h34 t29 (sI (M 9 (sI ((12 * a0) + x4)).toNat)) (M 10 (sI ((12 * a0) + x4)).toNat) (x4 + 1) _ _ _ h hS hS0 (lv_sub hl [4, 5, 6, 3, 2, 1, 0] rfl)
  exact L9 n6 0 0 1 0 _ _ _ h7 hS hS0 (lv_sub hl [4, 5, 6, 3, 2, 1, 0] rfl)

set_option maxRecDepth 100000 in
def wR_way (a0 : Int) (a1 : Int) (M : zM) (Q : Int → zM → Prop) : Prop := (∀ M1 : zM, M1 = zup M 0 35 0 → wR_isMotor a0 M1 (fun z4 => (z4 = 0 → (∀ M8 : zM, M8 = zup M1 0 35 1 → Q 0 M8)) ∧ (z4 ≠ 0 → wR_in a1 0 1000000000 M1 (fun z11 => (z11 ≠ 0 → wR_wayEarly a0 (sI a1) M1 (fun z16 => Q z16 M1)) ∧ (z11 = 0 → (∀ M19 : zM, M19 = zup M1 0 35 1 → Q 0 M19))))))
set_option maxHeartbeats 4000000 in
set_option maxRecDepth 100000 in
theorem cR_way (l : Launch) (D : va_G) (dA : Nat → ClassId) (b : Nat) (M : zM) (a0 : Int) (a1 : Int)  (Q : Int → zM → Prop) (h : wR_way a0 a1 M Q) : Met l yX12_way (.code yX12_way cX12_way 3 (some .long) :: zt) (z_rm 1) (va_Pc [.ref (b + 0), .int (iI a0), .int (iI a1)] (wPre D dA vwCl (z_tys dA) wR nR b M)) (va_Ql (wQl Q) (zB D dA vwCl wR nR b) (zA nR b)) 0 0 (zA nR b) := by
  unfold wR_way at h
  refine Met.ofW (cc := cX12_way) (maxL := 3) (ret := (some .long)) (by decide) rfl ?_
  intro p e s m args below meth c s₁ B hml hv
  obtain ⟨hargs, hS, hK⟩ := hv
  have hx := B.exec
  have hb := B.bytes
  have hr := B.returns
  have hts := atoms_spec (ws := .code yX12_way cX12_way 3 (some .long) :: zt) B.pre
  have hown : s.vm.findClass RX12 = some m.cls := findClass_of_methodNamed B.named
  have hlocks := B.notSynchronized
  have hS0 : va_S (zA nR b) s.heap s.heap [] := va_S.rf
  have hl := lv_entry ([.ref (b + 0), .int (iI a0), .int (iI a1)]) (n := 3) (Nat.le_of_ble_eq_true rfl)
  have hent : entryFrame m args 3 = F0 m 0 ((lg_sl ([.ref (b + 0), .int (iI a0), .int (iI a1)]) ++ List.replicate (3 - (lg_sl ([.ref (b + 0), .int (iI a0), .int (iI a1)])).length) Slot.unset).toArray) [] := by rw [hargs]; exact lg_entry_eq m ([.ref (b + 0), .int (iI a0), .int (iI a1)]) 3
  rw [hent]
  generalize (lg_sl ([.ref (b + 0), .int (iI a0), .int (iI a1)]) ++ List.replicate (3 - (lg_sl ([.ref (b + 0), .int (iI a0), .int (iI a1)])).length) Slot.unset).toArray = ls at hl ⊢
  have hl : lv_has ls 3 [(0, .ref (b + 0)), (1, .int (iI a0)), (2, .int (iI a1))] := hl
  refine lv_aload_n hx hb dX12_way_0 rfl (lv_at hl 0 rfl) ?_
  refine z_iconst hx hb dX12_way_1 ?_
  refine w_puti hx hb hts (z_memU u12) tyX12 tyX12_ok nmX12 hown hK.1 hS hS0 f12_35 (by decide) (zkd_of (rfl : zcd wR 0 = 50) rfl) (Or.inl (hts _ (z_mem k979))) rfl (z := 0) (by decide +kernel) dX12_way_2 (fun H locs hS hS0 => ?_)
  obtain ⟨M1, e2⟩ : ∃ M1 : zM, M1 = zup M 0 35 0 := ⟨_, rfl⟩
  rw [← e2] at hS
  have h := h M1 e2
  refine lv_iload_n hx hb dX12_way_5 rfl (lv_at hl 1 rfl) ?_
  refine w_callz (va_runS (As := [.int (iI a0)]) (rest := []) ⟨hx, hb, hml, hown, hts⟩ (cR_isMotor l D dA b M1 a0 _ h) (va_cwS 1 hts (z_gS k1090 k1091 k14 k1092) rfl rfl rfl dm_X12_isMotor.2 ⟨Nat.le_of_ble_eq_true rfl, Nat.le_of_ble_eq_true rfl⟩) ⟨wPre_blind, w_pre hS hK⟩ rfl rfl hl.1 rfl (lv_room (Nat.le_of_ble_eq_true rfl)) dX12_way_6 ⟨Nat.le_refl _, Nat.le_refl _⟩) hS0 (fun z4 M3 H locs r5 h hS hS0 => ?_)
  obtain ⟨e6, h⟩ := h
  rw [e6] at hS
  refine w_if_eq (tgt := 22) hx hb (sI_01 r5) dX12_way_9 (by decide) (fun c7 => ?_) (fun c7 => ?_)
  · skip
    have h := h.1 c7
    refine lv_aload_n hx hb dX12_way_22 rfl (lv_at hl 0 rfl) ?_
    refine z_iconst hx hb dX12_way_23 ?_
    refine w_puti hx hb hts (z_memU u12) tyX12 tyX12_ok nmX12 hown hK.1 hS hS0 f12_35 (by decide) (zkd_of (rfl : zcd wR 0 = 50) rfl) (Or.inl (hts _ (z_mem k979))) rfl (z := 1) (by decide +kernel) dX12_way_24 (fun H locs hS hS0 => ?_)
    obtain ⟨M8, e9⟩ : ∃ M8 : zM, M8 = zup M1 0 35 1 := ⟨_, rfl⟩
    rw [← e9] at hS
    have h := h M8 e9
    refine z_lconst0 hx hb dX12_way_27 ?_
    exact w_lret hx hb hr hlocks hS hS0 (sL_of (by decide)) h dX12_way_28
  · skip
    have h := h.2 c7
    refine lv_iload_n hx hb dX12_way_12 rfl (lv_at hl 2 rfl) ?_
    refine z_iconst hx hb dX12_way_13 ?_
    refine z_ldc (n := 1000000000) hx hb hown (hts _ (z_mem k1143)) (by decide) dX12_way_14 ?_
    refine w_callz (va_runS (As := [.int (iI a1), .int (iI 0), .int (iI 1000000000)]) (rest := []) ⟨hx, hb, hml, hown, hts⟩ (cR_in l D dA b M1 a1 0 1000000000 _ h) (va_cwS 3 hts (z_gS k1083 k1084 k14 k1085) rfl rfl rfl dm_X12_in.2 ⟨Nat.le_of_ble_eq_true rfl, Nat.le_of_ble_eq_true rfl⟩) ⟨wPre_blind, w_pre hS hK⟩ rfl rfl hl.1 rfl (lv_room (Nat.le_of_ble_eq_true rfl)) dX12_way_16 ⟨Nat.le_refl _, Nat.le_refl _⟩) hS0 (fun z11 M10 H locs r12 h hS hS0 => ?_)
    obtain ⟨e13, h⟩ := h
    rw [e13] at hS
    refine w_if_ne (tgt := 29) hx hb (sI_01 r12) dX12_way_19 (by decide) (fun c14 => ?_) (fun c14 => ?_)
    · skip
      have h := h.1 c14
      refine lv_aload_n hx hb dX12_way_29 rfl (lv_at hl 0 rfl) ?_
      refine lv_iload_n hx hb dX12_way_30 rfl (lv_at hl 1 rfl) ?_
      refine lv_iload_n hx hb dX12_way_31 rfl (lv_at hl 2 rfl) ?_
      refine w_i2l hx hb rfl dX12_way_32 ?_
      refine w_calll (va_runV (As := [.int (iI a0), .long (iL (sI a1))]) (rest := []) ⟨hx, hb, hml, hown, hts⟩ (cR_wayEarly l D dA b M1 a0 (sI a1) _ h) (cwV 2 hts (z_gV k1144 k1145 k1400 k14 k1146) rfl rfl rfl dm_X12_wayEarly ⟨Nat.le_of_ble_eq_true rfl, Nat.le_of_ble_eq_true rfl⟩) ⟨wPre_blind, (w_recv hS hK.1 (by decide) (zkd_of (rfl : zcd wR 0 = 50) rfl) (by decide) (rfl : vwCl[12]? = some (RX12, TX12, 50))), w_pre hS hK⟩ rfl rfl hl.1 rfl (lv_room (Nat.le_of_ble_eq_true rfl)) dX12_way_33 ⟨Nat.le_refl _, Nat.le_refl _⟩) hS0 (fun z16 M15 H locs r17 h hS hS0 => ?_)
      obtain ⟨e18, h⟩ := h
      rw [e18] at hS
      exact w_lret hx hb hr hlocks hS hS0 (sL_of r17) h dX12_way_36
    · skip
      have h := h.2 c14
      refine lv_aload_n hx hb dX12_way_22 rfl (lv_at hl 0 rfl) ?_
      refine z_iconst hx hb dX12_way_23 ?_
      refine w_puti hx hb hts (z_memU u12) tyX12 tyX12_ok nmX12 hown hK.1 hS hS0 f12_35 (by decide) (zkd_of (rfl : zcd wR 0 = 50) rfl) (Or.inl (hts _ (z_mem k979))) rfl (z := 1) (by decide +kernel) dX12_way_24 (fun H locs hS hS0 => ?_)
      obtain ⟨M19, e20⟩ : ∃ M19 : zM, M19 = zup M1 0 35 1 := ⟨_, rfl⟩
      rw [← e20] at hS
      have h := h M19 e20
      refine z_lconst0 hx hb dX12_way_27 ?_
      exact w_lret hx hb hr hlocks hS hS0 (sL_of (by decide)) h dX12_way_28

set_option maxRecDepth 100000 in
def wR_wayBy (a0 : Int) (a1 : Int) (a2 : Int) (M : zM) (Q : Int → Prop) : Prop := wR_steady a0 M (fun z2 => (z2 < (sL a1) → (((sI a2) ≠ 0) ∧ wR_lastSpeed a0 M (fun z8 => wR_wayEarly a0 z2 M (fun z12 => ((0 < (sI a2)) ∧ Q (sI ((sL (z12 + (((sL (a1 - z2)).tmod (sI a2)) * z8))) % (sI a2)))))))) ∧ ((sL a1) ≤ z2 → wR_wayEarly a0 a1 M (fun z17 => ((0 < (sI a2)) ∧ Q (sI (z17 % (sI a2)))))))
set_option maxHeartbeats 4000000 in
set_option maxRecDepth 100000 in
theorem cR_wayBy (l : Launch) (D : va_G) (dA : Nat → ClassId) (b : Nat) (M : zM) (a0 : Int) (a1 : Int) (a2 : Int)  (Q : Int → Prop) (h : wR_wayBy a0 a1 a2 M Q) : Met l yX12_wayBy (.code yX12_wayBy cX12_wayBy 9 (some .int) :: zt) (z_rm 1) (va_Pc [.ref (b + 0), .int (iI a0), .long (iL a1), .int (iI a2)] (wPre D dA vwCl (z_tys dA) wR nR b M)) (va_Qi (wQi (fun z9 u9 => u9 = M ∧ Q z9)) (zB D dA vwCl wR nR b) (zA nR b)) 0 0 (zA nR b) := by
  unfold wR_wayBy at h
  refine Met.ofW (cc := cX12_wayBy) (maxL := 9) (ret := (some .int)) (by decide) rfl ?_
  intro p e s m args below meth c s₁ B hml hv
  obtain ⟨hargs, hS, hK⟩ := hv
  have hx := B.exec
  have hb := B.bytes
  have hr := B.returns
  have hts := atoms_spec (ws := .code yX12_wayBy cX12_wayBy 9 (some .int) :: zt) B.pre
  have hown : s.vm.findClass RX12 = some m.cls := findClass_of_methodNamed B.named
  have hlocks := B.notSynchronized
  have hS0 : va_S (zA nR b) s.heap s.heap [] := va_S.rf
  have hl := lv_entry ([.ref (b + 0), .int (iI a0), .long (iL a1), .int (iI a2)]) (n := 9) (Nat.le_of_ble_eq_true rfl)
  have hent : entryFrame m args 9 = F0 m 0 ((lg_sl ([.ref (b + 0), .int (iI a0), .long (iL a1), .int (iI a2)]) ++ List.replicate (9 - (lg_sl ([.ref (b + 0), .int (iI a0), .long (iL a1), .int (iI a2)])).length) Slot.unset).toArray) [] := by rw [hargs]; exact lg_entry_eq m ([.ref (b + 0), .int (iI a0), .long (iL a1), .int (iI a2)]) 9
  rw [hent]
  generalize (lg_sl ([.ref (b + 0), .int (iI a0), .long (iL a1), .int (iI a2)]) ++ List.replicate (9 - (lg_sl ([.ref (b + 0), .int (iI a0), .long (iL a1), .int (iI a2)])).length) Slot.unset).toArray = ls at hl ⊢
  have hl : lv_has ls 9 [(0, .ref (b + 0)), (1, .int (iI a0)), (2, .long (iL a1)), (4, .int (iI a2))] := hl
  refine lv_aload_n hx hb dX12_wayBy_0 rfl (lv_at hl 0 rfl) ?_
  refine lv_iload_n hx hb dX12_wayBy_1 rfl (lv_at hl 1 rfl) ?_
  refine w_calli (va_runV (As := [.int (iI a0)]) (rest := []) ⟨hx, hb, hml, hown, hts⟩ (cR_steady l D dA b M a0 _ h) (cwV 1 hts (z_gV k1160 k1161 k1404 k14 k1162) rfl rfl rfl dm_X12_steady ⟨Nat.le_of_ble_eq_true rfl, Nat.le_of_ble_eq_true rfl⟩) ⟨wPre_blind, (w_recv hS hK.1 (by decide) (zkd_of (rfl : zcd wR 0 = 50) rfl) (by decide) (rfl : vwCl[12]? = some (RX12, TX12, 50))), w_pre hS hK⟩ rfl rfl hl.1 rfl (lv_room (Nat.le_of_ble_eq_true rfl)) dX12_wayBy_2 ⟨Nat.le_refl _, Nat.le_refl _⟩) hS0 (fun z2 M1 H locs r3 h hS hS0 => ?_)
  obtain ⟨e4, h⟩ := h
  rw [e4] at hS
  refine w_i2l hx hb (sI_of r3) dX12_wayBy_5 ?_
  refine lv_lstore (lv' := [(5, .long (iL z2)), (0, .ref (b + 0)), (1, .int (iI a0)), (2, .long (iL a1)), (4, .int (iI a2))]) hx hb dX12_wayBy_6 hl (by decide) rfl (fun ls hl => ?_)
  refine lv_lload_n hx hb dX12_wayBy_8 rfl (lv_at hl 3 rfl) ?_
  refine lv_lload hx hb dX12_wayBy_9 (lv_at hl 0 rfl) ?_
  refine w_lcmp_gt hx hb rfl (sL_ofI (sI_of r3)) dX12_wayBy_11 dX12_wayBy_12 (tgt := 29) (by decide) (fun c5 => ?_) (fun c5 => ?_)
  · skip
    have h := h.1 c5
    refine lv_lload_n hx hb dX12_wayBy_29 rfl (lv_at hl 3 rfl) ?_
    refine lv_lload hx hb dX12_wayBy_30 (lv_at hl 0 rfl) ?_
    refine z_lsub hx hb dX12_wayBy_32 ?_
    refine lv_iload hx hb dX12_wayBy_33 (lv_at hl 4 rfl) ?_
    refine w_i2l hx hb rfl dX12_wayBy_35 ?_
    obtain ⟨o6, h⟩ := h
    refine w_lrem hx hb rfl (sL_ofI rfl) o6 dX12_wayBy_36 ?_
    refine lv_aload_n hx hb dX12_wayBy_37 rfl (lv_at hl 1 rfl) ?_
    refine lv_iload_n hx hb dX12_wayBy_38 rfl (lv_at hl 2 rfl) ?_
    refine w_calli (va_runV (As := [.int (iI a0)]) (rest := [.long (iL ((sL (a1 - z2)).tmod (sI a2)))]) ⟨hx, hb, hml, hown, hts⟩ (cR_lastSpeed l D dA b M a0 _ h) (cwV 1 hts (z_gV k1128 k1129 k1399 k14 k1130) rfl rfl rfl dm_X12_lastSpeed ⟨Nat.le_of_ble_eq_true rfl, Nat.le_of_ble_eq_true rfl⟩) ⟨wPre_blind, (w_recv hS hK.1 (by decide) (zkd_of (rfl : zcd wR 0 = 50) rfl) (by decide) (rfl : vwCl[12]? = some (RX12, TX12, 50))), w_pre hS hK⟩ rfl rfl hl.1 rfl (lv_room (Nat.le_of_ble_eq_true rfl)) dX12_wayBy_39 ⟨Nat.le_refl _, Nat.le_refl _⟩) hS0 (fun z8 M7 H locs r9 h hS hS0 => ?_)
    obtain ⟨e10, h⟩ := h
    rw [e10] at hS
    refine w_i2l hx hb (sI_of r9) dX12_wayBy_42 ?_
    refine z_lmul hx hb dX12_wayBy_43 ?_
    refine lv_lstore (lv' := [(7, .long (iL (((sL (a1 - z2)).tmod (sI a2)) * z8))), (5, .long (iL z2)), (0, .ref (b + 0)), (1, .int (iI a0)), (2, .long (iL a1)), (4, .int (iI a2))]) hx hb dX12_wayBy_44 hl (by decide) rfl (fun ls hl => ?_)
    refine lv_aload_n hx hb dX12_wayBy_46 rfl (lv_at hl 2 rfl) ?_
    refine lv_iload_n hx hb dX12_wayBy_47 rfl (lv_at hl 3 rfl) ?_
    refine lv_lload hx hb dX12_wayBy_48 (lv_at hl 1 rfl) ?_
    refine w_calll (va_runV (As := [.int (iI a0), .long (iL z2)]) (rest := []) ⟨hx, hb, hml, hown, hts⟩ (cR_wayEarly l D dA b M a0 z2 _ h) (cwV 2 hts (z_gV k1144 k1145 k1400 k14 k1146) rfl rfl rfl dm_X12_wayEarly ⟨Nat.le_of_ble_eq_true rfl, Nat.le_of_ble_eq_true rfl⟩) ⟨wPre_blind, (w_recv hS hK.1 (by decide) (zkd_of (rfl : zcd wR 0 = 50) rfl) (by decide) (rfl : vwCl[12]? = some (RX12, TX12, 50))), w_pre hS hK⟩ rfl rfl hl.1 rfl (lv_room (Nat.le_of_ble_eq_true rfl)) dX12_wayBy_50 ⟨Nat.le_refl _, Nat.le_refl _⟩) hS0 (fun z12 M11 H locs r13 h hS hS0 => ?_)
    obtain ⟨e14, h⟩ := h
    rw [e14] at hS
    refine lv_lload hx hb dX12_wayBy_53 (lv_at hl 0 rfl) ?_
    refine z_ladd hx hb dX12_wayBy_55 ?_
    refine lv_iload hx hb dX12_wayBy_56 (lv_at hl 5 rfl) ?_
    refine w_i2l hx hb rfl dX12_wayBy_58 ?_
    obtain ⟨o15, h⟩ := h
    refine w_fmod hx hb (hml.trans hl.1.symm) hown (hts _ (z_mem k1163)) (hts _ (z_mem k1164)) (hts _ (z_mem k15)) (hts _ (z_mem k1165)) (by exact Nat.le_of_ble_eq_true rfl) (by exact Nat.le_of_ble_eq_true rfl) (by exact Nat.le_refl _) (by exact Nat.le_refl _) rfl (sL_ofI rfl) o15 dX12_wayBy_59 ?_
    refine z_l2i hx hb dX12_wayBy_62 ?_
    exact w_iret hx hb hr hlocks hS hS0 rfl ⟨rfl, h⟩ dX12_wayBy_63
  · skip
    have h := h.2 c5
    refine lv_aload_n hx hb dX12_wayBy_15 rfl (lv_at hl 1 rfl) ?_
    refine lv_iload_n hx hb dX12_wayBy_16 rfl (lv_at hl 2 rfl) ?_
    refine lv_lload_n hx hb dX12_wayBy_17 rfl (lv_at hl 3 rfl) ?_
    refine w_calll (va_runV (As := [.int (iI a0), .long (iL a1)]) (rest := []) ⟨hx, hb, hml, hown, hts⟩ (cR_wayEarly l D dA b M a0 a1 _ h) (cwV 2 hts (z_gV k1144 k1145 k1400 k14 k1146) rfl rfl rfl dm_X12_wayEarly ⟨Nat.le_of_ble_eq_true rfl, Nat.le_of_ble_eq_true rfl⟩) ⟨wPre_blind, (w_recv hS hK.1 (by decide) (zkd_of (rfl : zcd wR 0 = 50) rfl) (by decide) (rfl : vwCl[12]? = some (RX12, TX12, 50))), w_pre hS hK⟩ rfl rfl hl.1 rfl (lv_room (Nat.le_of_ble_eq_true rfl)) dX12_wayBy_18 ⟨Nat.le_refl _, Nat.le_refl _⟩) hS0 (fun z17 M16 H locs r18 h hS hS0 => ?_)
    obtain ⟨e19, h⟩ := h
    rw [e19] at hS
    refine lv_iload hx hb dX12_wayBy_21 (lv_at hl 4 rfl) ?_
    refine w_i2l hx hb rfl dX12_wayBy_23 ?_
    obtain ⟨o20, h⟩ := h
    refine w_fmod hx hb (hml.trans hl.1.symm) hown (hts _ (z_mem k1163)) (hts _ (z_mem k1164)) (hts _ (z_mem k15)) (hts _ (z_mem k1165)) (by exact Nat.le_of_ble_eq_true rfl) (by exact Nat.le_of_ble_eq_true rfl) (by exact Nat.le_refl _) (by exact Nat.le_refl _) (sL_of r18) (sL_ofI rfl) o20 dX12_wayBy_24 ?_
    refine z_l2i hx hb dX12_wayBy_27 ?_
    exact w_iret hx hb hr hlocks hS hS0 rfl ⟨rfl, h⟩ dX12_wayBy_28

set_option maxRecDepth 100000 in
def wR_heardAt (a0 : Int) (a1 : Int) (M : zM) (Q : Int → Prop) : Prop := pL2 (fun K5 x1 x2 => (24 ≤ (sI x2) → Q (sI x1)) ∧ ((sI x2) < 24 → ((0 ≤ (sI a0) ∧ (sI a0) < 4) ∧ ((andI (shrI (M 7 (sI a0).toNat) x2) 1) ≠ 1 → K5 x1 (x2 + 1)) ∧ ((andI (shrI (M 7 (sI a0).toNat) x2) 1) = 1 → ((0 ≤ (sI a0) ∧ (sI a0) < 4) ∧ (((sI (M 4 (sI a0).toNat)) ≠ 0) ∧ ((0 ≤ (sI ((24 * a0) + ((sI (a1 + x2)).tmod (sI (M 4 (sI a0).toNat))))) ∧ (sI ((24 * a0) + ((sI (a1 + x2)).tmod (sI (M 4 (sI a0).toNat))))) < 96) ∧ (∀ t18 : Int, t18 = (orI x1 (M 3 (sI ((24 * a0) + ((sI (a1 + x2)).tmod (sI (M 4 (sI a0).toNat))))).toNat)) → K5 t18 (x2 + 1))))))))) 0 0
set_option maxHeartbeats 4000000 in
set_option maxRecDepth 100000 in
theorem cR_heardAt (l : Launch) (D : va_G) (dA : Nat → ClassId) (b : Nat) (M : zM) (a0 : Int) (a1 : Int)  (Q : Int → Prop) (h : wR_heardAt a0 a1 M Q) : Met l yX12_heardAt (.code yX12_heardAt cX12_heardAt 5 (some .int) :: zt) (z_rm 0) (va_Pc [.ref (b + 0), .int (iI a0), .int (iI a1)] (wPre D dA vwCl (z_tys dA) wR nR b M)) (va_Qi (wQi (fun z9 u9 => u9 = M ∧ Q z9)) (zB D dA vwCl wR nR b) (zA nR b)) 0 0 (zA nR b) := by
  unfold wR_heardAt at h
  refine Met.ofW (cc := cX12_heardAt) (maxL := 5) (ret := (some .int)) (by decide) rfl ?_
  intro p e s m args below meth c s₁ B hml hv
  obtain ⟨hargs, hS, hK⟩ := hv
  have hx := B.exec
  have hb := B.bytes
  have hr := B.returns
  have hts := atoms_spec (ws := .code yX12_heardAt cX12_heardAt 5 (some .int) :: zt) B.pre
  have hown : s.vm.findClass RX12 = some m.cls := findClass_of_methodNamed B.named
  have hlocks := B.notSynchronized
  have hS0 : va_S (zA nR b) s.heap s.heap [] := va_S.rf
  have hl := lv_entry ([.ref (b + 0), .int (iI a0), .int (iI a1)]) (n := 5) (Nat.le_of_ble_eq_true rfl)
  have hent : entryFrame m args 5 = F0 m 0 ((lg_sl ([.ref (b + 0), .int (iI a0), .int (iI a1)]) ++ List.replicate (5 - (lg_sl ([.ref (b + 0), .int (iI a0), .int (iI a1)])).length) Slot.unset).toArray) [] := by rw [hargs]; exact lg_entry_eq m ([.ref (b + 0), .int (iI a0), .int (iI a1)]) 5
  rw [hent]
  generalize (lg_sl ([.ref (b + 0), .int (iI a0), .int (iI a1)]) ++ List.replicate (5 - (lg_sl ([.ref (b + 0), .int (iI a0), .int (iI a1)])).length) Slot.unset).toArray = ls at hl ⊢
  have hl : lv_has ls 5 [(0, .ref (b + 0)), (1, .int (iI a0)), (2, .int (iI a1))] := hl
  refine z_iconst hx hb dX12_heardAt_0 ?_
  refine lv_istore_n (lv' := [(3, .int (iI 0)), (0, .ref (b + 0)), (1, .int (iI a0)), (2, .int (iI a1))]) hx hb dX12_heardAt_1 rfl hl (by decide) rfl (fun ls hl => ?_)
  refine z_iconst hx hb dX12_heardAt_2 ?_
  refine lv_istore (lv' := [(4, .int (iI 0)), (3, .int (iI 0)), (0, .ref (b + 0)), (1, .int (iI a0)), (2, .int (iI a1))]) hx hb dX12_heardAt_3 hl (by decide) rfl (fun ls hl => ?_)
  obtain ⟨I3, ⟨n4, h5⟩, h6⟩ := h
  have L7 : ∀ (n8 : Nat) (x1 x2 : Int) (H : Heap) (locs : List Loc) (ls : Array Slot), I3 n8 x1 x2 → zR D dA vwCl wR nR b M H → va_S (zA nR b) s.heap H locs → lv_has ls 5 [(0, .ref (b + 0)), (1, .int (iI a0)), (2, .int (iI a1)), (3, .int (iI x1)), (4, .int (iI x2))] → W p l e (headSpec (.code yX12_heardAt cX12_heardAt 5 (some .int) :: zt) (z_rm 0)).room s m args below meth c H locs 0 0 (MQ below (va_Qi (wQi (fun z9 u9 => u9 = M ∧ Q z9)) (zB D dA vwCl wR nR b) (zA nR b)) args s 0 0 (zA nR b)) (F0 m 5 ls []) := by
    intro n8
    induction n8 using Nat.strongRecOn with
    | ind n8 i9 =>
      intro x1 x2 H locs ls h hS hS0 hl
      have h := h6 n8 x1 x2 h
      refine lv_iload hx hb dX12_heardAt_5 (lv_at hl 4 rfl) ?_
      refine z_bipush hx hb (by decide) dX12_heardAt_7 ?_
      refine w_icmp_ge (tgt := 57) hx hb rfl (sI_of (by decide)) dX12_heardAt_9 (by decide) (fun c10 => ?_) (fun c10 => ?_)
      · skip
        have h := h.1 c10
        refine lv_iload_n hx hb dX12_heardAt_57 rfl (lv_at hl 3 rfl) ?_
        exact w_iret hx hb hr hlocks hS hS0 rfl ⟨rfl, h⟩ dX12_heardAt_58
      · skip
        have h := h.2 c10
        refine lv_aload_n hx hb dX12_heardAt_12 rfl (lv_at hl 0 rfl) ?_
        refine w_getr (j2 := 7) hx hb hts (z_memU u12) hown hK.1 hS f12_8 (by decide) (zkd_of (rfl : zcd wR 0 = 50) rfl) (zrf_of (rfl : zcd wR 0 = 50) rfl) (Or.inl (hts _ (z_mem k952))) dX12_heardAt_13 ?_
        refine lv_iload_n hx hb dX12_heardAt_16 rfl (lv_at hl 1 rfl) ?_
        obtain ⟨o11, h⟩ := h
        refine w_iald (n := 4) (i := (sI a0)) hx hb hK.1 (t0 := 0) rfl hS (by decide) (zkd_of (rfl : zcd wR 7 = 57) rfl) (zln_of (rfl : zcd wR 7 = 57) rfl) rfl o11.1 o11.2 (by decide) dX12_heardAt_17 ?_
        refine lv_iload hx hb dX12_heardAt_18 (lv_at hl 4 rfl) ?_
        refine w_ishr hx hb dX12_heardAt_20 ?_
        refine z_iconst hx hb dX12_heardAt_21 ?_
        refine w_iand hx hb dX12_heardAt_22 ?_
        refine z_iconst hx hb dX12_heardAt_23 ?_
        refine w_icmp_ne (tgt := 51) hx hb (sI_of (andI_R _ _)) (sI_of (by decide)) dX12_heardAt_24 (by decide) (fun c12 => ?_) (fun c12 => ?_)
        · skip
          have h := h.1 c12
          refine z_iinc (lv' := [(4, .int (iI (x2 + 1))), (0, .ref (b + 0)), (1, .int (iI a0)), (2, .int (iI a1)), (3, .int (iI x1))]) hx hb dX12_heardAt_51 hl (k := 4) rfl (by decide) rfl (fun ls hl => ?_)
          refine lv_goto (tgt := 5) hx hb dX12_heardAt_54 (by decide) ?_
          obtain ⟨n13, h14, h⟩ := h
          exact i9 n13 h14 x1 (x2 + 1) _ _ _ h hS hS0 (lv_sub hl [1, 2, 3, 4, 0] rfl)
        · skip
          have h := h.2 c12
          refine lv_iload_n hx hb dX12_heardAt_27 rfl (lv_at hl 3 rfl) ?_
          refine lv_aload_n hx hb dX12_heardAt_28 rfl (lv_at hl 0 rfl) ?_
          refine w_getr (j2 := 3) hx hb hts (z_memU u12) hown hK.1 hS f12_4 (by decide) (zkd_of (rfl : zcd wR 0 = 50) rfl) (zrf_of (rfl : zcd wR 0 = 50) rfl) (Or.inl (hts _ (z_mem k948))) dX12_heardAt_29 ?_
          refine z_bipush hx hb (by decide) dX12_heardAt_32 ?_
          refine lv_iload_n hx hb dX12_heardAt_34 rfl (lv_at hl 1 rfl) ?_
          refine z_imul hx hb dX12_heardAt_35 ?_
          refine lv_iload_n hx hb dX12_heardAt_36 rfl (lv_at hl 2 rfl) ?_
          refine lv_iload hx hb dX12_heardAt_37 (lv_at hl 4 rfl) ?_
          refine z_iadd hx hb dX12_heardAt_39 ?_
          refine lv_aload_n hx hb dX12_heardAt_40 rfl (lv_at hl 0 rfl) ?_
          refine w_getr (j2 := 4) hx hb hts (z_memU u12) hown hK.1 hS f12_5 (by decide) (zkd_of (rfl : zcd wR 0 = 50) rfl) (zrf_of (rfl : zcd wR 0 = 50) rfl) (Or.inl (hts _ (z_mem k949))) dX12_heardAt_41 ?_
          refine lv_iload_n hx hb dX12_heardAt_44 rfl (lv_at hl 1 rfl) ?_
          obtain ⟨o15, h⟩ := h
          refine w_iald (n := 4) (i := (sI a0)) hx hb hK.1 (t0 := 0) rfl hS (by decide) (zkd_of (rfl : zcd wR 4 = 54) rfl) (zln_of (rfl : zcd wR 4 = 54) rfl) rfl o15.1 o15.2 (by decide) dX12_heardAt_45 ?_
          obtain ⟨o16, h⟩ := h
          refine w_irem hx hb rfl rfl o16 dX12_heardAt_46 ?_
          refine z_iadd hx hb dX12_heardAt_47 ?_
          obtain ⟨o17, h⟩ := h
          refine w_iald (n := 96) (i := (sI ((24 * a0) + ((sI (a1 + x2)).tmod (sI (M 4 (sI a0).toNat)))))) hx hb hK.1 (t0 := 0) rfl hS (by decide) (zkd_of (rfl : zcd wR 3 = 53) rfl) (zln_of (rfl : zcd wR 3 = 53) rfl) rfl o17.1 o17.2 (by decide) dX12_heardAt_48 ?_
          refine w_ior hx hb dX12_heardAt_49 ?_
          obtain ⟨t18, e19⟩ : ∃ t18 : Int, t18 = (orI x1 (M 3 (sI ((24 * a0) + ((sI (a1 + x2)).tmod (sI (M 4 (sI a0).toNat))))).toNat)) := ⟨_, rfl⟩
          refine z_top (y := t18) e19.symm ?_
          have h := h t18 e19
          refine lv_istore_n (lv' := [(3, .int (iI t18)), (0, .ref (b + 0)), (1, .int (iI a0)), (2, .int (iI a1)), (4, .int (iI x2))]) hx hb dX12_heardAt_50 rfl hl (by decide) rfl (fun ls hl => ?_)
          refine z_iinc (lv' := [(4, .int (iI (x2 + 1))), (3, .int (iI t18)), (0, .ref (b + 0)), (1, .int (iI a0)), (2, .int (iI a1))]) hx hb dX12_heardAt_51 hl (k := 4) rfl (by decide) rfl (fun ls hl => ?_)
          refine lv_goto (tgt := 5) hx hb dX12_heardAt_54 (by decide) ?_
          obtain ⟨n20, h21, h⟩ := h
          exact i9 n20 h21 t18 (x2 + 1) _ _ _ h hS hS0 (lv_sub hl [2, 3, 4, 1, 0] rfl)
  exact L7 n4 0 0 _ _ _ h5 hS hS0 (lv_sub hl [2, 3, 4, 1, 0] rfl)

set_option maxRecDepth 100000 in
def wR_heardOf (a0 : Int) (a1 : Int) (M : zM) (Q : Int → Prop) : Prop := ((0 ≤ (sI a0) ∧ (sI a0) < 4) ∧ ((0 ≤ (sI a0) ∧ (sI a0) < 4) ∧ ((0 ≤ (sI a0) ∧ (sI a0) < 4) ∧ wR_wayBy (M 5 (sI a0).toNat) a1 (M 4 (sI a0).toNat) M (fun z5 => ((0 ≤ (sI a0) ∧ (sI a0) < 4) ∧ (((sI (M 4 (sI a0).toNat)) ≠ 0) ∧ wR_heardAt a0 ((sI ((M 6 (sI a0).toNat) + z5)).tmod (sI (M 4 (sI a0).toNat))) M (fun z11 => Q z11)))))))
set_option maxHeartbeats 4000000 in
set_option maxRecDepth 100000 in
theorem cR_heardOf (l : Launch) (D : va_G) (dA : Nat → ClassId) (b : Nat) (M : zM) (a0 : Int) (a1 : Int)  (Q : Int → Prop) (h : wR_heardOf a0 a1 M Q) : Met l yX12_heardOf (.code yX12_heardOf cX12_heardOf 4 (some .int) :: zt) (z_rm 2) (va_Pc [.ref (b + 0), .int (iI a0), .long (iL a1)] (wPre D dA vwCl (z_tys dA) wR nR b M)) (va_Qi (wQi (fun z9 u9 => u9 = M ∧ Q z9)) (zB D dA vwCl wR nR b) (zA nR b)) 0 0 (zA nR b) := by
  unfold wR_heardOf at h
  refine Met.ofW (cc := cX12_heardOf) (maxL := 4) (ret := (some .int)) (by decide) rfl ?_
  intro p e s m args below meth c s₁ B hml hv
  obtain ⟨hargs, hS, hK⟩ := hv
  have hx := B.exec
  have hb := B.bytes
  have hr := B.returns
  have hts := atoms_spec (ws := .code yX12_heardOf cX12_heardOf 4 (some .int) :: zt) B.pre
  have hown : s.vm.findClass RX12 = some m.cls := findClass_of_methodNamed B.named
  have hlocks := B.notSynchronized
  have hS0 : va_S (zA nR b) s.heap s.heap [] := va_S.rf
  have hl := lv_entry ([.ref (b + 0), .int (iI a0), .long (iL a1)]) (n := 4) (Nat.le_of_ble_eq_true rfl)
  have hent : entryFrame m args 4 = F0 m 0 ((lg_sl ([.ref (b + 0), .int (iI a0), .long (iL a1)]) ++ List.replicate (4 - (lg_sl ([.ref (b + 0), .int (iI a0), .long (iL a1)])).length) Slot.unset).toArray) [] := by rw [hargs]; exact lg_entry_eq m ([.ref (b + 0), .int (iI a0), .long (iL a1)]) 4
  rw [hent]
  generalize (lg_sl ([.ref (b + 0), .int (iI a0), .long (iL a1)]) ++ List.replicate (4 - (lg_sl ([.ref (b + 0), .int (iI a0), .long (iL a1)])).length) Slot.unset).toArray = ls at hl ⊢
  have hl : lv_has ls 4 [(0, .ref (b + 0)), (1, .int (iI a0)), (2, .long (iL a1))] := hl
  refine lv_aload_n hx hb dX12_heardOf_0 rfl (lv_at hl 0 rfl) ?_
  refine lv_iload_n hx hb dX12_heardOf_1 rfl (lv_at hl 1 rfl) ?_
  refine lv_aload_n hx hb dX12_heardOf_2 rfl (lv_at hl 0 rfl) ?_
  refine w_getr (j2 := 6) hx hb hts (z_memU u12) hown hK.1 hS f12_7 (by decide) (zkd_of (rfl : zcd wR 0 = 50) rfl) (zrf_of (rfl : zcd wR 0 = 50) rfl) (Or.inl (hts _ (z_mem k951))) dX12_heardOf_3 ?_
  refine lv_iload_n hx hb dX12_heardOf_6 rfl (lv_at hl 1 rfl) ?_
  obtain ⟨o1, h⟩ := h
  refine w_iald (n := 4) (i := (sI a0)) hx hb hK.1 (t0 := 0) rfl hS (by decide) (zkd_of (rfl : zcd wR 6 = 56) rfl) (zln_of (rfl : zcd wR 6 = 56) rfl) rfl o1.1 o1.2 (by decide) dX12_heardOf_7 ?_
  refine lv_aload_n hx hb dX12_heardOf_8 rfl (lv_at hl 0 rfl) ?_
  refine lv_aload_n hx hb dX12_heardOf_9 rfl (lv_at hl 0 rfl) ?_
  refine w_getr (j2 := 5) hx hb hts (z_memU u12) hown hK.1 hS f12_6 (by decide) (zkd_of (rfl : zcd wR 0 = 50) rfl) (zrf_of (rfl : zcd wR 0 = 50) rfl) (Or.inl (hts _ (z_mem k950))) dX12_heardOf_10 ?_
  refine lv_iload_n hx hb dX12_heardOf_13 rfl (lv_at hl 1 rfl) ?_
  obtain ⟨o2, h⟩ := h
  refine w_iald (n := 4) (i := (sI a0)) hx hb hK.1 (t0 := 0) rfl hS (by decide) (zkd_of (rfl : zcd wR 5 = 55) rfl) (zln_of (rfl : zcd wR 5 = 55) rfl) rfl o2.1 o2.2 (by decide) dX12_heardOf_14 ?_
  refine lv_lload_n hx hb dX12_heardOf_15 rfl (lv_at hl 2 rfl) ?_
  refine lv_aload_n hx hb dX12_heardOf_16 rfl (lv_at hl 0 rfl) ?_
  refine w_getr (j2 := 4) hx hb hts (z_memU u12) hown hK.1 hS f12_5 (by decide) (zkd_of (rfl : zcd wR 0 = 50) rfl) (zrf_of (rfl : zcd wR 0 = 50) rfl) (Or.inl (hts _ (z_mem k949))) dX12_heardOf_17 ?_
  refine lv_iload_n hx hb dX12_heardOf_20 rfl (lv_at hl 1 rfl) ?_
  obtain ⟨o3, h⟩ := h
  refine w_iald (n := 4) (i := (sI a0)) hx hb hK.1 (t0 := 0) rfl hS (by decide) (zkd_of (rfl : zcd wR 4 = 54) rfl) (zln_of (rfl : zcd wR 4 = 54) rfl) rfl o3.1 o3.2 (by decide) dX12_heardOf_21 ?_
  refine w_calli (va_runV (As := [.int (iI (M 5 (sI a0).toNat)), .long (iL a1), .int (iI (M 4 (sI a0).toNat))]) (rest := [.int (iI (M 6 (sI a0).toNat)), .int (iI a0), .ref (b + 0)]) ⟨hx, hb, hml, hown, hts⟩ (cR_wayBy l D dA b M (M 5 (sI a0).toNat) a1 (M 4 (sI a0).toNat) _ h) (cwV 3 hts (z_gV k1157 k1158 k1403 k14 k1159) rfl rfl rfl dm_X12_wayBy ⟨Nat.le_of_ble_eq_true rfl, Nat.le_of_ble_eq_true rfl⟩) ⟨wPre_blind, (w_recv hS hK.1 (by decide) (zkd_of (rfl : zcd wR 0 = 50) rfl) (by decide) (rfl : vwCl[12]? = some (RX12, TX12, 50))), w_pre hS hK⟩ rfl rfl hl.1 rfl (lv_room (Nat.le_of_ble_eq_true rfl)) dX12_heardOf_22 ⟨Nat.le_refl _, Nat.le_refl _⟩) hS0 (fun z5 M4 H locs r6 h hS hS0 => ?_)
  obtain ⟨e7, h⟩ := h
  rw [e7] at hS
  refine z_iadd hx hb dX12_heardOf_25 ?_
  refine lv_aload_n hx hb dX12_heardOf_26 rfl (lv_at hl 0 rfl) ?_
  refine w_getr (j2 := 4) hx hb hts (z_memU u12) hown hK.1 hS f12_5 (by decide) (zkd_of (rfl : zcd wR 0 = 50) rfl) (zrf_of (rfl : zcd wR 0 = 50) rfl) (Or.inl (hts _ (z_mem k949))) dX12_heardOf_27 ?_
  refine lv_iload_n hx hb dX12_heardOf_30 rfl (lv_at hl 1 rfl) ?_
  obtain ⟨o8, h⟩ := h
  refine w_iald (n := 4) (i := (sI a0)) hx hb hK.1 (t0 := 0) rfl hS (by decide) (zkd_of (rfl : zcd wR 4 = 54) rfl) (zln_of (rfl : zcd wR 4 = 54) rfl) rfl o8.1 o8.2 (by decide) dX12_heardOf_31 ?_
  obtain ⟨o9, h⟩ := h
  refine w_irem hx hb rfl rfl o9 dX12_heardOf_32 ?_
  refine w_calli (va_runV (As := [.int (iI a0), .int (iI ((sI ((M 6 (sI a0).toNat) + z5)).tmod (sI (M 4 (sI a0).toNat))))]) (rest := []) ⟨hx, hb, hml, hown, hts⟩ (cR_heardAt l D dA b M a0 ((sI ((M 6 (sI a0).toNat) + z5)).tmod (sI (M 4 (sI a0).toNat))) _ h) (cwV 2 hts (z_gV k1166 k1167 k1405 k14 k1168) rfl rfl rfl dm_X12_heardAt ⟨Nat.le_of_ble_eq_true rfl, Nat.le_of_ble_eq_true rfl⟩) ⟨wPre_blind, (w_recv hS hK.1 (by decide) (zkd_of (rfl : zcd wR 0 = 50) rfl) (by decide) (rfl : vwCl[12]? = some (RX12, TX12, 50))), w_pre hS hK⟩ rfl rfl hl.1 rfl (lv_room (Nat.le_of_ble_eq_true rfl)) dX12_heardOf_33 ⟨Nat.le_refl _, Nat.le_refl _⟩) hS0 (fun z11 M10 H locs r12 h hS hS0 => ?_)
  obtain ⟨e13, h⟩ := h
  rw [e13] at hS
  exact w_iret hx hb hr hlocks hS hS0 (sI_of r12) ⟨rfl, h⟩ dX12_heardOf_36

set_option maxRecDepth 100000 in
def wR_heardInAll (a0 : Int) (M : zM) (Q : Int → Prop) : Prop := pL2 (fun K5 x1 x2 => ((sI (M 0 10)) ≤ (sI x2) → Q (sI x1)) ∧ ((sI x2) < (sI (M 0 10)) → wR_heardOf x2 a0 M (fun z12 => K5 (orI x1 z12) (x2 + 1)))) 0 0
set_option maxHeartbeats 4000000 in
set_option maxRecDepth 100000 in
theorem cR_heardInAll (l : Launch) (D : va_G) (dA : Nat → ClassId) (b : Nat) (M : zM) (a0 : Int)  (Q : Int → Prop) (h : wR_heardInAll a0 M Q) : Met l yX12_heardInAll (.code yX12_heardInAll cX12_heardInAll 5 (some .int) :: zt) (z_rm 3) (va_Pc [.ref (b + 0), .long (iL a0)] (wPre D dA vwCl (z_tys dA) wR nR b M)) (va_Qi (wQi (fun z9 u9 => u9 = M ∧ Q z9)) (zB D dA vwCl wR nR b) (zA nR b)) 0 0 (zA nR b) := by
  unfold wR_heardInAll at h
  refine Met.ofW (cc := cX12_heardInAll) (maxL := 5) (ret := (some .int)) (by decide) rfl ?_
  intro p e s m args below meth c s₁ B hml hv
  obtain ⟨hargs, hS, hK⟩ := hv
  have hx := B.exec
  have hb := B.bytes
  have hr := B.returns
  have hts := atoms_spec (ws := .code yX12_heardInAll cX12_heardInAll 5 (some .int) :: zt) B.pre
  have hown : s.vm.findClass RX12 = some m.cls := findClass_of_methodNamed B.named
  have hlocks := B.notSynchronized
  have hS0 : va_S (zA nR b) s.heap s.heap [] := va_S.rf
  have hl := lv_entry ([.ref (b + 0), .long (iL a0)]) (n := 5) (Nat.le_of_ble_eq_true rfl)
  have hent : entryFrame m args 5 = F0 m 0 ((lg_sl ([.ref (b + 0), .long (iL a0)]) ++ List.replicate (5 - (lg_sl ([.ref (b + 0), .long (iL a0)])).length) Slot.unset).toArray) [] := by rw [hargs]; exact lg_entry_eq m ([.ref (b + 0), .long (iL a0)]) 5
  rw [hent]
  generalize (lg_sl ([.ref (b + 0), .long (iL a0)]) ++ List.replicate (5 - (lg_sl ([.ref (b + 0), .long (iL a0)])).length) Slot.unset).toArray = ls at hl ⊢
  have hl : lv_has ls 5 [(0, .ref (b + 0)), (1, .long (iL a0))] := hl
  refine z_iconst hx hb dX12_heardInAll_0 ?_
  refine lv_istore_n (lv' := [(3, .int (iI 0)), (0, .ref (b + 0)), (1, .long (iL a0))]) hx hb dX12_heardInAll_1 rfl hl (by decide) rfl (fun ls hl => ?_)
  refine z_iconst hx hb dX12_heardInAll_2 ?_
  refine lv_istore (lv' := [(4, .int (iI 0)), (3, .int (iI 0)), (0, .ref (b + 0)), (1, .long (iL a0))]) hx hb dX12_heardInAll_3 hl (by decide) rfl (fun ls hl => ?_)
  obtain ⟨I3, ⟨n4, h5⟩, h6⟩ := h
  have L7 : ∀ (n8 : Nat) (x1 x2 : Int) (H : Heap) (locs : List Loc) (ls : Array Slot), I3 n8 x1 x2 → zR D dA vwCl wR nR b M H → va_S (zA nR b) s.heap H locs → lv_has ls 5 [(0, .ref (b + 0)), (1, .long (iL a0)), (3, .int (iI x1)), (4, .int (iI x2))] → W p l e (headSpec (.code yX12_heardInAll cX12_heardInAll 5 (some .int) :: zt) (z_rm 3)).room s m args below meth c H locs 0 0 (MQ below (va_Qi (wQi (fun z9 u9 => u9 = M ∧ Q z9)) (zB D dA vwCl wR nR b) (zA nR b)) args s 0 0 (zA nR b)) (F0 m 5 ls []) := by
    intro n8
    induction n8 using Nat.strongRecOn with
    | ind n8 i9 =>
      intro x1 x2 H locs ls h hS hS0 hl
      have h := h6 n8 x1 x2 h
      refine lv_iload hx hb dX12_heardInAll_5 (lv_at hl 3 rfl) ?_
      refine lv_aload_n hx hb dX12_heardInAll_7 rfl (lv_at hl 0 rfl) ?_
      refine w_geti hx hb hts (z_memU u12) hown hK.1 hS f12_10 (by decide) (zkd_of (rfl : zcd wR 0 = 50) rfl) (Or.inl (hts _ (z_mem k954))) dX12_heardInAll_8 ?_
      refine w_icmp_ge (tgt := 30) hx hb rfl rfl dX12_heardInAll_11 (by decide) (fun c10 => ?_) (fun c10 => ?_)
      · skip
        have h := h.1 c10
        refine lv_iload_n hx hb dX12_heardInAll_30 rfl (lv_at hl 2 rfl) ?_
        exact w_iret hx hb hr hlocks hS hS0 rfl ⟨rfl, h⟩ dX12_heardInAll_31
      · skip
        have h := h.2 c10
        refine lv_iload_n hx hb dX12_heardInAll_14 rfl (lv_at hl 2 rfl) ?_
        refine lv_aload_n hx hb dX12_heardInAll_15 rfl (lv_at hl 0 rfl) ?_
        refine lv_iload hx hb dX12_heardInAll_16 (lv_at hl 3 rfl) ?_
        refine lv_lload_n hx hb dX12_heardInAll_18 rfl (lv_at hl 1 rfl) ?_
        refine w_calli (va_runV (As := [.int (iI x2), .long (iL a0)]) (rest := [.int (iI x1)]) ⟨hx, hb, hml, hown, hts⟩ (cR_heardOf l D dA b M x2 a0 _ h) (cwV 2 hts (z_gV k1154 k1155 k1402 k14 k1156) rfl rfl rfl dm_X12_heardOf ⟨Nat.le_of_ble_eq_true rfl, Nat.le_of_ble_eq_true rfl⟩) ⟨wPre_blind, (w_recv hS hK.1 (by decide) (zkd_of (rfl : zcd wR 0 = 50) rfl) (by decide) (rfl : vwCl[12]? = some (RX12, TX12, 50))), w_pre hS hK⟩ rfl rfl hl.1 rfl (lv_room (Nat.le_of_ble_eq_true rfl)) dX12_heardInAll_19 ⟨Nat.le_refl _, Nat.le_refl _⟩) hS0 (fun z12 M11 H locs r13 h hS hS0 => ?_)
        obtain ⟨e14, h⟩ := h
        rw [e14] at hS
        refine w_ior hx hb dX12_heardInAll_22 ?_
        refine lv_istore_n (lv' := [(3, .int (iI (orI x1 z12))), (0, .ref (b + 0)), (1, .long (iL a0)), (4, .int (iI x2))]) hx hb dX12_heardInAll_23 rfl hl (by decide) rfl (fun ls hl => ?_)
        refine z_iinc (lv' := [(4, .int (iI (x2 + 1))), (3, .int (iI (orI x1 z12))), (0, .ref (b + 0)), (1, .long (iL a0))]) hx hb dX12_heardInAll_24 hl (k := 3) rfl (by decide) rfl (fun ls hl => ?_)
        refine lv_goto (tgt := 5) hx hb dX12_heardInAll_27 (by decide) ?_
        obtain ⟨n15, h16, h⟩ := h
        exact i9 n15 h16 (orI x1 z12) (x2 + 1) _ _ _ h hS hS0 (lv_sub hl [2, 3, 1, 0] rfl)
  exact L7 n4 0 0 _ _ _ h5 hS hS0 (lv_sub hl [2, 3, 1, 0] rfl)

set_option maxRecDepth 100000 in
def wR_heard (a0 : Int) (a1 : Int) (M : zM) (Q : Int → zM → Prop) : Prop := (∀ M1 : zM, M1 = zup M 0 35 0 → pJ0 (fun J18 => ((sI a0) = (-1) → J18) ∧ ((sI a0) ≠ (-1) → wR_isRing a0 M1 (fun z23 => (z23 = 0 → Q (-1) M1) ∧ (z23 ≠ 0 → J18)))) ((0 ≤ (sL a1) → ((sI a0) ≠ (-1) → wR_heardOf a0 a1 M1 (fun z14 => Q z14 M1)) ∧ ((sI a0) = (-1) → wR_heardInAll a1 M1 (fun z18 => Q z18 M1))) ∧ ((sL a1) < 0 → Q (-1) M1)))
set_option maxHeartbeats 4000000 in
set_option maxRecDepth 100000 in
theorem cR_heard (l : Launch) (D : va_G) (dA : Nat → ClassId) (b : Nat) (M : zM) (a0 : Int) (a1 : Int)  (Q : Int → zM → Prop) (h : wR_heard a0 a1 M Q) : Met l yX12_heard (.code yX12_heard cX12_heard 4 (some .int) :: zt) (z_rm 4) (va_Pc [.ref (b + 0), .int (iI a0), .long (iL a1)] (wPre D dA vwCl (z_tys dA) wR nR b M)) (va_Qi (wQi Q) (zB D dA vwCl wR nR b) (zA nR b)) 0 0 (zA nR b) := by
  unfold wR_heard at h
  refine Met.ofW (cc := cX12_heard) (maxL := 4) (ret := (some .int)) (by decide) rfl ?_
  intro p e s m args below meth c s₁ B hml hv
  obtain ⟨hargs, hS, hK⟩ := hv
  have hx := B.exec
  have hb := B.bytes
  have hr := B.returns
  have hts := atoms_spec (ws := .code yX12_heard cX12_heard 4 (some .int) :: zt) B.pre
  have hown : s.vm.findClass RX12 = some m.cls := findClass_of_methodNamed B.named
  have hlocks := B.notSynchronized
  have hS0 : va_S (zA nR b) s.heap s.heap [] := va_S.rf
  have hl := lv_entry ([.ref (b + 0), .int (iI a0), .long (iL a1)]) (n := 4) (Nat.le_of_ble_eq_true rfl)
  have hent : entryFrame m args 4 = F0 m 0 ((lg_sl ([.ref (b + 0), .int (iI a0), .long (iL a1)]) ++ List.replicate (4 - (lg_sl ([.ref (b + 0), .int (iI a0), .long (iL a1)])).length) Slot.unset).toArray) [] := by rw [hargs]; exact lg_entry_eq m ([.ref (b + 0), .int (iI a0), .long (iL a1)]) 4
  rw [hent]
  generalize (lg_sl ([.ref (b + 0), .int (iI a0), .long (iL a1)]) ++ List.replicate (4 - (lg_sl ([.ref (b + 0), .int (iI a0), .long (iL a1)])).length) Slot.unset).toArray = ls at hl ⊢
  have hl : lv_has ls 4 [(0, .ref (b + 0)), (1, .int (iI a0)), (2, .long (iL a1))] := hl
  refine lv_aload_n hx hb dX12_heard_0 rfl (lv_at hl 0 rfl) ?_
  refine z_iconst hx hb dX12_heard_1 ?_
  refine w_puti hx hb hts (z_memU u12) tyX12 tyX12_ok nmX12 hown hK.1 hS hS0 f12_35 (by decide) (zkd_of (rfl : zcd wR 0 = 50) rfl) (Or.inl (hts _ (z_mem k979))) rfl (z := 0) (by decide +kernel) dX12_heard_2 (fun H locs hS hS0 => ?_)
  obtain ⟨M1, e2⟩ : ∃ M1 : zM, M1 = zup M 0 35 0 := ⟨_, rfl⟩
  rw [← e2] at hS
  have h := h M1 e2
  refine lv_iload_n hx hb dX12_heard_5 rfl (lv_at hl 1 rfl) ?_
  refine z_iconst hx hb dX12_heard_6 ?_
  obtain ⟨J18, B10, h⟩ := h
  have L9 : ∀ (H : Heap) (locs : List Loc) (ls : Array Slot), J18 → zR D dA vwCl wR nR b M1 H → va_S (zA nR b) s.heap H locs → lv_has ls 4 [(0, .ref (b + 0)), (1, .int (iI a0)), (2, .long (iL a1))] → W p l e (headSpec (.code yX12_heard cX12_heard 4 (some .int) :: zt) (z_rm 4)).room s m args below meth c H locs 0 0 (MQ below (va_Qi (wQi Q) (zB D dA vwCl wR nR b) (zA nR b)) args s 0 0 (zA nR b)) (F0 m 18 ls []) := by
    intro  H locs ls h hS hS0 hl
    have h := B10 h
    refine lv_lload_n hx hb dX12_heard_18 rfl (lv_at hl 2 rfl) ?_
    refine z_lconst0 hx hb dX12_heard_19 ?_
    refine w_lcmp_ge hx hb rfl (sL_of (by decide)) dX12_heard_20 dX12_heard_21 (tgt := 26) (by decide) (fun c11 => ?_) (fun c11 => ?_)
    · skip
      have h := h.1 c11
      refine lv_iload_n hx hb dX12_heard_26 rfl (lv_at hl 1 rfl) ?_
      refine z_iconst hx hb dX12_heard_27 ?_
      refine w_icmp_ne (tgt := 39) hx hb rfl (sI_of (by decide)) dX12_heard_28 (by decide) (fun c12 => ?_) (fun c12 => ?_)
      · skip
        have h := h.1 c12
        refine lv_aload_n hx hb dX12_heard_39 rfl (lv_at hl 0 rfl) ?_
        refine lv_iload_n hx hb dX12_heard_40 rfl (lv_at hl 1 rfl) ?_
        refine lv_lload_n hx hb dX12_heard_41 rfl (lv_at hl 2 rfl) ?_
        refine w_calli (va_runV (As := [.int (iI a0), .long (iL a1)]) (rest := []) ⟨hx, hb, hml, hown, hts⟩ (cR_heardOf l D dA b M1 a0 a1 _ h) (cwV 2 hts (z_gV k1154 k1155 k1402 k14 k1156) rfl rfl rfl dm_X12_heardOf ⟨Nat.le_of_ble_eq_true rfl, Nat.le_of_ble_eq_true rfl⟩) ⟨wPre_blind, (w_recv hS hK.1 (by decide) (zkd_of (rfl : zcd wR 0 = 50) rfl) (by decide) (rfl : vwCl[12]? = some (RX12, TX12, 50))), w_pre hS hK⟩ rfl rfl hl.1 rfl (lv_room (Nat.le_of_ble_eq_true rfl)) dX12_heard_42 ⟨Nat.le_refl _, Nat.le_refl _⟩) hS0 (fun z14 M13 H locs r15 h hS hS0 => ?_)
        obtain ⟨e16, h⟩ := h
        rw [e16] at hS
        exact w_iret hx hb hr hlocks hS hS0 (sI_of r15) h dX12_heard_45
      · skip
        have h := h.2 c12
        refine lv_aload_n hx hb dX12_heard_31 rfl (lv_at hl 0 rfl) ?_
        refine lv_lload_n hx hb dX12_heard_32 rfl (lv_at hl 2 rfl) ?_
        refine w_calli (va_runV (As := [.long (iL a1)]) (rest := []) ⟨hx, hb, hml, hown, hts⟩ (cR_heardInAll l D dA b M1 a1 _ h) (cwV 1 hts (z_gV k1151 k1152 k1401 k14 k1153) rfl rfl rfl dm_X12_heardInAll ⟨Nat.le_of_ble_eq_true rfl, Nat.le_of_ble_eq_true rfl⟩) ⟨wPre_blind, (w_recv hS hK.1 (by decide) (zkd_of (rfl : zcd wR 0 = 50) rfl) (by decide) (rfl : vwCl[12]? = some (RX12, TX12, 50))), w_pre hS hK⟩ rfl rfl hl.1 rfl (lv_room (Nat.le_of_ble_eq_true rfl)) dX12_heard_33 ⟨Nat.le_refl _, Nat.le_refl _⟩) hS0 (fun z18 M17 H locs r19 h hS hS0 => ?_)
        obtain ⟨e20, h⟩ := h
        rw [e20] at hS
        refine lv_goto (tgt := 45) hx hb dX12_heard_36 (by decide) ?_
        exact w_iret hx hb hr hlocks hS hS0 (sI_of r19) h dX12_heard_45
    · skip
      have h := h.2 c11
      refine z_iconst hx hb dX12_heard_24 ?_
      exact w_iret hx hb hr hlocks hS hS0 (sI_of (by decide)) h dX12_heard_25
  refine w_icmp_eq (tgt := 18) hx hb rfl (sI_of (by decide)) dX12_heard_7 (by decide) (fun c21 => ?_) (fun c21 => ?_)
  · skip
    have h := h.1 c21
    exact L9 _ _ _ h hS hS0 (lv_sub hl [0, 1, 2] rfl)
  · skip
    have h := h.2 c21
    refine lv_aload_n hx hb dX12_heard_10 rfl (lv_at hl 0 rfl) ?_
    refine lv_iload_n hx hb dX12_heard_11 rfl (lv_at hl 1 rfl) ?_
    refine w_callz (va_runV (As := [.int (iI a0)]) (rest := []) ⟨hx, hb, hml, hown, hts⟩ (cR_isRing l D dA b M1 a0 _ h) (cwV 1 hts (z_gV k1097 k1098 k1397 k14 k1099) rfl rfl rfl dm_X12_isRing ⟨Nat.le_of_ble_eq_true rfl, Nat.le_of_ble_eq_true rfl⟩) ⟨wPre_blind, (w_recv hS hK.1 (by decide) (zkd_of (rfl : zcd wR 0 = 50) rfl) (by decide) (rfl : vwCl[12]? = some (RX12, TX12, 50))), w_pre hS hK⟩ rfl rfl hl.1 rfl (lv_room (Nat.le_of_ble_eq_true rfl)) dX12_heard_12 ⟨Nat.le_refl _, Nat.le_refl _⟩) hS0 (fun z23 M22 H locs r24 h hS hS0 => ?_)
    obtain ⟨e25, h⟩ := h
    rw [e25] at hS
    refine w_if_eq (tgt := 24) hx hb (sI_01 r24) dX12_heard_15 (by decide) (fun c26 => ?_) (fun c26 => ?_)
    · skip
      have h := h.1 c26
      refine z_iconst hx hb dX12_heard_24 ?_
      exact w_iret hx hb hr hlocks hS hS0 (sI_of (by decide)) h dX12_heard_25
    · skip
      have h := h.2 c26
      exact L9 _ _ _ h hS hS0 (lv_sub hl [0, 1, 2] rfl)

set_option maxRecDepth 100000 in
def wR_allRounds  (M : zM) (Q : Int → Prop) : Prop := pL2 (fun K4 x1 x2 => ((sI (M 0 10)) ≤ (sI x2) → Q (sL x1)) ∧ ((sI x2) < (sI (M 0 10)) → wR_round x2 M (fun z12 => ((z12 ≠ 0) ∧ wR_common 48 z12 ((sL x1).tmod z12) M (fun z17 => ((z17 ≠ 0) ∧ K4 (((sL x1).tdiv z17) * z12) (x2 + 1))))))) 1 0
set_option maxHeartbeats 4000000 in
set_option maxRecDepth 100000 in
theorem cR_allRounds (l : Launch) (D : va_G) (dA : Nat → ClassId) (b : Nat) (M : zM)   (Q : Int → Prop) (h : wR_allRounds  M Q) : Met l yX12_allRounds (.code yX12_allRounds cX12_allRounds 5 (some .long) :: zt) (z_rm 50) (va_Pc [.ref (b + 0)] (wPre D dA vwCl (z_tys dA) wR nR b M)) (va_Ql (wQl (fun z9 u9 => u9 = M ∧ Q z9)) (zB D dA vwCl wR nR b) (zA nR b)) 0 0 (zA nR b) := by
  unfold wR_allRounds at h
  refine Met.ofW (cc := cX12_allRounds) (maxL := 5) (ret := (some .long)) (by decide) rfl ?_
  intro p e s m args below meth c s₁ B hml hv
  obtain ⟨hargs, hS, hK⟩ := hv
  have hx := B.exec
  have hb := B.bytes
  have hr := B.returns
  have hts := atoms_spec (ws := .code yX12_allRounds cX12_allRounds 5 (some .long) :: zt) B.pre
  have hown : s.vm.findClass RX12 = some m.cls := findClass_of_methodNamed B.named
  have hlocks := B.notSynchronized
  have hS0 : va_S (zA nR b) s.heap s.heap [] := va_S.rf
  have hl := lv_entry ([.ref (b + 0)]) (n := 5) (Nat.le_of_ble_eq_true rfl)
  have hent : entryFrame m args 5 = F0 m 0 ((lg_sl ([.ref (b + 0)]) ++ List.replicate (5 - (lg_sl ([.ref (b + 0)])).length) Slot.unset).toArray) [] := by rw [hargs]; exact lg_entry_eq m ([.ref (b + 0)]) 5
  rw [hent]
  generalize (lg_sl ([.ref (b + 0)]) ++ List.replicate (5 - (lg_sl ([.ref (b + 0)])).length) Slot.unset).toArray = ls at hl ⊢
  have hl : lv_has ls 5 [(0, .ref (b + 0))] := hl
  refine z_lconst1 hx hb dX12_allRounds_0 ?_
  refine lv_lstore_n (lv' := [(1, .long (iL 1)), (0, .ref (b + 0))]) hx hb dX12_allRounds_1 rfl hl (by decide) rfl (fun ls hl => ?_)
  refine z_iconst hx hb dX12_allRounds_2 ?_
  refine lv_istore_n (lv' := [(3, .int (iI 0)), (1, .long (iL 1)), (0, .ref (b + 0))]) hx hb dX12_allRounds_3 rfl hl (by decide) rfl (fun ls hl => ?_)
  obtain ⟨I3, ⟨n4, h5⟩, h6⟩ := h
  have L7 : ∀ (n8 : Nat) (x1 x2 : Int) (H : Heap) (locs : List Loc) (ls : Array Slot), I3 n8 x1 x2 → zR D dA vwCl wR nR b M H → va_S (zA nR b) s.heap H locs → lv_has ls 5 [(0, .ref (b + 0)), (1, .long (iL x1)), (3, .int (iI x2))] → W p l e (headSpec (.code yX12_allRounds cX12_allRounds 5 (some .long) :: zt) (z_rm 50)).room s m args below meth c H locs 0 0 (MQ below (va_Ql (wQl (fun z9 u9 => u9 = M ∧ Q z9)) (zB D dA vwCl wR nR b) (zA nR b)) args s 0 0 (zA nR b)) (F0 m 4 ls []) := by
    intro n8
    induction n8 using Nat.strongRecOn with
    | ind n8 i9 =>
      intro x1 x2 H locs ls h hS hS0 hl
      have h := h6 n8 x1 x2 h
      refine lv_iload_n hx hb dX12_allRounds_4 rfl (lv_at hl 2 rfl) ?_
      refine lv_aload_n hx hb dX12_allRounds_5 rfl (lv_at hl 0 rfl) ?_
      refine w_geti hx hb hts (z_memU u12) hown hK.1 hS f12_10 (by decide) (zkd_of (rfl : zcd wR 0 = 50) rfl) (Or.inl (hts _ (z_mem k954))) dX12_allRounds_6 ?_
      refine w_icmp_ge (tgt := 44) hx hb rfl rfl dX12_allRounds_9 (by decide) (fun c10 => ?_) (fun c10 => ?_)
      · skip
        have h := h.1 c10
        refine lv_lload_n hx hb dX12_allRounds_44 rfl (lv_at hl 1 rfl) ?_
        exact w_lret hx hb hr hlocks hS hS0 rfl ⟨rfl, h⟩ dX12_allRounds_45
      · skip
        have h := h.2 c10
        refine lv_aload_n hx hb dX12_allRounds_12 rfl (lv_at hl 0 rfl) ?_
        refine lv_iload_n hx hb dX12_allRounds_13 rfl (lv_at hl 2 rfl) ?_
        refine w_calli (va_runV (As := [.int (iI x2)]) (rest := []) ⟨hx, hb, hml, hown, hts⟩ (cR_round l D dA b M x2 _ h) (cwV 1 hts (z_gV k1125 k1126 k1398 k14 k1127) rfl rfl rfl dm_X12_round ⟨Nat.le_of_ble_eq_true rfl, Nat.le_of_ble_eq_true rfl⟩) ⟨wPre_blind, (w_recv hS hK.1 (by decide) (zkd_of (rfl : zcd wR 0 = 50) rfl) (by decide) (rfl : vwCl[12]? = some (RX12, TX12, 50))), w_pre hS hK⟩ rfl rfl hl.1 rfl (lv_room (Nat.le_of_ble_eq_true rfl)) dX12_allRounds_14 ⟨Nat.le_refl _, Nat.le_refl _⟩) hS0 (fun z12 M11 H locs r13 h hS hS0 => ?_)
        obtain ⟨e14, h⟩ := h
        rw [e14] at hS
        refine lv_istore (lv' := [(4, .int (iI z12)), (0, .ref (b + 0)), (1, .long (iL x1)), (3, .int (iI x2))]) hx hb dX12_allRounds_17 hl (by decide) rfl (fun ls hl => ?_)
        refine lv_lload_n hx hb dX12_allRounds_19 rfl (lv_at hl 2 rfl) ?_
        refine lv_iload hx hb dX12_allRounds_20 (lv_at hl 0 rfl) ?_
        refine lv_lload_n hx hb dX12_allRounds_22 rfl (lv_at hl 2 rfl) ?_
        refine lv_iload hx hb dX12_allRounds_23 (lv_at hl 0 rfl) ?_
        refine w_i2l hx hb (sI_of r13) dX12_allRounds_25 ?_
        obtain ⟨o15, h⟩ := h
        refine w_lrem hx hb rfl (sL_ofI (sI_of r13)) o15 dX12_allRounds_26 ?_
        refine z_l2i hx hb dX12_allRounds_27 ?_
        refine w_calli (va_runS (As := [.int (iI z12), .int (iI ((sL x1).tmod z12))]) (rest := [.long (iL x1)]) ⟨hx, hb, hml, hown, hts⟩ (cR_common 48 l D dA b M z12 ((sL x1).tmod z12) _ h) (va_cwS 2 hts (z_gS k1132 k1133 k14 k1134) rfl rfl rfl dm_X12_common.2 ⟨Nat.le_of_ble_eq_true rfl, Nat.le_of_ble_eq_true rfl⟩) ⟨wPre_blind, w_pre hS hK⟩ rfl rfl hl.1 rfl (lv_room (Nat.le_of_ble_eq_true rfl)) dX12_allRounds_28 ⟨Nat.le_refl _, Nat.le_refl _⟩) hS0 (fun z17 M16 H locs r18 h hS hS0 => ?_)
        obtain ⟨e19, h⟩ := h
        rw [e19] at hS
        refine w_i2l hx hb (sI_of r18) dX12_allRounds_31 ?_
        obtain ⟨o20, h⟩ := h
        refine w_ldiv hx hb rfl (sL_ofI (sI_of r18)) o20 dX12_allRounds_32 ?_
        refine lv_iload hx hb dX12_allRounds_33 (lv_at hl 0 rfl) ?_
        refine w_i2l hx hb (sI_of r13) dX12_allRounds_35 ?_
        refine z_lmul hx hb dX12_allRounds_36 ?_
        refine lv_lstore_n (lv' := [(1, .long (iL (((sL x1).tdiv z17) * z12))), (4, .int (iI z12)), (0, .ref (b + 0)), (3, .int (iI x2))]) hx hb dX12_allRounds_37 rfl hl (by decide) rfl (fun ls hl => ?_)
        refine z_iinc (lv' := [(3, .int (iI (x2 + 1))), (1, .long (iL (((sL x1).tdiv z17) * z12))), (4, .int (iI z12)), (0, .ref (b + 0))]) hx hb dX12_allRounds_38 hl (k := 3) rfl (by decide) rfl (fun ls hl => ?_)
        refine lv_goto (tgt := 4) hx hb dX12_allRounds_41 (by decide) ?_
        obtain ⟨n21, h22, h⟩ := h
        exact i9 n21 h22 (((sL x1).tdiv z17) * z12) (x2 + 1) _ _ _ h hS hS0 (lv_sub hl [3, 1, 0] rfl)
  exact L7 n4 1 0 _ _ _ h5 hS hS0 (lv_sub hl [2, 1, 0] rfl)

set_option maxRecDepth 100000 in
def wR_all  (M : zM) (Q : Int → zM → Prop) : Prop := (∀ M1 : zM, M1 = zup M 0 35 0 → wR_allRounds  M1 (fun z4 => Q z4 M1))
set_option maxHeartbeats 4000000 in
set_option maxRecDepth 100000 in
theorem cR_all (l : Launch) (D : va_G) (dA : Nat → ClassId) (b : Nat) (M : zM)   (Q : Int → zM → Prop) (h : wR_all  M Q) : Met l yX12_all (.code yX12_all cX12_all 1 (some .long) :: zt) (z_rm 51) (va_Pc [.ref (b + 0)] (wPre D dA vwCl (z_tys dA) wR nR b M)) (va_Ql (wQl Q) (zB D dA vwCl wR nR b) (zA nR b)) 0 0 (zA nR b) := by
  unfold wR_all at h
  refine Met.ofW (cc := cX12_all) (maxL := 1) (ret := (some .long)) (by decide) rfl ?_
  intro p e s m args below meth c s₁ B hml hv
  obtain ⟨hargs, hS, hK⟩ := hv
  have hx := B.exec
  have hb := B.bytes
  have hr := B.returns
  have hts := atoms_spec (ws := .code yX12_all cX12_all 1 (some .long) :: zt) B.pre
  have hown : s.vm.findClass RX12 = some m.cls := findClass_of_methodNamed B.named
  have hlocks := B.notSynchronized
  have hS0 : va_S (zA nR b) s.heap s.heap [] := va_S.rf
  have hl := lv_entry ([.ref (b + 0)]) (n := 1) (Nat.le_of_ble_eq_true rfl)
  have hent : entryFrame m args 1 = F0 m 0 ((lg_sl ([.ref (b + 0)]) ++ List.replicate (1 - (lg_sl ([.ref (b + 0)])).length) Slot.unset).toArray) [] := by rw [hargs]; exact lg_entry_eq m ([.ref (b + 0)]) 1
  rw [hent]
  generalize (lg_sl ([.ref (b + 0)]) ++ List.replicate (1 - (lg_sl ([.ref (b + 0)])).length) Slot.unset).toArray = ls at hl ⊢
  have hl : lv_has ls 1 [(0, .ref (b + 0))] := hl
  refine lv_aload_n hx hb dX12_all_0 rfl (lv_at hl 0 rfl) ?_
  refine z_iconst hx hb dX12_all_1 ?_
  refine w_puti hx hb hts (z_memU u12) tyX12 tyX12_ok nmX12 hown hK.1 hS hS0 f12_35 (by decide) (zkd_of (rfl : zcd wR 0 = 50) rfl) (Or.inl (hts _ (z_mem k979))) rfl (z := 0) (by decide +kernel) dX12_all_2 (fun H locs hS hS0 => ?_)
  obtain ⟨M1, e2⟩ : ∃ M1 : zM, M1 = zup M 0 35 0 := ⟨_, rfl⟩
  rw [← e2] at hS
  have h := h M1 e2
  refine lv_aload_n hx hb dX12_all_5 rfl (lv_at hl 0 rfl) ?_
  refine w_calll (va_runV (As := []) (rest := []) ⟨hx, hb, hml, hown, hts⟩ (cR_allRounds l D dA b M1  _ h) (cwV 0 hts (z_gV k1173 k1174 k1406 k14 k1175) rfl rfl rfl dm_X12_allRounds ⟨Nat.le_of_ble_eq_true rfl, Nat.le_of_ble_eq_true rfl⟩) ⟨wPre_blind, (w_recv hS hK.1 (by decide) (zkd_of (rfl : zcd wR 0 = 50) rfl) (by decide) (rfl : vwCl[12]? = some (RX12, TX12, 50))), w_pre hS hK⟩ rfl rfl hl.1 rfl (lv_room (Nat.le_of_ble_eq_true rfl)) dX12_all_6 ⟨Nat.le_refl _, Nat.le_refl _⟩) hS0 (fun z4 M3 H locs r5 h hS hS0 => ?_)
  obtain ⟨e6, h⟩ := h
  rw [e6] at hS
  exact w_lret hx hb hr hlocks hS hS0 (sL_of r5) h dX12_all_9

set_option maxRecDepth 100000 in
def wR_wish (a0 : Int) (a1 : Int) (M : zM) (Q : Int → zM → Prop) : Prop := (∀ M1 : zM, M1 = zup M 0 35 0 → wR_isRing a0 M1 (fun z4 => (z4 = 0 → Q 0 M1) ∧ (z4 ≠ 0 → wR_areSounds a1 M1 (fun z9 => (z9 ≠ 0 → ((0 ≤ (sI a0) ∧ (sI a0) < 4) ∧ (∀ M14 : zM, M14 = zup M1 8 (sI a0).toNat a1 → Q 1 M14))) ∧ (z9 = 0 → Q 0 M1)))))
set_option maxHeartbeats 4000000 in
set_option maxRecDepth 100000 in
theorem cR_wish (l : Launch) (D : va_G) (dA : Nat → ClassId) (b : Nat) (M : zM) (a0 : Int) (a1 : Int)  (Q : Int → zM → Prop) (h : wR_wish a0 a1 M Q) : Met l yX12_wish (.code yX12_wish cX12_wish 3 (some .boolean) :: zt) (z_rm 2) (va_Pc [.ref (b + 0), .int (iI a0), .int (iI a1)] (wPre D dA vwCl (z_tys dA) wR nR b M)) (va_Qi (wQz Q) (zB D dA vwCl wR nR b) (zA nR b)) 0 0 (zA nR b) := by
  unfold wR_wish at h
  refine Met.ofW (cc := cX12_wish) (maxL := 3) (ret := (some .boolean)) (by decide) rfl ?_
  intro p e s m args below meth c s₁ B hml hv
  obtain ⟨hargs, hS, hK⟩ := hv
  have hx := B.exec
  have hb := B.bytes
  have hr := B.returns
  have hts := atoms_spec (ws := .code yX12_wish cX12_wish 3 (some .boolean) :: zt) B.pre
  have hown : s.vm.findClass RX12 = some m.cls := findClass_of_methodNamed B.named
  have hlocks := B.notSynchronized
  have hS0 : va_S (zA nR b) s.heap s.heap [] := va_S.rf
  have hl := lv_entry ([.ref (b + 0), .int (iI a0), .int (iI a1)]) (n := 3) (Nat.le_of_ble_eq_true rfl)
  have hent : entryFrame m args 3 = F0 m 0 ((lg_sl ([.ref (b + 0), .int (iI a0), .int (iI a1)]) ++ List.replicate (3 - (lg_sl ([.ref (b + 0), .int (iI a0), .int (iI a1)])).length) Slot.unset).toArray) [] := by rw [hargs]; exact lg_entry_eq m ([.ref (b + 0), .int (iI a0), .int (iI a1)]) 3
  rw [hent]
  generalize (lg_sl ([.ref (b + 0), .int (iI a0), .int (iI a1)]) ++ List.replicate (3 - (lg_sl ([.ref (b + 0), .int (iI a0), .int (iI a1)])).length) Slot.unset).toArray = ls at hl ⊢
  have hl : lv_has ls 3 [(0, .ref (b + 0)), (1, .int (iI a0)), (2, .int (iI a1))] := hl
  refine lv_aload_n hx hb dX12_wish_0 rfl (lv_at hl 0 rfl) ?_
  refine z_iconst hx hb dX12_wish_1 ?_
  refine w_puti hx hb hts (z_memU u12) tyX12 tyX12_ok nmX12 hown hK.1 hS hS0 f12_35 (by decide) (zkd_of (rfl : zcd wR 0 = 50) rfl) (Or.inl (hts _ (z_mem k979))) rfl (z := 0) (by decide +kernel) dX12_wish_2 (fun H locs hS hS0 => ?_)
  obtain ⟨M1, e2⟩ : ∃ M1 : zM, M1 = zup M 0 35 0 := ⟨_, rfl⟩
  rw [← e2] at hS
  have h := h M1 e2
  refine lv_aload_n hx hb dX12_wish_5 rfl (lv_at hl 0 rfl) ?_
  refine lv_iload_n hx hb dX12_wish_6 rfl (lv_at hl 1 rfl) ?_
  refine w_callz (va_runV (As := [.int (iI a0)]) (rest := []) ⟨hx, hb, hml, hown, hts⟩ (cR_isRing l D dA b M1 a0 _ h) (cwV 1 hts (z_gV k1097 k1098 k1397 k14 k1099) rfl rfl rfl dm_X12_isRing ⟨Nat.le_of_ble_eq_true rfl, Nat.le_of_ble_eq_true rfl⟩) ⟨wPre_blind, (w_recv hS hK.1 (by decide) (zkd_of (rfl : zcd wR 0 = 50) rfl) (by decide) (rfl : vwCl[12]? = some (RX12, TX12, 50))), w_pre hS hK⟩ rfl rfl hl.1 rfl (lv_room (Nat.le_of_ble_eq_true rfl)) dX12_wish_7 ⟨Nat.le_refl _, Nat.le_refl _⟩) hS0 (fun z4 M3 H locs r5 h hS hS0 => ?_)
  obtain ⟨e6, h⟩ := h
  rw [e6] at hS
  refine w_if_eq (tgt := 20) hx hb (sI_01 r5) dX12_wish_10 (by decide) (fun c7 => ?_) (fun c7 => ?_)
  · skip
    have h := h.1 c7
    refine z_iconst hx hb dX12_wish_20 ?_
    exact w_zret hx hb hr hlocks hS hS0 (sI_of (by decide)) (by decide) h dX12_wish_21
  · skip
    have h := h.2 c7
    refine lv_iload_n hx hb dX12_wish_13 rfl (lv_at hl 2 rfl) ?_
    refine w_callz (va_runS (As := [.int (iI a1)]) (rest := []) ⟨hx, hb, hml, hown, hts⟩ (cR_areSounds l D dA b M1 a1 _ h) (va_cwS 1 hts (z_gS k1180 k1181 k14 k1182) rfl rfl rfl dm_X12_areSounds.2 ⟨Nat.le_of_ble_eq_true rfl, Nat.le_of_ble_eq_true rfl⟩) ⟨wPre_blind, w_pre hS hK⟩ rfl rfl hl.1 rfl (lv_room (Nat.le_of_ble_eq_true rfl)) dX12_wish_14 ⟨Nat.le_refl _, Nat.le_refl _⟩) hS0 (fun z9 M8 H locs r10 h hS hS0 => ?_)
    obtain ⟨e11, h⟩ := h
    rw [e11] at hS
    refine w_if_ne (tgt := 22) hx hb (sI_01 r10) dX12_wish_17 (by decide) (fun c12 => ?_) (fun c12 => ?_)
    · skip
      have h := h.1 c12
      refine lv_aload_n hx hb dX12_wish_22 rfl (lv_at hl 0 rfl) ?_
      refine w_getr (j2 := 8) hx hb hts (z_memU u12) hown hK.1 hS f12_9 (by decide) (zkd_of (rfl : zcd wR 0 = 50) rfl) (zrf_of (rfl : zcd wR 0 = 50) rfl) (Or.inl (hts _ (z_mem k953))) dX12_wish_23 ?_
      refine lv_iload_n hx hb dX12_wish_26 rfl (lv_at hl 1 rfl) ?_
      refine lv_iload_n hx hb dX12_wish_27 rfl (lv_at hl 2 rfl) ?_
      obtain ⟨o13, h⟩ := h
      refine w_iast (z := a1) (n := 4) (i := (sI a0)) hx hb hK.1 (t0 := 0) rfl hS hS0 (by decide) (zkd_of (rfl : zcd wR 8 = 58) rfl) (zln_of (rfl : zcd wR 8 = 58) rfl) rfl o13.1 o13.2 (by decide) dX12_wish_28 (fun H locs hS hS0 => ?_)
      obtain ⟨M14, e15⟩ : ∃ M14 : zM, M14 = zup M1 8 (sI a0).toNat a1 := ⟨_, rfl⟩
      rw [← e15] at hS
      have h := h M14 e15
      refine z_iconst hx hb dX12_wish_29 ?_
      exact w_zret hx hb hr hlocks hS hS0 (sI_of (by decide)) (by decide) h dX12_wish_30
    · skip
      have h := h.2 c12
      refine z_iconst hx hb dX12_wish_20 ?_
      exact w_zret hx hb hr hlocks hS hS0 (sI_of (by decide)) (by decide) h dX12_wish_21
