/-! the W layer, 5 -/
theorem dX11_all_0 : decode cX11_all 0 = .ok (.aload_n 0, 1) := by decide +kernel
theorem dX11_all_1 : decode cX11_all 1 = .ok (.getfield 33, 3) := by decide +kernel
theorem dX11_all_11 : decode cX11_all 11 = .ok (.aload_n 0, 1) := by decide +kernel
theorem dX11_all_12 : decode cX11_all 12 = .ok (.getfield 33, 3) := by decide +kernel
theorem dX11_all_15 : decode cX11_all 15 = .ok (.invokevirtual 186, 3) := by decide +kernel
theorem dX11_all_18 : decode cX11_all 18 = .ok (.lreturn, 1) := by decide +kernel
theorem dX11_all_4 : decode cX11_all 4 = .ok (.aload_n 0, 1) := by decide +kernel
theorem dX11_all_5 : decode cX11_all 5 = .ok (.getfield 26, 3) := by decide +kernel
theorem dX11_all_8 : decode cX11_all 8 = .ok (.invokevirtual 182, 3) := by decide +kernel
theorem dX11_heard_0 : decode cX11_heard 0 = .ok (.lload_n 2, 1) := by decide +kernel
theorem dX11_heard_1 : decode cX11_heard 1 = .ok (.lconst 0, 1) := by decide +kernel
theorem dX11_heard_10 : decode cX11_heard 10 = .ok (.if_icmp .ne 12, 3) := by decide +kernel
theorem dX11_heard_13 : decode cX11_heard 13 = .ok (.aload_n 0, 1) := by decide +kernel
theorem dX11_heard_14 : decode cX11_heard 14 = .ok (.getfield 26, 3) := by decide +kernel
theorem dX11_heard_17 : decode cX11_heard 17 = .ok (.lload_n 2, 1) := by decide +kernel
theorem dX11_heard_18 : decode cX11_heard 18 = .ok (.invokevirtual 174, 3) := by decide +kernel
theorem dX11_heard_2 : decode cX11_heard 2 = .ok (.lcmp, 1) := by decide +kernel
theorem dX11_heard_21 : decode cX11_heard 21 = .ok (.ireturn, 1) := by decide +kernel
theorem dX11_heard_22 : decode cX11_heard 22 = .ok (.aload_n 0, 1) := by decide +kernel
theorem dX11_heard_23 : decode cX11_heard 23 = .ok (.getfield 26, 3) := by decide +kernel
theorem dX11_heard_26 : decode cX11_heard 26 = .ok (.iload_n 1, 1) := by decide +kernel
theorem dX11_heard_27 : decode cX11_heard 27 = .ok (.invokevirtual 104, 3) := by decide +kernel
theorem dX11_heard_3 : decode cX11_heard 3 = .ok (.ifCond .ge 5, 3) := by decide +kernel
theorem dX11_heard_30 : decode cX11_heard 30 = .ok (.astore 4, 2) := by decide +kernel
theorem dX11_heard_32 : decode cX11_heard 32 = .ok (.aload 4, 2) := by decide +kernel
theorem dX11_heard_34 : decode cX11_heard 34 = .ok (.ifnonnull 7, 3) := by decide +kernel
theorem dX11_heard_37 : decode cX11_heard 37 = .ok (.iconst (-1), 1) := by decide +kernel
theorem dX11_heard_38 : decode cX11_heard 38 = .ok (.goto 13, 3) := by decide +kernel
theorem dX11_heard_41 : decode cX11_heard 41 = .ok (.aload_n 0, 1) := by decide +kernel
theorem dX11_heard_42 : decode cX11_heard 42 = .ok (.getfield 26, 3) := by decide +kernel
theorem dX11_heard_45 : decode cX11_heard 45 = .ok (.aload 4, 2) := by decide +kernel
theorem dX11_heard_47 : decode cX11_heard 47 = .ok (.lload_n 2, 1) := by decide +kernel
theorem dX11_heard_48 : decode cX11_heard 48 = .ok (.invokevirtual 178, 3) := by decide +kernel
theorem dX11_heard_51 : decode cX11_heard 51 = .ok (.ireturn, 1) := by decide +kernel
theorem dX11_heard_6 : decode cX11_heard 6 = .ok (.iconst (-1), 1) := by decide +kernel
theorem dX11_heard_7 : decode cX11_heard 7 = .ok (.ireturn, 1) := by decide +kernel
theorem dX11_heard_8 : decode cX11_heard 8 = .ok (.iload_n 1, 1) := by decide +kernel
theorem dX11_heard_9 : decode cX11_heard 9 = .ok (.iconst (-1), 1) := by decide +kernel
theorem dX11_isSounds_0 : decode cX11_isSounds 0 = .ok (.iload_n 0, 1) := by decide +kernel
theorem dX11_isSounds_1 : decode cX11_isSounds 1 = .ok (.sipush (-1023), 3) := by decide +kernel
theorem dX11_isSounds_12 : decode cX11_isSounds 12 = .ok (.iconst 0, 1) := by decide +kernel
theorem dX11_isSounds_13 : decode cX11_isSounds 13 = .ok (.ireturn, 1) := by decide +kernel
theorem dX11_isSounds_4 : decode cX11_isSounds 4 = .ok (.iand, 1) := by decide +kernel
theorem dX11_isSounds_5 : decode cX11_isSounds 5 = .ok (.ifCond .ne 7, 3) := by decide +kernel
theorem dX11_isSounds_8 : decode cX11_isSounds 8 = .ok (.iconst 1, 1) := by decide +kernel
theorem dX11_isSounds_9 : decode cX11_isSounds 9 = .ok (.goto 4, 3) := by decide +kernel
theorem dX11_leastMultiple_0 : decode cX11_leastMultiple 0 = .ok (.lload_n 0, 1) := by decide +kernel
theorem dX11_leastMultiple_1 : decode cX11_leastMultiple 1 = .ok (.iload_n 2, 1) := by decide +kernel
theorem dX11_leastMultiple_2 : decode cX11_leastMultiple 2 = .ok (.lload_n 0, 1) := by decide +kernel
theorem dX11_leastMultiple_3 : decode cX11_leastMultiple 3 = .ok (.invokestatic 303, 3) := by decide +kernel
theorem dX11_leastMultiple_6 : decode cX11_leastMultiple 6 = .ok (.i2l, 1) := by decide +kernel
theorem dX11_leastMultiple_7 : decode cX11_leastMultiple 7 = .ok (.lmul, 1) := by decide +kernel
theorem dX11_leastMultiple_8 : decode cX11_leastMultiple 8 = .ok (.lreturn, 1) := by decide +kernel
theorem dX1_allTicks_0 : decode cX1_allTicks 0 = .ok (.lconst 1, 1) := by decide +kernel
theorem dX1_allTicks_1 : decode cX1_allTicks 1 = .ok (.lstore_n 1, 1) := by decide +kernel
theorem dX1_allTicks_12 : decode cX1_allTicks 12 = .ok (.lload_n 1, 1) := by decide +kernel
theorem dX1_allTicks_13 : decode cX1_allTicks 13 = .ok (.aload_n 0, 1) := by decide +kernel
theorem dX1_allTicks_14 : decode cX1_allTicks 14 = .ok (.getfield 19, 3) := by decide +kernel
theorem dX1_allTicks_17 : decode cX1_allTicks 17 = .ok (.iload_n 3, 1) := by decide +kernel
theorem dX1_allTicks_18 : decode cX1_allTicks 18 = .ok (.iaload, 1) := by decide +kernel
theorem dX1_allTicks_19 : decode cX1_allTicks 19 = .ok (.invokestatic 47, 3) := by decide +kernel
theorem dX1_allTicks_2 : decode cX1_allTicks 2 = .ok (.iconst 0, 1) := by decide +kernel
theorem dX1_allTicks_22 : decode cX1_allTicks 22 = .ok (.lstore_n 1, 1) := by decide +kernel
theorem dX1_allTicks_23 : decode cX1_allTicks 23 = .ok (.iinc 3 1, 3) := by decide +kernel
theorem dX1_allTicks_26 : decode cX1_allTicks 26 = .ok (.goto (-22), 3) := by decide +kernel
theorem dX1_allTicks_29 : decode cX1_allTicks 29 = .ok (.lload_n 1, 1) := by decide +kernel
theorem dX1_allTicks_3 : decode cX1_allTicks 3 = .ok (.istore_n 3, 1) := by decide +kernel
theorem dX1_allTicks_30 : decode cX1_allTicks 30 = .ok (.lreturn, 1) := by decide +kernel
theorem dX1_allTicks_4 : decode cX1_allTicks 4 = .ok (.iload_n 3, 1) := by decide +kernel
theorem dX1_allTicks_5 : decode cX1_allTicks 5 = .ok (.aload_n 0, 1) := by decide +kernel
theorem dX1_allTicks_6 : decode cX1_allTicks 6 = .ok (.getfield 9, 3) := by decide +kernel
theorem dX1_allTicks_9 : decode cX1_allTicks 9 = .ok (.if_icmp .ge 20, 3) := by decide +kernel
theorem dX1_look_0 : decode cX1_look 0 = .ok (.aload_n 0, 1) := by decide +kernel
theorem dX1_look_1 : decode cX1_look 1 = .ok (.aload_n 1, 1) := by decide +kernel
theorem dX1_look_10 : decode cX1_look 10 = .ok (.iconst 0, 1) := by decide +kernel
theorem dX1_look_11 : decode cX1_look 11 = .ok (.putfield 9, 3) := by decide +kernel
theorem dX1_look_14 : decode cX1_look 14 = .ok (.iconst 0, 1) := by decide +kernel
theorem dX1_look_15 : decode cX1_look 15 = .ok (.istore_n 2, 1) := by decide +kernel
theorem dX1_look_16 : decode cX1_look 16 = .ok (.iload_n 2, 1) := by decide +kernel
theorem dX1_look_17 : decode cX1_look 17 = .ok (.iconst 4, 1) := by decide +kernel
theorem dX1_look_18 : decode cX1_look 18 = .ok (.if_icmp .ge 58, 3) := by decide +kernel
theorem dX1_look_2 : decode cX1_look 2 = .ok (.invokevirtual 26, 3) := by decide +kernel
theorem dX1_look_21 : decode cX1_look 21 = .ok (.aload_n 1, 1) := by decide +kernel
theorem dX1_look_22 : decode cX1_look 22 = .ok (.iload_n 2, 1) := by decide +kernel
theorem dX1_look_23 : decode cX1_look 23 = .ok (.invokevirtual 31, 3) := by decide +kernel
theorem dX1_look_26 : decode cX1_look 26 = .ok (.astore_n 3, 1) := by decide +kernel
theorem dX1_look_27 : decode cX1_look 27 = .ok (.aload_n 3, 1) := by decide +kernel
theorem dX1_look_28 : decode cX1_look 28 = .ok (.ifnull 42, 3) := by decide +kernel
theorem dX1_look_31 : decode cX1_look 31 = .ok (.aload_n 0, 1) := by decide +kernel
theorem dX1_look_32 : decode cX1_look 32 = .ok (.getfield 19, 3) := by decide +kernel
theorem dX1_look_35 : decode cX1_look 35 = .ok (.iload_n 2, 1) := by decide +kernel
theorem dX1_look_36 : decode cX1_look 36 = .ok (.aload_n 1, 1) := by decide +kernel
theorem dX1_look_37 : decode cX1_look 37 = .ok (.aload_n 3, 1) := by decide +kernel
theorem dX1_look_38 : decode cX1_look 38 = .ok (.invokevirtual 35, 3) := by decide +kernel
theorem dX1_look_41 : decode cX1_look 41 = .ok (.iastore, 1) := by decide +kernel
theorem dX1_look_42 : decode cX1_look 42 = .ok (.aload_n 0, 1) := by decide +kernel
theorem dX1_look_43 : decode cX1_look 43 = .ok (.getfield 23, 3) := by decide +kernel
theorem dX1_look_46 : decode cX1_look 46 = .ok (.iload_n 2, 1) := by decide +kernel
theorem dX1_look_47 : decode cX1_look 47 = .ok (.aload_n 0, 1) := by decide +kernel
theorem dX1_look_48 : decode cX1_look 48 = .ok (.aload_n 1, 1) := by decide +kernel
theorem dX1_look_49 : decode cX1_look 49 = .ok (.aload_n 3, 1) := by decide +kernel
theorem dX1_look_5 : decode cX1_look 5 = .ok (.i2l, 1) := by decide +kernel
theorem dX1_look_50 : decode cX1_look 50 = .ok (.aload_n 0, 1) := by decide +kernel
theorem dX1_look_51 : decode cX1_look 51 = .ok (.getfield 19, 3) := by decide +kernel
theorem dX1_look_54 : decode cX1_look 54 = .ok (.iload_n 2, 1) := by decide +kernel
theorem dX1_look_55 : decode cX1_look 55 = .ok (.iaload, 1) := by decide +kernel
theorem dX1_look_56 : decode cX1_look 56 = .ok (.invokevirtual 39, 3) := by decide +kernel
theorem dX1_look_59 : decode cX1_look 59 = .ok (.iastore, 1) := by decide +kernel
theorem dX1_look_6 : decode cX1_look 6 = .ok (.putfield 15, 3) := by decide +kernel
theorem dX1_look_60 : decode cX1_look 60 = .ok (.aload_n 0, 1) := by decide +kernel
theorem dX1_look_61 : decode cX1_look 61 = .ok (.dup, 1) := by decide +kernel
theorem dX1_look_62 : decode cX1_look 62 = .ok (.getfield 9, 3) := by decide +kernel
theorem dX1_look_65 : decode cX1_look 65 = .ok (.iconst 1, 1) := by decide +kernel
theorem dX1_look_66 : decode cX1_look 66 = .ok (.iadd, 1) := by decide +kernel
theorem dX1_look_67 : decode cX1_look 67 = .ok (.putfield 9, 3) := by decide +kernel
theorem dX1_look_70 : decode cX1_look 70 = .ok (.iinc 2 1, 3) := by decide +kernel
theorem dX1_look_73 : decode cX1_look 73 = .ok (.goto (-57), 3) := by decide +kernel
theorem dX1_look_76 : decode cX1_look 76 = .ok (.return_, 1) := by decide +kernel
theorem dX1_look_9 : decode cX1_look 9 = .ok (.aload_n 0, 1) := by decide +kernel
theorem dX1_turnsOf_0 : decode cX1_turnsOf 0 = .ok (.iconst 0, 1) := by decide +kernel
theorem dX1_turnsOf_1 : decode cX1_turnsOf 1 = .ok (.istore 4, 2) := by decide +kernel
theorem dX1_turnsOf_12 : decode cX1_turnsOf 12 = .ok (.aload_n 1, 1) := by decide +kernel
theorem dX1_turnsOf_13 : decode cX1_turnsOf 13 = .ok (.aload_n 2, 1) := by decide +kernel
theorem dX1_turnsOf_14 : decode cX1_turnsOf 14 = .ok (.aload_n 0, 1) := by decide +kernel
theorem dX1_turnsOf_15 : decode cX1_turnsOf 15 = .ok (.getfield 15, 3) := by decide +kernel
theorem dX1_turnsOf_18 : decode cX1_turnsOf 18 = .ok (.iload 5, 2) := by decide +kernel
theorem dX1_turnsOf_20 : decode cX1_turnsOf 20 = .ok (.i2l, 1) := by decide +kernel
theorem dX1_turnsOf_21 : decode cX1_turnsOf 21 = .ok (.ladd, 1) := by decide +kernel
theorem dX1_turnsOf_22 : decode cX1_turnsOf 22 = .ok (.invokevirtual 43, 3) := by decide +kernel
theorem dX1_turnsOf_25 : decode cX1_turnsOf 25 = .ok (.ifCond .eq 12, 3) := by decide +kernel
theorem dX1_turnsOf_28 : decode cX1_turnsOf 28 = .ok (.iload 4, 2) := by decide +kernel
theorem dX1_turnsOf_3 : decode cX1_turnsOf 3 = .ok (.iconst 0, 1) := by decide +kernel
theorem dX1_turnsOf_30 : decode cX1_turnsOf 30 = .ok (.iconst 1, 1) := by decide +kernel
theorem dX1_turnsOf_31 : decode cX1_turnsOf 31 = .ok (.iload 5, 2) := by decide +kernel
theorem dX1_turnsOf_33 : decode cX1_turnsOf 33 = .ok (.ishl, 1) := by decide +kernel
theorem dX1_turnsOf_34 : decode cX1_turnsOf 34 = .ok (.ior, 1) := by decide +kernel
theorem dX1_turnsOf_35 : decode cX1_turnsOf 35 = .ok (.istore 4, 2) := by decide +kernel
theorem dX1_turnsOf_37 : decode cX1_turnsOf 37 = .ok (.iinc 5 1, 3) := by decide +kernel
theorem dX1_turnsOf_4 : decode cX1_turnsOf 4 = .ok (.istore 5, 2) := by decide +kernel
theorem dX1_turnsOf_40 : decode cX1_turnsOf 40 = .ok (.goto (-34), 3) := by decide +kernel
theorem dX1_turnsOf_43 : decode cX1_turnsOf 43 = .ok (.iload 4, 2) := by decide +kernel
theorem dX1_turnsOf_45 : decode cX1_turnsOf 45 = .ok (.ireturn, 1) := by decide +kernel
theorem dX1_turnsOf_6 : decode cX1_turnsOf 6 = .ok (.iload 5, 2) := by decide +kernel
theorem dX1_turnsOf_8 : decode cX1_turnsOf 8 = .ok (.iload_n 3, 1) := by decide +kernel
theorem dX1_turnsOf_9 : decode cX1_turnsOf 9 = .ok (.if_icmp .ge 34, 3) := by decide +kernel
theorem dX2_steady_0 : decode cX2_steady 0 = .ok (.aload_n 0, 1) := by decide +kernel
theorem dX2_steady_1 : decode cX2_steady 1 = .ok (.getfield 18, 3) := by decide +kernel
theorem dX2_steady_11 : decode cX2_steady 11 = .ok (.aload_n 0, 1) := by decide +kernel
theorem dX2_steady_12 : decode cX2_steady 12 = .ok (.getfield 9, 3) := by decide +kernel
theorem dX2_steady_15 : decode cX2_steady 15 = .ok (.aload_n 0, 1) := by decide +kernel
theorem dX2_steady_16 : decode cX2_steady 16 = .ok (.getfield 18, 3) := by decide +kernel
theorem dX2_steady_19 : decode cX2_steady 19 = .ok (.iconst 1, 1) := by decide +kernel
theorem dX2_steady_20 : decode cX2_steady 20 = .ok (.isub, 1) := by decide +kernel
theorem dX2_steady_21 : decode cX2_steady 21 = .ok (.iaload, 1) := by decide +kernel
theorem dX2_steady_22 : decode cX2_steady 22 = .ok (.ireturn, 1) := by decide +kernel
theorem dX2_steady_4 : decode cX2_steady 4 = .ok (.ifCond .ne 7, 3) := by decide +kernel
theorem dX2_steady_7 : decode cX2_steady 7 = .ok (.iconst 0, 1) := by decide +kernel
theorem dX2_steady_8 : decode cX2_steady 8 = .ok (.goto 14, 3) := by decide +kernel
theorem dX2_wayBy_0 : decode cX2_wayBy 0 = .ok (.lconst 0, 1) := by decide +kernel
theorem dX2_wayBy_1 : decode cX2_wayBy 1 = .ok (.lload_n 1, 1) := by decide +kernel
theorem dX2_wayBy_11 : decode cX2_wayBy 11 = .ok (.lstore 4, 2) := by decide +kernel
theorem dX2_wayBy_13 : decode cX2_wayBy 13 = .ok (.aload_n 0, 1) := by decide +kernel
theorem dX2_wayBy_14 : decode cX2_wayBy 14 = .ok (.lload_n 1, 1) := by decide +kernel
theorem dX2_wayBy_15 : decode cX2_wayBy 15 = .ok (.lload 4, 2) := by decide +kernel
theorem dX2_wayBy_17 : decode cX2_wayBy 17 = .ok (.lsub, 1) := by decide +kernel
theorem dX2_wayBy_18 : decode cX2_wayBy 18 = .ok (.invokevirtual 32, 3) := by decide +kernel
theorem dX2_wayBy_2 : decode cX2_wayBy 2 = .ok (.aload_n 0, 1) := by decide +kernel
theorem dX2_wayBy_21 : decode cX2_wayBy 21 = .ok (.lload 4, 2) := by decide +kernel
theorem dX2_wayBy_23 : decode cX2_wayBy 23 = .ok (.iload_n 3, 1) := by decide +kernel
theorem dX2_wayBy_24 : decode cX2_wayBy 24 = .ok (.invokestatic 36, 3) := by decide +kernel
theorem dX2_wayBy_27 : decode cX2_wayBy 27 = .ok (.i2l, 1) := by decide +kernel
theorem dX2_wayBy_28 : decode cX2_wayBy 28 = .ok (.aload_n 0, 1) := by decide +kernel
theorem dX2_wayBy_29 : decode cX2_wayBy 29 = .ok (.invokevirtual 40, 3) := by decide +kernel
theorem dX2_wayBy_3 : decode cX2_wayBy 3 = .ok (.invokevirtual 22, 3) := by decide +kernel
theorem dX2_wayBy_32 : decode cX2_wayBy 32 = .ok (.i2l, 1) := by decide +kernel
theorem dX2_wayBy_33 : decode cX2_wayBy 33 = .ok (.lmul, 1) := by decide +kernel
theorem dX2_wayBy_34 : decode cX2_wayBy 34 = .ok (.ladd, 1) := by decide +kernel
theorem dX2_wayBy_35 : decode cX2_wayBy 35 = .ok (.iload_n 3, 1) := by decide +kernel
theorem dX2_wayBy_36 : decode cX2_wayBy 36 = .ok (.invokestatic 36, 3) := by decide +kernel
theorem dX2_wayBy_39 : decode cX2_wayBy 39 = .ok (.ireturn, 1) := by decide +kernel
theorem dX2_wayBy_6 : decode cX2_wayBy 6 = .ok (.i2l, 1) := by decide +kernel
theorem dX2_wayBy_7 : decode cX2_wayBy 7 = .ok (.lsub, 1) := by decide +kernel
theorem dX2_wayBy_8 : decode cX2_wayBy 8 = .ok (.invokestatic 26, 3) := by decide +kernel
theorem dX6_heardBehind_0 : decode cX6_heardBehind 0 = .ok (.aload_n 0, 1) := by decide +kernel
theorem dX6_heardBehind_1 : decode cX6_heardBehind 1 = .ok (.getfield 31, 3) := by decide +kernel
theorem dX6_heardBehind_10 : decode cX6_heardBehind 10 = .ok (.i2l, 1) := by decide +kernel
theorem dX6_heardBehind_11 : decode cX6_heardBehind 11 = .ok (.aload_n 0, 1) := by decide +kernel
theorem dX6_heardBehind_12 : decode cX6_heardBehind 12 = .ok (.getfield 12, 3) := by decide +kernel
theorem dX6_heardBehind_15 : decode cX6_heardBehind 15 = .ok (.getfield 42, 3) := by decide +kernel
theorem dX6_heardBehind_18 : decode cX6_heardBehind 18 = .ok (.invokestatic 56, 3) := by decide +kernel
theorem dX6_heardBehind_21 : decode cX6_heardBehind 21 = .ok (.iaload, 1) := by decide +kernel
theorem dX6_heardBehind_22 : decode cX6_heardBehind 22 = .ok (.ireturn, 1) := by decide +kernel
theorem dX6_heardBehind_4 : decode cX6_heardBehind 4 = .ok (.aload_n 0, 1) := by decide +kernel
theorem dX6_heardBehind_5 : decode cX6_heardBehind 5 = .ok (.getfield 22, 3) := by decide +kernel
theorem dX6_heardBehind_8 : decode cX6_heardBehind 8 = .ok (.iload_n 1, 1) := by decide +kernel
theorem dX6_heardBehind_9 : decode cX6_heardBehind 9 = .ok (.iadd, 1) := by decide +kernel
theorem dX9_grants_0 : decode cX9_grants 0 = .ok (.aload_n 1, 1) := by decide +kernel
theorem dX9_grants_1 : decode cX9_grants 1 = .ok (.getfield 77, 3) := by decide +kernel
theorem dX9_grants_10 : decode cX9_grants 10 = .ok (.iconst (-1), 1) := by decide +kernel
theorem dX9_grants_11 : decode cX9_grants 11 = .ok (.ixor, 1) := by decide +kernel
theorem dX9_grants_12 : decode cX9_grants 12 = .ok (.iand, 1) := by decide +kernel
theorem dX9_grants_13 : decode cX9_grants 13 = .ok (.ifCond .ne 7, 3) := by decide +kernel
theorem dX9_grants_16 : decode cX9_grants 16 = .ok (.iconst 1, 1) := by decide +kernel
theorem dX9_grants_17 : decode cX9_grants 17 = .ok (.goto 4, 3) := by decide +kernel
theorem dX9_grants_20 : decode cX9_grants 20 = .ok (.iconst 0, 1) := by decide +kernel
theorem dX9_grants_21 : decode cX9_grants 21 = .ok (.ireturn, 1) := by decide +kernel
theorem dX9_grants_4 : decode cX9_grants 4 = .ok (.aload_n 0, 1) := by decide +kernel
theorem dX9_grants_5 : decode cX9_grants 5 = .ok (.aload_n 1, 1) := by decide +kernel
theorem dX9_grants_6 : decode cX9_grants 6 = .ok (.lload_n 2, 1) := by decide +kernel
theorem dX9_grants_7 : decode cX9_grants 7 = .ok (.invokevirtual 73, 3) := by decide +kernel
theorem dX9_heardInAll_0 : decode cX9_heardInAll 0 = .ok (.iconst 0, 1) := by decide +kernel
theorem dX9_heardInAll_1 : decode cX9_heardInAll 1 = .ok (.istore_n 3, 1) := by decide +kernel
theorem dX9_heardInAll_11 : decode cX9_heardInAll 11 = .ok (.if_icmp .ge 24, 3) := by decide +kernel
theorem dX9_heardInAll_14 : decode cX9_heardInAll 14 = .ok (.iload_n 3, 1) := by decide +kernel
theorem dX9_heardInAll_15 : decode cX9_heardInAll 15 = .ok (.aload_n 0, 1) := by decide +kernel
theorem dX9_heardInAll_16 : decode cX9_heardInAll 16 = .ok (.aload_n 0, 1) := by decide +kernel
theorem dX9_heardInAll_17 : decode cX9_heardInAll 17 = .ok (.getfield 19, 3) := by decide +kernel
theorem dX9_heardInAll_2 : decode cX9_heardInAll 2 = .ok (.iconst 0, 1) := by decide +kernel
theorem dX9_heardInAll_20 : decode cX9_heardInAll 20 = .ok (.iload 4, 2) := by decide +kernel
theorem dX9_heardInAll_22 : decode cX9_heardInAll 22 = .ok (.aaload, 1) := by decide +kernel
theorem dX9_heardInAll_23 : decode cX9_heardInAll 23 = .ok (.lload_n 1, 1) := by decide +kernel
theorem dX9_heardInAll_24 : decode cX9_heardInAll 24 = .ok (.invokevirtual 73, 3) := by decide +kernel
theorem dX9_heardInAll_27 : decode cX9_heardInAll 27 = .ok (.ior, 1) := by decide +kernel
theorem dX9_heardInAll_28 : decode cX9_heardInAll 28 = .ok (.istore_n 3, 1) := by decide +kernel
theorem dX9_heardInAll_29 : decode cX9_heardInAll 29 = .ok (.iinc 4 1, 3) := by decide +kernel
theorem dX9_heardInAll_3 : decode cX9_heardInAll 3 = .ok (.istore 4, 2) := by decide +kernel
theorem dX9_heardInAll_32 : decode cX9_heardInAll 32 = .ok (.goto (-27), 3) := by decide +kernel
theorem dX9_heardInAll_35 : decode cX9_heardInAll 35 = .ok (.iload_n 3, 1) := by decide +kernel
theorem dX9_heardInAll_36 : decode cX9_heardInAll 36 = .ok (.ireturn, 1) := by decide +kernel
theorem dX9_heardInAll_5 : decode cX9_heardInAll 5 = .ok (.iload 4, 2) := by decide +kernel
theorem dX9_heardInAll_7 : decode cX9_heardInAll 7 = .ok (.aload_n 0, 1) := by decide +kernel
theorem dX9_heardInAll_8 : decode cX9_heardInAll 8 = .ok (.getfield 23, 3) := by decide +kernel
theorem dX9_heardOf_0 : decode cX9_heardOf 0 = .ok (.aload_n 1, 1) := by decide +kernel
theorem dX9_heardOf_1 : decode cX9_heardOf 1 = .ok (.aload_n 0, 1) := by decide +kernel
theorem dX9_heardOf_10 : decode cX9_heardOf 10 = .ok (.aload_n 1, 1) := by decide +kernel
theorem dX9_heardOf_11 : decode cX9_heardOf 11 = .ok (.getfield 53, 3) := by decide +kernel
theorem dX9_heardOf_14 : decode cX9_heardOf 14 = .ok (.getfield 57, 3) := by decide +kernel
theorem dX9_heardOf_17 : decode cX9_heardOf 17 = .ok (.invokevirtual 66, 3) := by decide +kernel
theorem dX9_heardOf_2 : decode cX9_heardOf 2 = .ok (.aload_n 1, 1) := by decide +kernel
theorem dX9_heardOf_20 : decode cX9_heardOf 20 = .ok (.invokevirtual 70, 3) := by decide +kernel
theorem dX9_heardOf_23 : decode cX9_heardOf 23 = .ok (.ireturn, 1) := by decide +kernel
theorem dX9_heardOf_3 : decode cX9_heardOf 3 = .ok (.getfield 46, 3) := by decide +kernel
theorem dX9_heardOf_6 : decode cX9_heardOf 6 = .ok (.invokevirtual 49, 3) := by decide +kernel
theorem dX9_heardOf_9 : decode cX9_heardOf 9 = .ok (.lload_n 2, 1) := by decide +kernel
theorem dX9_steady_0 : decode cX9_steady 0 = .ok (.aload_n 0, 1) := by decide +kernel
theorem dX9_steady_1 : decode cX9_steady 1 = .ok (.getfield 11, 3) := by decide +kernel
theorem dX9_steady_10 : decode cX9_steady 10 = .ok (.getfield 11, 3) := by decide +kernel
theorem dX9_steady_13 : decode cX9_steady 13 = .ok (.iconst 1, 1) := by decide +kernel
theorem dX9_steady_14 : decode cX9_steady 14 = .ok (.aaload, 1) := by decide +kernel
theorem dX9_steady_15 : decode cX9_steady 15 = .ok (.invokevirtual 36, 3) := by decide +kernel
theorem dX9_steady_18 : decode cX9_steady 18 = .ok (.invokestatic 40, 3) := by decide +kernel
theorem dX9_steady_21 : decode cX9_steady 21 = .ok (.ireturn, 1) := by decide +kernel
theorem dX9_steady_4 : decode cX9_steady 4 = .ok (.iconst 0, 1) := by decide +kernel
theorem dX9_steady_5 : decode cX9_steady 5 = .ok (.aaload, 1) := by decide +kernel
theorem dX9_steady_6 : decode cX9_steady 6 = .ok (.invokevirtual 36, 3) := by decide +kernel
theorem dX9_steady_9 : decode cX9_steady 9 = .ok (.aload_n 0, 1) := by decide +kernel
theorem dm_X2_steady : yX2_steady.cls = RX2 ∧ yX2_steady.cls ≠ "java/lang/invoke/MethodHandle" ∧ yX2_steady.cls ≠ "java/lang/invoke/VarHandle" ∧ (parseMethodDescriptor yX2_steady.desc).map (fun d => d.parameters.length) = some 0 := by decide +kernel
theorem dm_X2_wayBy : yX2_wayBy.cls = RX2 ∧ yX2_wayBy.cls ≠ "java/lang/invoke/MethodHandle" ∧ yX2_wayBy.cls ≠ "java/lang/invoke/VarHandle" ∧ (parseMethodDescriptor yX2_wayBy.desc).map (fun d => d.parameters.length) = some 2 := by decide +kernel
theorem dm_X6_heardBehind : yX6_heardBehind.cls = RX6 ∧ yX6_heardBehind.cls ≠ "java/lang/invoke/MethodHandle" ∧ yX6_heardBehind.cls ≠ "java/lang/invoke/VarHandle" ∧ (parseMethodDescriptor yX6_heardBehind.desc).map (fun d => d.parameters.length) = some 1 := by decide +kernel
theorem dm_X9_heardOf : yX9_heardOf.cls = RX9 ∧ yX9_heardOf.cls ≠ "java/lang/invoke/MethodHandle" ∧ yX9_heardOf.cls ≠ "java/lang/invoke/VarHandle" ∧ (parseMethodDescriptor yX9_heardOf.desc).map (fun d => d.parameters.length) = some 2 := by decide +kernel
theorem dm_X9_heardInAll : yX9_heardInAll.cls = RX9 ∧ yX9_heardInAll.cls ≠ "java/lang/invoke/MethodHandle" ∧ yX9_heardInAll.cls ≠ "java/lang/invoke/VarHandle" ∧ (parseMethodDescriptor yX9_heardInAll.desc).map (fun d => d.parameters.length) = some 1 := by decide +kernel
theorem dm_X9_grants : yX9_grants.cls = RX9 ∧ yX9_grants.cls ≠ "java/lang/invoke/MethodHandle" ∧ yX9_grants.cls ≠ "java/lang/invoke/VarHandle" ∧ (parseMethodDescriptor yX9_grants.desc).map (fun d => d.parameters.length) = some 2 := by decide +kernel
theorem dm_X9_steady : yX9_steady.cls = RX9 ∧ yX9_steady.cls ≠ "java/lang/invoke/MethodHandle" ∧ yX9_steady.cls ≠ "java/lang/invoke/VarHandle" ∧ (parseMethodDescriptor yX9_steady.desc).map (fun d => d.parameters.length) = some 0 := by decide +kernel
theorem dm_X1_turnsOf : yX1_turnsOf.cls = RX1 ∧ yX1_turnsOf.cls ≠ "java/lang/invoke/MethodHandle" ∧ yX1_turnsOf.cls ≠ "java/lang/invoke/VarHandle" ∧ (parseMethodDescriptor yX1_turnsOf.desc).map (fun d => d.parameters.length) = some 3 := by decide +kernel
theorem dm_X11_leastMultiple : yX11_leastMultiple.cls = RX11 ∧ yX11_leastMultiple.cls ≠ "java/lang/invoke/MethodHandle" ∧ yX11_leastMultiple.cls ≠ "java/lang/invoke/VarHandle" ∧ (parseMethodDescriptor yX11_leastMultiple.desc).map (fun d => d.parameters.length) = some 2 := by decide +kernel
theorem dm_X1_look : yX1_look.cls = RX1 ∧ yX1_look.cls ≠ "java/lang/invoke/MethodHandle" ∧ yX1_look.cls ≠ "java/lang/invoke/VarHandle" ∧ (parseMethodDescriptor yX1_look.desc).map (fun d => d.parameters.length) = some 1 := by decide +kernel
theorem dm_X1_allTicks : yX1_allTicks.cls = RX1 ∧ yX1_allTicks.cls ≠ "java/lang/invoke/MethodHandle" ∧ yX1_allTicks.cls ≠ "java/lang/invoke/VarHandle" ∧ (parseMethodDescriptor yX1_allTicks.desc).map (fun d => d.parameters.length) = some 0 := by decide +kernel
set_option maxRecDepth 100000 in
def wC_Motor_steady (j : Nat) (M : zM) (Q : Int → Prop) : Prop := ((sI (M j 2)) ≠ 0 → ((0 ≤ (sI ((M j 2) - 1)) ∧ (sI ((M j 2) - 1)) < 12) ∧ Q (sI (M (j + 1) (sI ((M j 2) - 1)).toNat)))) ∧ ((sI (M j 2)) = 0 → Q 0)
set_option maxHeartbeats 4000000 in
set_option maxRecDepth 100000 in
theorem cC_Motor_steady (l : Launch) (D : va_G) (dA : Nat → ClassId) (b : Nat) (M : zM) (j : Nat) (lt_j : j < nC) (cd_j : zcd wC j = 11) (Q : Int → Prop) (h : wC_Motor_steady j M Q) : Met l yX2_steady (.code yX2_steady cX2_steady 1 (some .int) :: zt) (z_rm 0) (va_Pc [.ref (b + j)] (wPre D dA vwCl (z_tys dA) wC nC b M)) (va_Qi (wQi (fun z9 u9 => u9 = M ∧ Q z9)) (zB D dA vwCl wC nC b) (zA nC b)) 0 0 (zA nC b) := by
  unfold wC_Motor_steady at h
  refine Met.ofW (cc := cX2_steady) (maxL := 1) (ret := (some .int)) (by decide) rfl ?_
  intro p e s m args below meth c s₁ B hml hv
  obtain ⟨hargs, hS, hK⟩ := hv
  have hx := B.exec
  have hb := B.bytes
  have hr := B.returns
  have hts := atoms_spec (ws := .code yX2_steady cX2_steady 1 (some .int) :: zt) B.pre
  have hown : s.vm.findClass RX2 = some m.cls := findClass_of_methodNamed B.named
  have hlocks := B.notSynchronized
  have hS0 : va_S (zA nC b) s.heap s.heap [] := va_S.rf
  have hl := lv_entry ([.ref (b + j)]) (n := 1) (Nat.le_of_ble_eq_true rfl)
  have hent : entryFrame m args 1 = F0 m 0 ((lg_sl ([.ref (b + j)]) ++ List.replicate (1 - (lg_sl ([.ref (b + j)])).length) Slot.unset).toArray) [] := by rw [hargs]; exact lg_entry_eq m ([.ref (b + j)]) 1
  rw [hent]
  generalize (lg_sl ([.ref (b + j)]) ++ List.replicate (1 - (lg_sl ([.ref (b + j)])).length) Slot.unset).toArray = ls at hl ⊢
  have hl : lv_has ls 1 [(0, .ref (b + j))] := hl
  obtain ⟨lt1, cd2, lt3, cd4⟩ := nx_motor j lt_j cd_j
  refine lv_aload_n hx hb dX2_steady_0 rfl (lv_at hl 0 rfl) ?_
  refine w_geti hx hb hts (z_memU u2) hown hK.1 hS f2_2 lt_j (zkd_of cd_j rfl) (Or.inl (hts _ (z_mem k84))) dX2_steady_1 ?_
  refine w_if_ne (tgt := 11) hx hb rfl dX2_steady_4 (by decide) (fun c5 => ?_) (fun c5 => ?_)
  · skip
    have h := h.1 c5
    refine lv_aload_n hx hb dX2_steady_11 rfl (lv_at hl 0 rfl) ?_
    refine w_getr (j2 := (j + 1)) hx hb hts (z_memU u2) hown hK.1 hS f2_0 lt_j (zkd_of cd_j rfl) (zrf_of cd_j rfl) (Or.inl (hts _ (z_mem k82))) dX2_steady_12 ?_
    refine lv_aload_n hx hb dX2_steady_15 rfl (lv_at hl 0 rfl) ?_
    refine w_geti hx hb hts (z_memU u2) hown hK.1 hS f2_2 lt_j (zkd_of cd_j rfl) (Or.inl (hts _ (z_mem k84))) dX2_steady_16 ?_
    refine z_iconst hx hb dX2_steady_19 ?_
    refine z_isub hx hb dX2_steady_20 ?_
    obtain ⟨o6, h⟩ := h
    refine w_iald (n := 12) (i := (sI ((M j 2) - 1))) hx hb hK.1 (t0 := 0) rfl hS lt1 (zkd_of cd2 rfl) (zln_of cd2 rfl) rfl o6.1 o6.2 (by decide) dX2_steady_21 ?_
    exact w_iret hx hb hr hlocks hS hS0 rfl ⟨rfl, h⟩ dX2_steady_22
  · skip
    have h := h.2 c5
    refine z_iconst hx hb dX2_steady_7 ?_
    refine lv_goto (tgt := 22) hx hb dX2_steady_8 (by decide) ?_
    exact w_iret hx hb hr hlocks hS hS0 (sI_of (by decide)) ⟨rfl, h⟩ dX2_steady_22

set_option maxRecDepth 100000 in
def wC_Motor_wayBy (j : Nat) (a0 : Int) (a1 : Int) (M : zM) (Q : Int → Prop) : Prop := wC_Motor_steady j M (fun z6 => wC_Motor_wayTo j (a0 - (max 0 (sL (a0 - z6)))) M (fun z10 => wC_by (max 0 (sL (a0 - z6))) a1 M (fun z14 => wC_Motor_lastSpeed j M (fun z18 => wC_by (z10 + (z14 * z18)) a1 M (fun z22 => Q z22)))))
set_option maxHeartbeats 4000000 in
set_option maxRecDepth 100000 in
theorem cC_Motor_wayBy (l : Launch) (D : va_G) (dA : Nat → ClassId) (b : Nat) (M : zM) (j : Nat) (a0 : Int) (a1 : Int) (lt_j : j < nC) (cd_j : zcd wC j = 11) (Q : Int → Prop) (h : wC_Motor_wayBy j a0 a1 M Q) : Met l yX2_wayBy (.code yX2_wayBy cX2_wayBy 6 (some .int) :: zt) (z_rm 1) (va_Pc [.ref (b + j), .long (iL a0), .int (iI a1)] (wPre D dA vwCl (z_tys dA) wC nC b M)) (va_Qi (wQi (fun z9 u9 => u9 = M ∧ Q z9)) (zB D dA vwCl wC nC b) (zA nC b)) 0 0 (zA nC b) := by
  unfold wC_Motor_wayBy at h
  refine Met.ofW (cc := cX2_wayBy) (maxL := 6) (ret := (some .int)) (by decide) rfl ?_
  intro p e s m args below meth c s₁ B hml hv
  obtain ⟨hargs, hS, hK⟩ := hv
  have hx := B.exec
  have hb := B.bytes
  have hr := B.returns
  have hts := atoms_spec (ws := .code yX2_wayBy cX2_wayBy 6 (some .int) :: zt) B.pre
  have hown : s.vm.findClass RX2 = some m.cls := findClass_of_methodNamed B.named
  have hlocks := B.notSynchronized
  have hS0 : va_S (zA nC b) s.heap s.heap [] := va_S.rf
  have hl := lv_entry ([.ref (b + j), .long (iL a0), .int (iI a1)]) (n := 6) (Nat.le_of_ble_eq_true rfl)
  have hent : entryFrame m args 6 = F0 m 0 ((lg_sl ([.ref (b + j), .long (iL a0), .int (iI a1)]) ++ List.replicate (6 - (lg_sl ([.ref (b + j), .long (iL a0), .int (iI a1)])).length) Slot.unset).toArray) [] := by rw [hargs]; exact lg_entry_eq m ([.ref (b + j), .long (iL a0), .int (iI a1)]) 6
  rw [hent]
  generalize (lg_sl ([.ref (b + j), .long (iL a0), .int (iI a1)]) ++ List.replicate (6 - (lg_sl ([.ref (b + j), .long (iL a0), .int (iI a1)])).length) Slot.unset).toArray = ls at hl ⊢
  have hl : lv_has ls 6 [(0, .ref (b + j)), (1, .long (iL a0)), (3, .int (iI a1))] := hl
  obtain ⟨lt1, cd2, lt3, cd4⟩ := nx_motor j lt_j cd_j
  refine z_lconst0 hx hb dX2_wayBy_0 ?_
  refine lv_lload_n hx hb dX2_wayBy_1 rfl (lv_at hl 1 rfl) ?_
  refine lv_aload_n hx hb dX2_wayBy_2 rfl (lv_at hl 0 rfl) ?_
  refine w_calli (va_runV (As := []) (rest := [.long (iL a0), .long (iL 0)]) ⟨hx, hb, hml, hown, hts⟩ (cC_Motor_steady l D dA b M j lt_j cd_j _ h) (cwV 0 hts (z_gV k487 k488 k489 k5 k490) rfl rfl rfl dm_X2_steady ⟨Nat.le_of_ble_eq_true rfl, Nat.le_of_ble_eq_true rfl⟩) ⟨wPre_blind, (w_recv hS hK.1 lt_j (zkd_of cd_j rfl) (by decide) (rfl : vwCl[2]? = some (RX2, TX2, 3))), w_pre hS hK⟩ rfl rfl hl.1 rfl (lv_room (Nat.le_of_ble_eq_true rfl)) dX2_wayBy_3 ⟨Nat.le_refl _, Nat.le_refl _⟩) hS0 (fun z6 M5 H locs r7 h hS hS0 => ?_)
  obtain ⟨e8, h⟩ := h
  rw [e8] at hS
  refine w_i2l hx hb (sI_of r7) dX2_wayBy_6 ?_
  refine z_lsub hx hb dX2_wayBy_7 ?_
  refine w_mmaxl hx hb (hml.trans hl.1.symm) hown (hts _ (z_mem k491)) (hts _ (z_mem k492)) (hts _ (z_mem k15)) (hts _ (z_mem k493)) (by exact Nat.le_of_ble_eq_true rfl) (by exact Nat.le_of_ble_eq_true rfl) (by exact Nat.le_refl _) (by exact Nat.le_refl _) (sL_of (by decide)) rfl dX2_wayBy_8 ?_
  refine lv_lstore (lv' := [(4, .long (iL (max 0 (sL (a0 - z6))))), (0, .ref (b + j)), (1, .long (iL a0)), (3, .int (iI a1))]) hx hb dX2_wayBy_11 hl (by decide) rfl (fun ls hl => ?_)
  refine lv_aload_n hx hb dX2_wayBy_13 rfl (lv_at hl 1 rfl) ?_
  refine lv_lload_n hx hb dX2_wayBy_14 rfl (lv_at hl 2 rfl) ?_
  refine lv_lload hx hb dX2_wayBy_15 (lv_at hl 0 rfl) ?_
  refine z_lsub hx hb dX2_wayBy_17 ?_
  refine w_calll (va_runV (As := [.long (iL (a0 - (max 0 (sL (a0 - z6)))))]) (rest := []) ⟨hx, hb, hml, hown, hts⟩ (cC_Motor_wayTo l D dA b M j (a0 - (max 0 (sL (a0 - z6)))) lt_j cd_j _ h) (cwV 1 hts (z_gV k494 k495 k496 k5 k497) rfl rfl rfl dm_X2_wayTo ⟨Nat.le_of_ble_eq_true rfl, Nat.le_of_ble_eq_true rfl⟩) ⟨wPre_blind, (w_recv hS hK.1 lt_j (zkd_of cd_j rfl) (by decide) (rfl : vwCl[2]? = some (RX2, TX2, 3))), w_pre hS hK⟩ rfl rfl hl.1 rfl (lv_room (Nat.le_of_ble_eq_true rfl)) dX2_wayBy_18 ⟨Nat.le_refl _, Nat.le_refl _⟩) hS0 (fun z10 M9 H locs r11 h hS hS0 => ?_)
  obtain ⟨e12, h⟩ := h
  rw [e12] at hS
  refine lv_lload hx hb dX2_wayBy_21 (lv_at hl 0 rfl) ?_
  refine lv_iload_n hx hb dX2_wayBy_23 rfl (lv_at hl 3 rfl) ?_
  refine w_calli (va_runSN (As := [.long (iL (max 0 (sL (a0 - z6)))), .int (iI a1)]) (rest := [.long (iL z10)]) ⟨hx, hb, hml, hown, hts⟩ (cC_by l D dA b M (max 0 (sL (a0 - z6))) a1 _ h) ⟨va_cnB 2 hts (z_gN k406) rfl rfl rfl (hK.2 (RX2, 36, yX11_by, RX11) (List.mem_of_getElem? (i := 11) rfl)) (hts _ (z_mem k1)) dm_X11_by.2 ⟨Nat.le_of_ble_eq_true rfl, Nat.le_of_ble_eq_true rfl⟩, (hts _ (z_mem k405)), trivial⟩ ⟨wPre_blind, w_pre hS hK⟩ rfl rfl hl.1 rfl (lv_room (Nat.le_of_ble_eq_true rfl)) dX2_wayBy_24 ⟨Nat.le_refl _, Nat.le_refl _⟩) hS0 (fun z14 M13 H locs r15 h hS hS0 => ?_)
  obtain ⟨e16, h⟩ := h
  rw [e16] at hS
  refine w_i2l hx hb (sI_of r15) dX2_wayBy_27 ?_
  refine lv_aload_n hx hb dX2_wayBy_28 rfl (lv_at hl 1 rfl) ?_
  refine w_calli (va_runV (As := []) (rest := [.long (iL z14), .long (iL z10)]) ⟨hx, hb, hml, hown, hts⟩ (cC_Motor_lastSpeed l D dA b M j lt_j cd_j _ h) (cwV 0 hts (z_gV k498 k499 k500 k5 k501) rfl rfl rfl dm_X2_lastSpeed ⟨Nat.le_of_ble_eq_true rfl, Nat.le_of_ble_eq_true rfl⟩) ⟨wPre_blind, (w_recv hS hK.1 lt_j (zkd_of cd_j rfl) (by decide) (rfl : vwCl[2]? = some (RX2, TX2, 3))), w_pre hS hK⟩ rfl rfl hl.1 rfl (lv_room (Nat.le_of_ble_eq_true rfl)) dX2_wayBy_29 ⟨Nat.le_refl _, Nat.le_refl _⟩) hS0 (fun z18 M17 H locs r19 h hS hS0 => ?_)
  obtain ⟨e20, h⟩ := h
  rw [e20] at hS
  refine w_i2l hx hb (sI_of r19) dX2_wayBy_32 ?_
  refine z_lmul hx hb dX2_wayBy_33 ?_
  refine z_ladd hx hb dX2_wayBy_34 ?_
  refine lv_iload_n hx hb dX2_wayBy_35 rfl (lv_at hl 3 rfl) ?_
  refine w_calli (va_runSN (As := [.long (iL (z10 + (z14 * z18))), .int (iI a1)]) (rest := []) ⟨hx, hb, hml, hown, hts⟩ (cC_by l D dA b M (z10 + (z14 * z18)) a1 _ h) ⟨va_cnB 2 hts (z_gN k406) rfl rfl rfl (hK.2 (RX2, 36, yX11_by, RX11) (List.mem_of_getElem? (i := 11) rfl)) (hts _ (z_mem k1)) dm_X11_by.2 ⟨Nat.le_of_ble_eq_true rfl, Nat.le_of_ble_eq_true rfl⟩, (hts _ (z_mem k405)), trivial⟩ ⟨wPre_blind, w_pre hS hK⟩ rfl rfl hl.1 rfl (lv_room (Nat.le_of_ble_eq_true rfl)) dX2_wayBy_36 ⟨Nat.le_refl _, Nat.le_refl _⟩) hS0 (fun z22 M21 H locs r23 h hS hS0 => ?_)
  obtain ⟨e24, h⟩ := h
  rw [e24] at hS
  exact w_iret hx hb hr hlocks hS hS0 (sI_of r23) ⟨rfl, h⟩ dX2_wayBy_39

set_option maxRecDepth 100000 in
def wC_Ring_heardBehind (j : Nat) (a0 : Int) (M : zM) (Q : Int → Prop) : Prop := wC_by (sI ((M j 2) + a0)) (M (j + 1) 1) M (fun z8 => ((0 ≤ z8 ∧ z8 < 24) ∧ Q (sI (M (j + 3) z8.toNat))))
set_option maxHeartbeats 4000000 in
set_option maxRecDepth 100000 in
theorem cC_Ring_heardBehind (l : Launch) (D : va_G) (dA : Nat → ClassId) (b : Nat) (M : zM) (j : Nat) (a0 : Int) (lt_j : j < nC) (cd_j : zcd wC j = 14) (Q : Int → Prop) (h : wC_Ring_heardBehind j a0 M Q) : Met l yX6_heardBehind (.code yX6_heardBehind cX6_heardBehind 2 (some .int) :: zt) (z_rm 1) (va_Pc [.ref (b + j), .int (iI a0)] (wPre D dA vwCl (z_tys dA) wC nC b M)) (va_Qi (wQi (fun z9 u9 => u9 = M ∧ Q z9)) (zB D dA vwCl wC nC b) (zA nC b)) 0 0 (zA nC b) := by
  unfold wC_Ring_heardBehind at h
  refine Met.ofW (cc := cX6_heardBehind) (maxL := 2) (ret := (some .int)) (by decide) rfl ?_
  intro p e s m args below meth c s₁ B hml hv
  obtain ⟨hargs, hS, hK⟩ := hv
  have hx := B.exec
  have hb := B.bytes
  have hr := B.returns
  have hts := atoms_spec (ws := .code yX6_heardBehind cX6_heardBehind 2 (some .int) :: zt) B.pre
  have hown : s.vm.findClass RX6 = some m.cls := findClass_of_methodNamed B.named
  have hlocks := B.notSynchronized
  have hS0 : va_S (zA nC b) s.heap s.heap [] := va_S.rf
  have hl := lv_entry ([.ref (b + j), .int (iI a0)]) (n := 2) (Nat.le_of_ble_eq_true rfl)
  have hent : entryFrame m args 2 = F0 m 0 ((lg_sl ([.ref (b + j), .int (iI a0)]) ++ List.replicate (2 - (lg_sl ([.ref (b + j), .int (iI a0)])).length) Slot.unset).toArray) [] := by rw [hargs]; exact lg_entry_eq m ([.ref (b + j), .int (iI a0)]) 2
  rw [hent]
  generalize (lg_sl ([.ref (b + j), .int (iI a0)]) ++ List.replicate (2 - (lg_sl ([.ref (b + j), .int (iI a0)])).length) Slot.unset).toArray = ls at hl ⊢
  have hl : lv_has ls 2 [(0, .ref (b + j)), (1, .int (iI a0))] := hl
  obtain ⟨lt1, cd2, lt3, cd4, lt5, cd6⟩ := nx_ring j lt_j cd_j
  refine lv_aload_n hx hb dX6_heardBehind_0 rfl (lv_at hl 0 rfl) ?_
  refine w_getr (j2 := (j + 3)) hx hb hts (z_memU u6) hown hK.1 hS f6_5 lt_j (zkd_of cd_j rfl) (zrf_of cd_j rfl) (Or.inl (hts _ (z_mem k109))) dX6_heardBehind_1 ?_
  refine lv_aload_n hx hb dX6_heardBehind_4 rfl (lv_at hl 0 rfl) ?_
  refine w_geti hx hb hts (z_memU u6) hown hK.1 hS f6_2 lt_j (zkd_of cd_j rfl) (Or.inl (hts _ (z_mem k101))) dX6_heardBehind_5 ?_
  refine lv_iload_n hx hb dX6_heardBehind_8 rfl (lv_at hl 1 rfl) ?_
  refine z_iadd hx hb dX6_heardBehind_9 ?_
  refine w_i2l hx hb rfl dX6_heardBehind_10 ?_
  refine lv_aload_n hx hb dX6_heardBehind_11 rfl (lv_at hl 0 rfl) ?_
  refine w_getr (j2 := (j + 1)) hx hb hts (z_memU u6) hown hK.1 hS f6_0 lt_j (zkd_of cd_j rfl) (zrf_of cd_j rfl) (Or.inl (hts _ (z_mem k93))) dX6_heardBehind_12 ?_
  refine w_geti hx hb hts (z_memU u8) hown hK.1 hS f8_1 lt1 (zkd_of cd2 rfl) (Or.inl (hts _ (z_mem k45))) dX6_heardBehind_15 ?_
  refine w_calli (va_runSN (As := [.long (iL (sI ((M j 2) + a0))), .int (iI (M (j + 1) 1))]) (rest := [.ref (b + (j + 3))]) ⟨hx, hb, hml, hown, hts⟩ (cC_by l D dA b M (sI ((M j 2) + a0)) (M (j + 1) 1) _ h) ⟨va_cnB 2 hts (z_gN k406) rfl rfl rfl (hK.2 (RX6, 56, yX11_by, RX11) (List.mem_of_getElem? (i := 10) rfl)) (hts _ (z_mem k1)) dm_X11_by.2 ⟨Nat.le_of_ble_eq_true rfl, Nat.le_of_ble_eq_true rfl⟩, (hts _ (z_mem k405)), trivial⟩ ⟨wPre_blind, w_pre hS hK⟩ rfl rfl hl.1 rfl (lv_room (Nat.le_of_ble_eq_true rfl)) dX6_heardBehind_18 ⟨Nat.le_refl _, Nat.le_refl _⟩) hS0 (fun z8 M7 H locs r9 h hS hS0 => ?_)
  obtain ⟨e10, h⟩ := h
  rw [e10] at hS
  obtain ⟨o11, h⟩ := h
  refine w_iald (n := 24) (i := z8) hx hb hK.1 (t0 := 0) rfl hS lt5 (zkd_of cd6 rfl) (zln_of cd6 rfl) (sI_of r9) o11.1 o11.2 (by decide) dX6_heardBehind_21 ?_
  exact w_iret hx hb hr hlocks hS hS0 rfl ⟨rfl, h⟩ dX6_heardBehind_22

set_option maxRecDepth 100000 in
def wC_Studio_heardOf (a0 : Nat) (a1 : Int) (M : zM) (Q : Int → Prop) : Prop := wC_Studio_motorOf (M a0 1) M (fun z8 => ∃ q10, z8 = some q10 ∧ (q10 < nC ∧ zcd wC q10 = 11) ∧ (wC_Motor_wayBy q10 a1 (M (a0 + 1) 1) M (fun z18 => wC_Ring_heardBehind a0 z18 M (fun z22 => Q z22))))
set_option maxHeartbeats 4000000 in
set_option maxRecDepth 100000 in
theorem cC_Studio_heardOf (l : Launch) (D : va_G) (dA : Nat → ClassId) (b : Nat) (M : zM) (a0 : Nat) (a1 : Int) (lt_a0 : a0 < nC) (cd_a0 : zcd wC a0 = 14) (Q : Int → Prop) (h : wC_Studio_heardOf a0 a1 M Q) : Met l yX9_heardOf (.code yX9_heardOf cX9_heardOf 4 (some .int) :: zt) (z_rm 2) (va_Pc [.ref (b + 32), .ref (b + a0), .long (iL a1)] (wPre D dA vwCl (z_tys dA) wC nC b M)) (va_Qi (wQi (fun z9 u9 => u9 = M ∧ Q z9)) (zB D dA vwCl wC nC b) (zA nC b)) 0 0 (zA nC b) := by
  unfold wC_Studio_heardOf at h
  refine Met.ofW (cc := cX9_heardOf) (maxL := 4) (ret := (some .int)) (by decide) rfl ?_
  intro p e s m args below meth c s₁ B hml hv
  obtain ⟨hargs, hS, hK⟩ := hv
  have hx := B.exec
  have hb := B.bytes
  have hr := B.returns
  have hts := atoms_spec (ws := .code yX9_heardOf cX9_heardOf 4 (some .int) :: zt) B.pre
  have hown : s.vm.findClass RX9 = some m.cls := findClass_of_methodNamed B.named
  have hlocks := B.notSynchronized
  have hS0 : va_S (zA nC b) s.heap s.heap [] := va_S.rf
  have hl := lv_entry ([.ref (b + 32), .ref (b + a0), .long (iL a1)]) (n := 4) (Nat.le_of_ble_eq_true rfl)
  have hent : entryFrame m args 4 = F0 m 0 ((lg_sl ([.ref (b + 32), .ref (b + a0), .long (iL a1)]) ++ List.replicate (4 - (lg_sl ([.ref (b + 32), .ref (b + a0), .long (iL a1)])).length) Slot.unset).toArray) [] := by rw [hargs]; exact lg_entry_eq m ([.ref (b + 32), .ref (b + a0), .long (iL a1)]) 4
  rw [hent]
  generalize (lg_sl ([.ref (b + 32), .ref (b + a0), .long (iL a1)]) ++ List.replicate (4 - (lg_sl ([.ref (b + 32), .ref (b + a0), .long (iL a1)])).length) Slot.unset).toArray = ls at hl ⊢
  have hl : lv_has ls 4 [(0, .ref (b + 32)), (1, .ref (b + a0)), (2, .long (iL a1))] := hl
  obtain ⟨lt1, cd2, lt3, cd4, lt5, cd6⟩ := nx_ring a0 lt_a0 cd_a0
  refine lv_aload_n hx hb dX9_heardOf_0 rfl (lv_at hl 1 rfl) ?_
  refine lv_aload_n hx hb dX9_heardOf_1 rfl (lv_at hl 0 rfl) ?_
  refine lv_aload_n hx hb dX9_heardOf_2 rfl (lv_at hl 1 rfl) ?_
  refine w_geti hx hb hts (z_memU u6) hown hK.1 hS f6_1 lt_a0 (zkd_of cd_a0 rfl) (Or.inl (hts _ (z_mem k99))) dX9_heardOf_3 ?_
  refine w_callq (va_runV (As := [.int (iI (M a0 1))]) (rest := [.ref (b + a0)]) ⟨hx, hb, hml, hown, hts⟩ (cC_Studio_motorOf l D dA b M (M a0 1) _ h) (cwV 1 hts (z_gV k482 k443 k444 k4 k445) rfl rfl rfl dm_X9_motorOf ⟨Nat.le_of_ble_eq_true rfl, Nat.le_of_ble_eq_true rfl⟩) ⟨wPre_blind, (w_recv hS hK.1 (by decide) (zkd_of (rfl : zcd wC 32 = 8) rfl) (by decide) (rfl : vwCl[9]? = some (RX9, TX9, 3))), w_pre hS hK⟩ rfl rfl hl.1 rfl (lv_room (Nat.le_of_ble_eq_true rfl)) dX9_heardOf_6 ⟨Nat.le_refl _, Nat.le_refl _⟩) hS0 (fun z8 M7 H locs h hS hS0 => ?_)
  obtain ⟨e9, h⟩ := h
  rw [e9] at hS
  obtain ⟨q10, rfl, ⟨lt11, cd12⟩, h⟩ := h
  obtain ⟨lt13, cd14, lt15, cd16⟩ := nx_motor q10 lt11 cd12
  refine lv_lload_n hx hb dX9_heardOf_9 rfl (lv_at hl 2 rfl) ?_
  refine lv_aload_n hx hb dX9_heardOf_10 rfl (lv_at hl 1 rfl) ?_
  refine w_getr (j2 := (a0 + 1)) hx hb hts (z_memU u6) hown hK.1 hS f6_0 lt_a0 (zkd_of cd_a0 rfl) (zrf_of cd_a0 rfl) (Or.inl (hts _ (z_mem k95))) dX9_heardOf_11 ?_
  refine w_geti hx hb hts (z_memU u8) hown hK.1 hS f8_1 lt1 (zkd_of cd2 rfl) (Or.inl (hts _ (z_mem k49))) dX9_heardOf_14 ?_
  refine w_calli (va_runV (As := [.long (iL a1), .int (iI (M (a0 + 1) 1))]) (rest := [.ref (b + a0)]) ⟨hx, hb, hml, hown, hts⟩ (cC_Motor_wayBy l D dA b M q10 a1 (M (a0 + 1) 1) lt11 cd12 _ h) (cwV 2 hts (z_gV k483 k484 k485 k5 k486) rfl rfl rfl dm_X2_wayBy ⟨Nat.le_of_ble_eq_true rfl, Nat.le_of_ble_eq_true rfl⟩) ⟨wPre_blind, (w_recv hS hK.1 lt11 (zkd_of cd12 rfl) (by decide) (rfl : vwCl[2]? = some (RX2, TX2, 3))), w_pre hS hK⟩ rfl rfl hl.1 rfl (lv_room (Nat.le_of_ble_eq_true rfl)) dX9_heardOf_17 ⟨Nat.le_refl _, Nat.le_refl _⟩) hS0 (fun z18 M17 H locs r19 h hS hS0 => ?_)
  obtain ⟨e20, h⟩ := h
  rw [e20] at hS
  refine w_calli (va_runV (As := [.int (iI z18)]) (rest := []) ⟨hx, hb, hml, hown, hts⟩ (cC_Ring_heardBehind l D dA b M a0 z18 lt_a0 cd_a0 _ h) (cwV 1 hts (z_gV k502 k503 k504 k6 k505) rfl rfl rfl dm_X6_heardBehind ⟨Nat.le_of_ble_eq_true rfl, Nat.le_of_ble_eq_true rfl⟩) ⟨wPre_blind, (w_recv hS hK.1 lt_a0 (zkd_of cd_a0 rfl) (by decide) (rfl : vwCl[6]? = some (RX6, TX6, 6))), w_pre hS hK⟩ rfl rfl hl.1 rfl (lv_room (Nat.le_of_ble_eq_true rfl)) dX9_heardOf_20 ⟨Nat.le_refl _, Nat.le_refl _⟩) hS0 (fun z22 M21 H locs r23 h hS hS0 => ?_)
  obtain ⟨e24, h⟩ := h
  rw [e24] at hS
  exact w_iret hx hb hr hlocks hS hS0 (sI_of r23) ⟨rfl, h⟩ dX9_heardOf_23

set_option maxRecDepth 100000 in
def wC_Studio_heardInAll (a0 : Int) (M : zM) (Q : Int → Prop) : Prop := pL2 (fun K5 x1 x2 => ((sI (M 32 2)) ≤ (sI x2) → Q (sI x1)) ∧ ((sI x2) < (sI (M 32 2)) → ((0 ≤ (sI x2) ∧ (sI x2) < 4) ∧ wC_Studio_heardOf (41 + 4 * (sI x2).toNat) a0 M (fun z21 => K5 (orI x1 z21) (x2 + 1))))) 0 0
set_option maxHeartbeats 4000000 in
set_option maxRecDepth 100000 in
theorem cC_Studio_heardInAll (l : Launch) (D : va_G) (dA : Nat → ClassId) (b : Nat) (M : zM) (a0 : Int)  (Q : Int → Prop) (h : wC_Studio_heardInAll a0 M Q) : Met l yX9_heardInAll (.code yX9_heardInAll cX9_heardInAll 5 (some .int) :: zt) (z_rm 3) (va_Pc [.ref (b + 32), .long (iL a0)] (wPre D dA vwCl (z_tys dA) wC nC b M)) (va_Qi (wQi (fun z9 u9 => u9 = M ∧ Q z9)) (zB D dA vwCl wC nC b) (zA nC b)) 0 0 (zA nC b) := by
  unfold wC_Studio_heardInAll at h
  refine Met.ofW (cc := cX9_heardInAll) (maxL := 5) (ret := (some .int)) (by decide) rfl ?_
  intro p e s m args below meth c s₁ B hml hv
  obtain ⟨hargs, hS, hK⟩ := hv
  have hx := B.exec
  have hb := B.bytes
  have hr := B.returns
  have hts := atoms_spec (ws := .code yX9_heardInAll cX9_heardInAll 5 (some .int) :: zt) B.pre
  have hown : s.vm.findClass RX9 = some m.cls := findClass_of_methodNamed B.named
  have hlocks := B.notSynchronized
  have hS0 : va_S (zA nC b) s.heap s.heap [] := va_S.rf
  have hl := lv_entry ([.ref (b + 32), .long (iL a0)]) (n := 5) (Nat.le_of_ble_eq_true rfl)
  have hent : entryFrame m args 5 = F0 m 0 ((lg_sl ([.ref (b + 32), .long (iL a0)]) ++ List.replicate (5 - (lg_sl ([.ref (b + 32), .long (iL a0)])).length) Slot.unset).toArray) [] := by rw [hargs]; exact lg_entry_eq m ([.ref (b + 32), .long (iL a0)]) 5
  rw [hent]
  generalize (lg_sl ([.ref (b + 32), .long (iL a0)]) ++ List.replicate (5 - (lg_sl ([.ref (b + 32), .long (iL a0)])).length) Slot.unset).toArray = ls at hl ⊢
  have hl : lv_has ls 5 [(0, .ref (b + 32)), (1, .long (iL a0))] := hl
  refine z_iconst hx hb dX9_heardInAll_0 ?_
  refine lv_istore_n (lv' := [(3, .int (iI 0)), (0, .ref (b + 32)), (1, .long (iL a0))]) hx hb dX9_heardInAll_1 rfl hl (by decide) rfl (fun ls hl => ?_)
  refine z_iconst hx hb dX9_heardInAll_2 ?_
  refine lv_istore (lv' := [(4, .int (iI 0)), (3, .int (iI 0)), (0, .ref (b + 32)), (1, .long (iL a0))]) hx hb dX9_heardInAll_3 hl (by decide) rfl (fun ls hl => ?_)
  obtain ⟨I3, ⟨n4, h5⟩, h6⟩ := h
  have L7 : ∀ (n8 : Nat) (x1 x2 : Int) (H : Heap) (locs : List Loc) (ls : Array Slot), I3 n8 x1 x2 → zR D dA vwCl wC nC b M H → va_S (zA nC b) s.heap H locs → lv_has ls 5 [(0, .ref (b + 32)), (1, .long (iL a0)), (3, .int (iI x1)), (4, .int (iI x2))] → W p l e (headSpec (.code yX9_heardInAll cX9_heardInAll 5 (some .int) :: zt) (z_rm 3)).room s m args below meth c H locs 0 0 (MQ below (va_Qi (wQi (fun z9 u9 => u9 = M ∧ Q z9)) (zB D dA vwCl wC nC b) (zA nC b)) args s 0 0 (zA nC b)) (F0 m 5 ls []) := by
    intro n8
    induction n8 using Nat.strongRecOn with
    | ind n8 i9 =>
      intro x1 x2 H locs ls h hS hS0 hl
      have h := h6 n8 x1 x2 h
      refine lv_iload hx hb dX9_heardInAll_5 (lv_at hl 3 rfl) ?_
      refine lv_aload_n hx hb dX9_heardInAll_7 rfl (lv_at hl 0 rfl) ?_
      refine w_geti hx hb hts (z_memU u9) hown hK.1 hS f9_2 (by decide) (zkd_of (rfl : zcd wC 32 = 8) rfl) (Or.inl (hts _ (z_mem k118))) dX9_heardInAll_8 ?_
      refine w_icmp_ge (tgt := 35) hx hb rfl rfl dX9_heardInAll_11 (by decide) (fun c10 => ?_) (fun c10 => ?_)
      · skip
        have h := h.1 c10
        refine lv_iload_n hx hb dX9_heardInAll_35 rfl (lv_at hl 2 rfl) ?_
        exact w_iret hx hb hr hlocks hS hS0 rfl ⟨rfl, h⟩ dX9_heardInAll_36
      · skip
        have h := h.2 c10
        refine lv_iload_n hx hb dX9_heardInAll_14 rfl (lv_at hl 2 rfl) ?_
        refine lv_aload_n hx hb dX9_heardInAll_15 rfl (lv_at hl 0 rfl) ?_
        refine lv_aload_n hx hb dX9_heardInAll_16 rfl (lv_at hl 0 rfl) ?_
        refine w_getr (j2 := 34) hx hb hts (z_memU u9) hown hK.1 hS f9_1 (by decide) (zkd_of (rfl : zcd wC 32 = 8) rfl) (zrf_of (rfl : zcd wC 32 = 8) rfl) (Or.inl (hts _ (z_mem k117))) dX9_heardInAll_17 ?_
        refine lv_iload hx hb dX9_heardInAll_20 (lv_at hl 3 rfl) ?_
        obtain ⟨o11, h⟩ := h
        refine w_aald (n := 4) (i := (sI x2)) (j2 := (41 + 4 * (sI x2).toNat)) hx hb hK.1 (t0 := 6) (r := 6) (by decide) rfl rfl hS (by decide) (zkd_of (rfl : zcd wC 34 = 10) rfl) (zln_of (rfl : zcd wC 34 = 10) rfl) rfl o11.1 o11.2 (by decide) (zrf_of (rfl : zcd wC 34 = 10) rfl) dX9_heardInAll_22 ?_
        obtain ⟨lt12, cd13⟩ : (41 + 4 * (sI x2).toNat) < nC ∧ zcd wC (41 + 4 * (sI x2).toNat) = 14 := (by decide : ∀ k : Nat, k < 4 → (41 + 4 * k) < nC ∧ zcd wC (41 + 4 * k) = 14) (sI x2).toNat (by clear h; have h0 := o11.1; have h1 := o11.2; omega)
        obtain ⟨lt14, cd15, lt16, cd17, lt18, cd19⟩ := nx_ring (41 + 4 * (sI x2).toNat) lt12 cd13
        refine lv_lload_n hx hb dX9_heardInAll_23 rfl (lv_at hl 1 rfl) ?_
        refine w_calli (va_runV (As := [.ref (b + (41 + 4 * (sI x2).toNat)), .long (iL a0)]) (rest := [.int (iI x1)]) ⟨hx, hb, hml, hown, hts⟩ (cC_Studio_heardOf l D dA b M (41 + 4 * (sI x2).toNat) a0 lt12 cd13 _ h) (cwV 2 hts (z_gV k478 k479 k480 k4 k481) rfl rfl rfl dm_X9_heardOf ⟨Nat.le_of_ble_eq_true rfl, Nat.le_of_ble_eq_true rfl⟩) ⟨wPre_blind, (w_recv hS hK.1 (by decide) (zkd_of (rfl : zcd wC 32 = 8) rfl) (by decide) (rfl : vwCl[9]? = some (RX9, TX9, 3))), w_pre hS hK⟩ rfl rfl hl.1 rfl (lv_room (Nat.le_of_ble_eq_true rfl)) dX9_heardInAll_24 ⟨Nat.le_refl _, Nat.le_refl _⟩) hS0 (fun z21 M20 H locs r22 h hS hS0 => ?_)
        obtain ⟨e23, h⟩ := h
        rw [e23] at hS
        refine w_ior hx hb dX9_heardInAll_27 ?_
        refine lv_istore_n (lv' := [(3, .int (iI (orI x1 z21))), (0, .ref (b + 32)), (1, .long (iL a0)), (4, .int (iI x2))]) hx hb dX9_heardInAll_28 rfl hl (by decide) rfl (fun ls hl => ?_)
        refine z_iinc (lv' := [(4, .int (iI (x2 + 1))), (3, .int (iI (orI x1 z21))), (0, .ref (b + 32)), (1, .long (iL a0))]) hx hb dX9_heardInAll_29 hl (k := 3) rfl (by decide) rfl (fun ls hl => ?_)
        refine lv_goto (tgt := 5) hx hb dX9_heardInAll_32 (by decide) ?_
        obtain ⟨n24, h25, h⟩ := h
        exact i9 n24 h25 (orI x1 z21) (x2 + 1) _ _ _ h hS hS0 (lv_sub hl [2, 3, 1, 0] rfl)
  exact L7 n4 0 0 _ _ _ h5 hS hS0 (lv_sub hl [2, 3, 1, 0] rfl)

set_option maxRecDepth 100000 in
def wC_heard (a0 : Int) (a1 : Int) (M : zM) (Q : Int → Prop) : Prop := (0 ≤ (sL a1) → ((sI a0) ≠ (-1) → wC_Studio_find a0 M (fun z4 => (z4 = none → Q (-1)) ∧ (∀ q6, z4 = some q6 → (q6 < nC ∧ zcd wC q6 = 14) ∧ (wC_Studio_heardOf q6 a1 M (fun z16 => Q z16))))) ∧ ((sI a0) = (-1) → wC_Studio_heardInAll a1 M (fun z20 => Q z20))) ∧ ((sL a1) < 0 → Q (-1))
set_option maxHeartbeats 4000000 in
set_option maxRecDepth 100000 in
theorem cC_heard (l : Launch) (D : va_G) (dA : Nat → ClassId) (b : Nat) (M : zM) (a0 : Int) (a1 : Int)  (Q : Int → Prop) (h : wC_heard a0 a1 M Q) : Met l yX11_heard (.code yX11_heard cX11_heard 5 (some .int) :: zt) (z_rm 4) (va_Pc [.ref (b + 0), .int (iI a0), .long (iL a1)] (wPre D dA vwCl (z_tys dA) wC nC b M)) (va_Qi (wQi (fun z9 u9 => u9 = M ∧ Q z9)) (zB D dA vwCl wC nC b) (zA nC b)) 0 0 (zA nC b) := by
  unfold wC_heard at h
  refine Met.ofW (cc := cX11_heard) (maxL := 5) (ret := (some .int)) (by decide) rfl ?_
  intro p e s m args below meth c s₁ B hml hv
  obtain ⟨hargs, hS, hK⟩ := hv
  have hx := B.exec
  have hb := B.bytes
  have hr := B.returns
  have hts := atoms_spec (ws := .code yX11_heard cX11_heard 5 (some .int) :: zt) B.pre
  have hown : s.vm.findClass RX11 = some m.cls := findClass_of_methodNamed B.named
  have hlocks := B.notSynchronized
  have hS0 : va_S (zA nC b) s.heap s.heap [] := va_S.rf
  have hl := lv_entry ([.ref (b + 0), .int (iI a0), .long (iL a1)]) (n := 5) (Nat.le_of_ble_eq_true rfl)
  have hent : entryFrame m args 5 = F0 m 0 ((lg_sl ([.ref (b + 0), .int (iI a0), .long (iL a1)]) ++ List.replicate (5 - (lg_sl ([.ref (b + 0), .int (iI a0), .long (iL a1)])).length) Slot.unset).toArray) [] := by rw [hargs]; exact lg_entry_eq m ([.ref (b + 0), .int (iI a0), .long (iL a1)]) 5
  rw [hent]
  generalize (lg_sl ([.ref (b + 0), .int (iI a0), .long (iL a1)]) ++ List.replicate (5 - (lg_sl ([.ref (b + 0), .int (iI a0), .long (iL a1)])).length) Slot.unset).toArray = ls at hl ⊢
  have hl : lv_has ls 5 [(0, .ref (b + 0)), (1, .int (iI a0)), (2, .long (iL a1))] := hl
  refine lv_lload_n hx hb dX11_heard_0 rfl (lv_at hl 2 rfl) ?_
  refine z_lconst0 hx hb dX11_heard_1 ?_
  refine w_lcmp_ge hx hb rfl (sL_of (by decide)) dX11_heard_2 dX11_heard_3 (tgt := 8) (by decide) (fun c1 => ?_) (fun c1 => ?_)
  · skip
    have h := h.1 c1
    refine lv_iload_n hx hb dX11_heard_8 rfl (lv_at hl 1 rfl) ?_
    refine z_iconst hx hb dX11_heard_9 ?_
    refine w_icmp_ne (tgt := 22) hx hb rfl (sI_of (by decide)) dX11_heard_10 (by decide) (fun c2 => ?_) (fun c2 => ?_)
    · skip
      have h := h.1 c2
      refine lv_aload_n hx hb dX11_heard_22 rfl (lv_at hl 0 rfl) ?_
      refine w_getr (j2 := 32) hx hb hts (z_memU u11) hown hK.1 hS f11_2 (by decide) (zkd_of (rfl : zcd wC 0 = 0) rfl) (zrf_of (rfl : zcd wC 0 = 0) rfl) (Or.inl (hts _ (z_mem k244))) dX11_heard_23 ?_
      refine lv_iload_n hx hb dX11_heard_26 rfl (lv_at hl 1 rfl) ?_
      refine w_callq (va_runV (As := [.int (iI a0)]) (rest := []) ⟨hx, hb, hml, hown, hts⟩ (cC_Studio_find l D dA b M a0 _ h) (cwV 1 hts (z_gV k411 k412 k413 k4 k414) rfl rfl rfl dm_X9_find ⟨Nat.le_of_ble_eq_true rfl, Nat.le_of_ble_eq_true rfl⟩) ⟨wPre_blind, (w_recv hS hK.1 (by decide) (zkd_of (rfl : zcd wC 32 = 8) rfl) (by decide) (rfl : vwCl[9]? = some (RX9, TX9, 3))), w_pre hS hK⟩ rfl rfl hl.1 rfl (lv_room (Nat.le_of_ble_eq_true rfl)) dX11_heard_27 ⟨Nat.le_refl _, Nat.le_refl _⟩) hS0 (fun z4 M3 H locs h hS hS0 => ?_)
      obtain ⟨e5, h⟩ := h
      rw [e5] at hS
      rcases z4 with _ | q6
      · skip
        have h := h.1 rfl
        refine lv_astoreN (lv' := [(4, .null), (0, .ref (b + 0)), (1, .int (iI a0)), (2, .long (iL a1))]) hx hb dX11_heard_30 hl (by decide) rfl (fun ls hl => ?_)
        refine lv_aloadN hx hb dX11_heard_32 (lv_at hl 0 rfl) ?_
        refine lv_ifnonnullN hx hb dX11_heard_34 ?_
        refine z_iconst hx hb dX11_heard_37 ?_
        refine lv_goto (tgt := 51) hx hb dX11_heard_38 (by decide) ?_
        exact w_iret hx hb hr hlocks hS hS0 (sI_of (by decide)) ⟨rfl, h⟩ dX11_heard_51
      · skip
        obtain ⟨⟨lt7, cd8⟩, h⟩ := h.2 q6 rfl
        obtain ⟨lt9, cd10, lt11, cd12, lt13, cd14⟩ := nx_ring q6 lt7 cd8
        refine lv_astore (lv' := [(4, .ref (b + q6)), (0, .ref (b + 0)), (1, .int (iI a0)), (2, .long (iL a1))]) hx hb dX11_heard_30 hl (by decide) rfl (fun ls hl => ?_)
        refine lv_aload hx hb dX11_heard_32 (lv_at hl 0 rfl) ?_
        refine lv_ifnonnull (tgt := 41) hx hb dX11_heard_34 (by decide) ?_
        refine lv_aload_n hx hb dX11_heard_41 rfl (lv_at hl 1 rfl) ?_
        refine w_getr (j2 := 32) hx hb hts (z_memU u11) hown hK.1 hS f11_2 (by decide) (zkd_of (rfl : zcd wC 0 = 0) rfl) (zrf_of (rfl : zcd wC 0 = 0) rfl) (Or.inl (hts _ (z_mem k244))) dX11_heard_42 ?_
        refine lv_aload hx hb dX11_heard_45 (lv_at hl 0 rfl) ?_
        refine lv_lload_n hx hb dX11_heard_47 rfl (lv_at hl 3 rfl) ?_
        refine w_calli (va_runV (As := [.ref (b + q6), .long (iL a1)]) (rest := []) ⟨hx, hb, hml, hown, hts⟩ (cC_Studio_heardOf l D dA b M q6 a1 lt7 cd8 _ h) (cwV 2 hts (z_gV k506 k479 k480 k4 k481) rfl rfl rfl dm_X9_heardOf ⟨Nat.le_of_ble_eq_true rfl, Nat.le_of_ble_eq_true rfl⟩) ⟨wPre_blind, (w_recv hS hK.1 (by decide) (zkd_of (rfl : zcd wC 32 = 8) rfl) (by decide) (rfl : vwCl[9]? = some (RX9, TX9, 3))), w_pre hS hK⟩ rfl rfl hl.1 rfl (lv_room (Nat.le_of_ble_eq_true rfl)) dX11_heard_48 ⟨Nat.le_refl _, Nat.le_refl _⟩) hS0 (fun z16 M15 H locs r17 h hS hS0 => ?_)
        obtain ⟨e18, h⟩ := h
        rw [e18] at hS
        exact w_iret hx hb hr hlocks hS hS0 (sI_of r17) ⟨rfl, h⟩ dX11_heard_51
    · skip
      have h := h.2 c2
      refine lv_aload_n hx hb dX11_heard_13 rfl (lv_at hl 0 rfl) ?_
      refine w_getr (j2 := 32) hx hb hts (z_memU u11) hown hK.1 hS f11_2 (by decide) (zkd_of (rfl : zcd wC 0 = 0) rfl) (zrf_of (rfl : zcd wC 0 = 0) rfl) (Or.inl (hts _ (z_mem k244))) dX11_heard_14 ?_
      refine lv_lload_n hx hb dX11_heard_17 rfl (lv_at hl 2 rfl) ?_
      refine w_calli (va_runV (As := [.long (iL a1)]) (rest := []) ⟨hx, hb, hml, hown, hts⟩ (cC_Studio_heardInAll l D dA b M a1 _ h) (cwV 1 hts (z_gV k474 k475 k476 k4 k477) rfl rfl rfl dm_X9_heardInAll ⟨Nat.le_of_ble_eq_true rfl, Nat.le_of_ble_eq_true rfl⟩) ⟨wPre_blind, (w_recv hS hK.1 (by decide) (zkd_of (rfl : zcd wC 32 = 8) rfl) (by decide) (rfl : vwCl[9]? = some (RX9, TX9, 3))), w_pre hS hK⟩ rfl rfl hl.1 rfl (lv_room (Nat.le_of_ble_eq_true rfl)) dX11_heard_18 ⟨Nat.le_refl _, Nat.le_refl _⟩) hS0 (fun z20 M19 H locs r21 h hS hS0 => ?_)
      obtain ⟨e22, h⟩ := h
      rw [e22] at hS
      exact w_iret hx hb hr hlocks hS hS0 (sI_of r21) ⟨rfl, h⟩ dX11_heard_21
  · skip
    have h := h.2 c1
    refine z_iconst hx hb dX11_heard_6 ?_
    exact w_iret hx hb hr hlocks hS hS0 (sI_of (by decide)) ⟨rfl, h⟩ dX11_heard_7

set_option maxRecDepth 100000 in
def wC_Studio_steady  (M : zM) (Q : Int → Prop) : Prop := wC_Motor_steady 35 M (fun z2 => wC_Motor_steady 38 M (fun z6 => Q (max z2 z6)))
set_option maxHeartbeats 4000000 in
set_option maxRecDepth 100000 in
theorem cC_Studio_steady (l : Launch) (D : va_G) (dA : Nat → ClassId) (b : Nat) (M : zM)   (Q : Int → Prop) (h : wC_Studio_steady  M Q) : Met l yX9_steady (.code yX9_steady cX9_steady 1 (some .int) :: zt) (z_rm 1) (va_Pc [.ref (b + 32)] (wPre D dA vwCl (z_tys dA) wC nC b M)) (va_Qi (wQi (fun z9 u9 => u9 = M ∧ Q z9)) (zB D dA vwCl wC nC b) (zA nC b)) 0 0 (zA nC b) := by
  unfold wC_Studio_steady at h
  refine Met.ofW (cc := cX9_steady) (maxL := 1) (ret := (some .int)) (by decide) rfl ?_
  intro p e s m args below meth c s₁ B hml hv
  obtain ⟨hargs, hS, hK⟩ := hv
  have hx := B.exec
  have hb := B.bytes
  have hr := B.returns
  have hts := atoms_spec (ws := .code yX9_steady cX9_steady 1 (some .int) :: zt) B.pre
  have hown : s.vm.findClass RX9 = some m.cls := findClass_of_methodNamed B.named
  have hlocks := B.notSynchronized
  have hS0 : va_S (zA nC b) s.heap s.heap [] := va_S.rf
  have hl := lv_entry ([.ref (b + 32)]) (n := 1) (Nat.le_of_ble_eq_true rfl)
  have hent : entryFrame m args 1 = F0 m 0 ((lg_sl ([.ref (b + 32)]) ++ List.replicate (1 - (lg_sl ([.ref (b + 32)])).length) Slot.unset).toArray) [] := by rw [hargs]; exact lg_entry_eq m ([.ref (b + 32)]) 1
  rw [hent]
  generalize (lg_sl ([.ref (b + 32)]) ++ List.replicate (1 - (lg_sl ([.ref (b + 32)])).length) Slot.unset).toArray = ls at hl ⊢
  have hl : lv_has ls 1 [(0, .ref (b + 32))] := hl
  refine lv_aload_n hx hb dX9_steady_0 rfl (lv_at hl 0 rfl) ?_
  refine w_getr (j2 := 33) hx hb hts (z_memU u9) hown hK.1 hS f9_0 (by decide) (zkd_of (rfl : zcd wC 32 = 8) rfl) (zrf_of (rfl : zcd wC 32 = 8) rfl) (Or.inl (hts _ (z_mem k116))) dX9_steady_1 ?_
  refine z_iconst hx hb dX9_steady_4 ?_
  refine w_aald (n := 2) (i := 0) (j2 := 35) hx hb hK.1 (t0 := 5) (r := 5) (by decide) rfl rfl hS (by decide) (zkd_of (rfl : zcd wC 33 = 9) rfl) (zln_of (rfl : zcd wC 33 = 9) rfl) (sI_of (by decide)) (by decide) (by decide) (by decide) (zrf_of (rfl : zcd wC 33 = 9) rfl) dX9_steady_5 ?_
  refine w_calli (va_runV (As := []) (rest := []) ⟨hx, hb, hml, hown, hts⟩ (cC_Motor_steady l D dA b M 35 (by decide) (rfl : zcd wC 35 = 11) _ h) (cwV 0 hts (z_gV k519 k488 k489 k5 k490) rfl rfl rfl dm_X2_steady ⟨Nat.le_of_ble_eq_true rfl, Nat.le_of_ble_eq_true rfl⟩) ⟨wPre_blind, (w_recv hS hK.1 (by decide) (zkd_of (rfl : zcd wC 35 = 11) rfl) (by decide) (rfl : vwCl[2]? = some (RX2, TX2, 3))), w_pre hS hK⟩ rfl rfl hl.1 rfl (lv_room (Nat.le_of_ble_eq_true rfl)) dX9_steady_6 ⟨Nat.le_refl _, Nat.le_refl _⟩) hS0 (fun z2 M1 H locs r3 h hS hS0 => ?_)
  obtain ⟨e4, h⟩ := h
  rw [e4] at hS
  refine lv_aload_n hx hb dX9_steady_9 rfl (lv_at hl 0 rfl) ?_
  refine w_getr (j2 := 33) hx hb hts (z_memU u9) hown hK.1 hS f9_0 (by decide) (zkd_of (rfl : zcd wC 32 = 8) rfl) (zrf_of (rfl : zcd wC 32 = 8) rfl) (Or.inl (hts _ (z_mem k116))) dX9_steady_10 ?_
  refine z_iconst hx hb dX9_steady_13 ?_
  refine w_aald (n := 2) (i := 1) (j2 := 38) hx hb hK.1 (t0 := 5) (r := 5) (by decide) rfl rfl hS (by decide) (zkd_of (rfl : zcd wC 33 = 9) rfl) (zln_of (rfl : zcd wC 33 = 9) rfl) (sI_of (by decide)) (by decide) (by decide) (by decide) (zrf_of (rfl : zcd wC 33 = 9) rfl) dX9_steady_14 ?_
  refine w_calli (va_runV (As := []) (rest := [.int (iI z2)]) ⟨hx, hb, hml, hown, hts⟩ (cC_Motor_steady l D dA b M 38 (by decide) (rfl : zcd wC 38 = 11) _ h) (cwV 0 hts (z_gV k519 k488 k489 k5 k490) rfl rfl rfl dm_X2_steady ⟨Nat.le_of_ble_eq_true rfl, Nat.le_of_ble_eq_true rfl⟩) ⟨wPre_blind, (w_recv hS hK.1 (by decide) (zkd_of (rfl : zcd wC 38 = 11) rfl) (by decide) (rfl : vwCl[2]? = some (RX2, TX2, 3))), w_pre hS hK⟩ rfl rfl hl.1 rfl (lv_room (Nat.le_of_ble_eq_true rfl)) dX9_steady_15 ⟨Nat.le_refl _, Nat.le_refl _⟩) hS0 (fun z6 M5 H locs r7 h hS hS0 => ?_)
  obtain ⟨e8, h⟩ := h
  rw [e8] at hS
  refine w_mmax hx hb (hml.trans hl.1.symm) hown (hts _ (z_mem k520)) (hts _ (z_mem k341)) (hts _ (z_mem k15)) (hts _ (z_mem k342)) (by exact Nat.le_of_ble_eq_true rfl) (by exact Nat.le_of_ble_eq_true rfl) (by exact Nat.le_refl _) (by exact Nat.le_refl _) (sI_of r3) (sI_of r7) dX9_steady_18 ?_
  exact w_iret hx hb hr hlocks hS hS0 (sI_of (R_max (sI_c (x := z2) (sI_of r3)) (sI_c (x := z6) (sI_of r7)))) ⟨rfl, h⟩ dX9_steady_21

set_option maxRecDepth 100000 in
def wC_Studio_grants (a0 : Nat) (a1 : Int) (M : zM) (Q : Int → Prop) : Prop := wC_Studio_heardOf a0 a1 M (fun z8 => ((andI (M a0 4) (xorI z8 (-1))) ≠ 0 → Q 0) ∧ ((andI (M a0 4) (xorI z8 (-1))) = 0 → Q 1))
set_option maxHeartbeats 4000000 in
set_option maxRecDepth 100000 in
theorem cC_Studio_grants (l : Launch) (D : va_G) (dA : Nat → ClassId) (b : Nat) (M : zM) (a0 : Nat) (a1 : Int) (lt_a0 : a0 < nC) (cd_a0 : zcd wC a0 = 14) (Q : Int → Prop) (h : wC_Studio_grants a0 a1 M Q) : Met l yX9_grants (.code yX9_grants cX9_grants 4 (some .boolean) :: zt) (z_rm 3) (va_Pc [.ref (b + 32), .ref (b + a0), .long (iL a1)] (wPre D dA vwCl (z_tys dA) wC nC b M)) (va_Qi (wQz (fun z9 u9 => u9 = M ∧ Q z9)) (zB D dA vwCl wC nC b) (zA nC b)) 0 0 (zA nC b) := by
  unfold wC_Studio_grants at h
  refine Met.ofW (cc := cX9_grants) (maxL := 4) (ret := (some .boolean)) (by decide) rfl ?_
  intro p e s m args below meth c s₁ B hml hv
  obtain ⟨hargs, hS, hK⟩ := hv
  have hx := B.exec
  have hb := B.bytes
  have hr := B.returns
  have hts := atoms_spec (ws := .code yX9_grants cX9_grants 4 (some .boolean) :: zt) B.pre
  have hown : s.vm.findClass RX9 = some m.cls := findClass_of_methodNamed B.named
  have hlocks := B.notSynchronized
  have hS0 : va_S (zA nC b) s.heap s.heap [] := va_S.rf
  have hl := lv_entry ([.ref (b + 32), .ref (b + a0), .long (iL a1)]) (n := 4) (Nat.le_of_ble_eq_true rfl)
  have hent : entryFrame m args 4 = F0 m 0 ((lg_sl ([.ref (b + 32), .ref (b + a0), .long (iL a1)]) ++ List.replicate (4 - (lg_sl ([.ref (b + 32), .ref (b + a0), .long (iL a1)])).length) Slot.unset).toArray) [] := by rw [hargs]; exact lg_entry_eq m ([.ref (b + 32), .ref (b + a0), .long (iL a1)]) 4
  rw [hent]
  generalize (lg_sl ([.ref (b + 32), .ref (b + a0), .long (iL a1)]) ++ List.replicate (4 - (lg_sl ([.ref (b + 32), .ref (b + a0), .long (iL a1)])).length) Slot.unset).toArray = ls at hl ⊢
  have hl : lv_has ls 4 [(0, .ref (b + 32)), (1, .ref (b + a0)), (2, .long (iL a1))] := hl
  obtain ⟨lt1, cd2, lt3, cd4, lt5, cd6⟩ := nx_ring a0 lt_a0 cd_a0
  refine lv_aload_n hx hb dX9_grants_0 rfl (lv_at hl 1 rfl) ?_
  refine w_geti hx hb hts (z_memU u6) hown hK.1 hS f6_4 lt_a0 (zkd_of cd_a0 rfl) (Or.inl (hts _ (z_mem k107))) dX9_grants_1 ?_
  refine lv_aload_n hx hb dX9_grants_4 rfl (lv_at hl 0 rfl) ?_
  refine lv_aload_n hx hb dX9_grants_5 rfl (lv_at hl 1 rfl) ?_
  refine lv_lload_n hx hb dX9_grants_6 rfl (lv_at hl 2 rfl) ?_
  refine w_calli (va_runV (As := [.ref (b + a0), .long (iL a1)]) (rest := [.int (iI (M a0 4))]) ⟨hx, hb, hml, hown, hts⟩ (cC_Studio_heardOf l D dA b M a0 a1 lt_a0 cd_a0 _ h) (cwV 2 hts (z_gV k478 k479 k480 k4 k481) rfl rfl rfl dm_X9_heardOf ⟨Nat.le_of_ble_eq_true rfl, Nat.le_of_ble_eq_true rfl⟩) ⟨wPre_blind, (w_recv hS hK.1 (by decide) (zkd_of (rfl : zcd wC 32 = 8) rfl) (by decide) (rfl : vwCl[9]? = some (RX9, TX9, 3))), w_pre hS hK⟩ rfl rfl hl.1 rfl (lv_room (Nat.le_of_ble_eq_true rfl)) dX9_grants_7 ⟨Nat.le_refl _, Nat.le_refl _⟩) hS0 (fun z8 M7 H locs r9 h hS hS0 => ?_)
  obtain ⟨e10, h⟩ := h
  rw [e10] at hS
  refine z_iconst hx hb dX9_grants_10 ?_
  refine w_ixor hx hb dX9_grants_11 ?_
  refine w_iand hx hb dX9_grants_12 ?_
  refine w_if_ne (tgt := 20) hx hb (sI_of (andI_R _ _)) dX9_grants_13 (by decide) (fun c11 => ?_) (fun c11 => ?_)
  · skip
    have h := h.1 c11
    refine z_iconst hx hb dX9_grants_20 ?_
    exact w_zret hx hb hr hlocks hS hS0 (sI_of (by decide)) (by decide) ⟨rfl, h⟩ dX9_grants_21
  · skip
    have h := h.2 c11
    refine z_iconst hx hb dX9_grants_16 ?_
    refine lv_goto (tgt := 21) hx hb dX9_grants_17 (by decide) ?_
    exact w_zret hx hb hr hlocks hS hS0 (sI_of (by decide)) (by decide) ⟨rfl, h⟩ dX9_grants_21

set_option maxRecDepth 100000 in
def wC_Meeting_turnsOf (a1 : Nat) (a2 : Int) (M : zM) (Q : Int → Prop) : Prop := pL2 (fun K6 x7 x8 => ((sI a2) ≤ (sI x8) → Q (sI x7)) ∧ ((sI x8) < (sI a2) → wC_Studio_grants a1 ((M 57 1) + (sI x8)) M (fun z18 => (z18 = 0 → K6 x7 (x8 + 1)) ∧ (z18 ≠ 0 → K6 (orI x7 (shlI 1 x8)) (x8 + 1))))) 0 0
set_option maxHeartbeats 4000000 in
set_option maxRecDepth 100000 in
theorem cC_Meeting_turnsOf (l : Launch) (D : va_G) (dA : Nat → ClassId) (b : Nat) (M : zM) (a1 : Nat) (a2 : Int) (lt_a1 : a1 < nC) (cd_a1 : zcd wC a1 = 14) (Q : Int → Prop) (h : wC_Meeting_turnsOf a1 a2 M Q) : Met l yX1_turnsOf (.code yX1_turnsOf cX1_turnsOf 6 (some .int) :: zt) (z_rm 4) (va_Pc [.ref (b + 57), .ref (b + 32), .ref (b + a1), .int (iI a2)] (wPre D dA vwCl (z_tys dA) wC nC b M)) (va_Qi (wQi (fun z9 u9 => u9 = M ∧ Q z9)) (zB D dA vwCl wC nC b) (zA nC b)) 0 0 (zA nC b) := by
  unfold wC_Meeting_turnsOf at h
  refine Met.ofW (cc := cX1_turnsOf) (maxL := 6) (ret := (some .int)) (by decide) rfl ?_
  intro p e s m args below meth c s₁ B hml hv
  obtain ⟨hargs, hS, hK⟩ := hv
  have hx := B.exec
  have hb := B.bytes
  have hr := B.returns
  have hts := atoms_spec (ws := .code yX1_turnsOf cX1_turnsOf 6 (some .int) :: zt) B.pre
  have hown : s.vm.findClass RX1 = some m.cls := findClass_of_methodNamed B.named
  have hlocks := B.notSynchronized
  have hS0 : va_S (zA nC b) s.heap s.heap [] := va_S.rf
  have hl := lv_entry ([.ref (b + 57), .ref (b + 32), .ref (b + a1), .int (iI a2)]) (n := 6) (Nat.le_of_ble_eq_true rfl)
  have hent : entryFrame m args 6 = F0 m 0 ((lg_sl ([.ref (b + 57), .ref (b + 32), .ref (b + a1), .int (iI a2)]) ++ List.replicate (6 - (lg_sl ([.ref (b + 57), .ref (b + 32), .ref (b + a1), .int (iI a2)])).length) Slot.unset).toArray) [] := by rw [hargs]; exact lg_entry_eq m ([.ref (b + 57), .ref (b + 32), .ref (b + a1), .int (iI a2)]) 6
  rw [hent]
  generalize (lg_sl ([.ref (b + 57), .ref (b + 32), .ref (b + a1), .int (iI a2)]) ++ List.replicate (6 - (lg_sl ([.ref (b + 57), .ref (b + 32), .ref (b + a1), .int (iI a2)])).length) Slot.unset).toArray = ls at hl ⊢
  have hl : lv_has ls 6 [(0, .ref (b + 57)), (1, .ref (b + 32)), (2, .ref (b + a1)), (3, .int (iI a2))] := hl
  obtain ⟨lt1, cd2, lt3, cd4, lt5, cd6⟩ := nx_ring a1 lt_a1 cd_a1
  refine z_iconst hx hb dX1_turnsOf_0 ?_
  refine lv_istore (lv' := [(4, .int (iI 0)), (0, .ref (b + 57)), (1, .ref (b + 32)), (2, .ref (b + a1)), (3, .int (iI a2))]) hx hb dX1_turnsOf_1 hl (by decide) rfl (fun ls hl => ?_)
  refine z_iconst hx hb dX1_turnsOf_3 ?_
  refine lv_istore (lv' := [(5, .int (iI 0)), (4, .int (iI 0)), (0, .ref (b + 57)), (1, .ref (b + 32)), (2, .ref (b + a1)), (3, .int (iI a2))]) hx hb dX1_turnsOf_4 hl (by decide) rfl (fun ls hl => ?_)
  obtain ⟨I9, ⟨n10, h11⟩, h12⟩ := h
  have L13 : ∀ (n14 : Nat) (x7 x8 : Int) (H : Heap) (locs : List Loc) (ls : Array Slot), I9 n14 x7 x8 → zR D dA vwCl wC nC b M H → va_S (zA nC b) s.heap H locs → lv_has ls 6 [(0, .ref (b + 57)), (1, .ref (b + 32)), (2, .ref (b + a1)), (3, .int (iI a2)), (4, .int (iI x7)), (5, .int (iI x8))] → W p l e (headSpec (.code yX1_turnsOf cX1_turnsOf 6 (some .int) :: zt) (z_rm 4)).room s m args below meth c H locs 0 0 (MQ below (va_Qi (wQi (fun z9 u9 => u9 = M ∧ Q z9)) (zB D dA vwCl wC nC b) (zA nC b)) args s 0 0 (zA nC b)) (F0 m 6 ls []) := by
    intro n14
    induction n14 using Nat.strongRecOn with
    | ind n14 i15 =>
      intro x7 x8 H locs ls h hS hS0 hl
      have h := h12 n14 x7 x8 h
      refine lv_iload hx hb dX1_turnsOf_6 (lv_at hl 5 rfl) ?_
      refine lv_iload_n hx hb dX1_turnsOf_8 rfl (lv_at hl 3 rfl) ?_
      refine w_icmp_ge (tgt := 43) hx hb rfl rfl dX1_turnsOf_9 (by decide) (fun c16 => ?_) (fun c16 => ?_)
      · skip
        have h := h.1 c16
        refine lv_iload hx hb dX1_turnsOf_43 (lv_at hl 4 rfl) ?_
        exact w_iret hx hb hr hlocks hS hS0 rfl ⟨rfl, h⟩ dX1_turnsOf_45
      · skip
        have h := h.2 c16
        refine lv_aload_n hx hb dX1_turnsOf_12 rfl (lv_at hl 1 rfl) ?_
        refine lv_aload_n hx hb dX1_turnsOf_13 rfl (lv_at hl 2 rfl) ?_
        refine lv_aload_n hx hb dX1_turnsOf_14 rfl (lv_at hl 0 rfl) ?_
        refine w_getl hx hb hts (z_memU u1) hown hK.1 hS f1_1 (by decide) (zkd_of (rfl : zcd wC 57 = 16) rfl) (Or.inl (hts _ (z_mem k130))) dX1_turnsOf_15 ?_
        refine lv_iload hx hb dX1_turnsOf_18 (lv_at hl 5 rfl) ?_
        refine w_i2l hx hb rfl dX1_turnsOf_20 ?_
        refine z_ladd hx hb dX1_turnsOf_21 ?_
        refine w_callz (va_runV (As := [.ref (b + a1), .long (iL ((M 57 1) + (sI x8)))]) (rest := []) ⟨hx, hb, hml, hown, hts⟩ (cC_Studio_grants l D dA b M a1 ((M 57 1) + (sI x8)) lt_a1 cd_a1 _ h) (cwV 2 hts (z_gV k538 k539 k540 k4 k541) rfl rfl rfl dm_X9_grants ⟨Nat.le_of_ble_eq_true rfl, Nat.le_of_ble_eq_true rfl⟩) ⟨wPre_blind, (w_recv hS hK.1 (by decide) (zkd_of (rfl : zcd wC 32 = 8) rfl) (by decide) (rfl : vwCl[9]? = some (RX9, TX9, 3))), w_pre hS hK⟩ rfl rfl hl.1 rfl (lv_room (Nat.le_of_ble_eq_true rfl)) dX1_turnsOf_22 ⟨Nat.le_refl _, Nat.le_refl _⟩) hS0 (fun z18 M17 H locs r19 h hS hS0 => ?_)
        obtain ⟨e20, h⟩ := h
        rw [e20] at hS
        refine w_if_eq (tgt := 37) hx hb (sI_01 r19) dX1_turnsOf_25 (by decide) (fun c21 => ?_) (fun c21 => ?_)
        · skip
          have h := h.1 c21
          refine z_iinc (lv' := [(5, .int (iI (x8 + 1))), (0, .ref (b + 57)), (1, .ref (b + 32)), (2, .ref (b + a1)), (3, .int (iI a2)), (4, .int (iI x7))]) hx hb dX1_turnsOf_37 hl (k := 5) rfl (by decide) rfl (fun ls hl => ?_)
          refine lv_goto (tgt := 6) hx hb dX1_turnsOf_40 (by decide) ?_
          obtain ⟨n22, h23, h⟩ := h
          exact i15 n22 h23 x7 (x8 + 1) _ _ _ h hS hS0 (lv_sub hl [1, 2, 3, 4, 5, 0] rfl)
        · skip
          have h := h.2 c21
          refine lv_iload hx hb dX1_turnsOf_28 (lv_at hl 4 rfl) ?_
          refine z_iconst hx hb dX1_turnsOf_30 ?_
          refine lv_iload hx hb dX1_turnsOf_31 (lv_at hl 5 rfl) ?_
          refine w_ishl hx hb dX1_turnsOf_33 ?_
          refine w_ior hx hb dX1_turnsOf_34 ?_
          refine lv_istore (lv' := [(4, .int (iI (orI x7 (shlI 1 x8)))), (0, .ref (b + 57)), (1, .ref (b + 32)), (2, .ref (b + a1)), (3, .int (iI a2)), (5, .int (iI x8))]) hx hb dX1_turnsOf_35 hl (by decide) rfl (fun ls hl => ?_)
          refine z_iinc (lv' := [(5, .int (iI (x8 + 1))), (4, .int (iI (orI x7 (shlI 1 x8)))), (0, .ref (b + 57)), (1, .ref (b + 32)), (2, .ref (b + a1)), (3, .int (iI a2))]) hx hb dX1_turnsOf_37 hl (k := 5) rfl (by decide) rfl (fun ls hl => ?_)
          refine lv_goto (tgt := 6) hx hb dX1_turnsOf_40 (by decide) ?_
          obtain ⟨n24, h25, h⟩ := h
          exact i15 n24 h25 (orI x7 (shlI 1 x8)) (x8 + 1) _ _ _ h hS hS0 (lv_sub hl [2, 3, 4, 5, 1, 0] rfl)
  exact L13 n10 0 0 _ _ _ h11 hS hS0 (lv_sub hl [2, 3, 4, 5, 1, 0] rfl)

set_option maxRecDepth 100000 in
def wC_Meeting_look  (M : zM) (Q : zM → Prop) : Prop := wC_Studio_steady  M (fun z2 => (∀ M5 : zM, M5 = zup M 57 1 z2 → (∀ M7 : zM, M7 = zup M5 57 0 0 → wL1 (fun K16 x9 M10 => (4 ≤ (sI x9) → Q M10) ∧ ((sI x9) < 4 → wC_Studio_find x9 M10 (fun z20 => (z20 = none → K16 (x9 + 1) M10) ∧ (∀ q22, z20 = some q22 → (q22 < nC ∧ zcd wC q22 = 14) ∧ (wC_Studio_roundOf q22 M10 (fun z34 => ((0 ≤ (sI x9) ∧ (sI x9) < 4) ∧ (∀ M38 : zM, M38 = zup M10 58 (sI x9).toNat z34 → ((0 ≤ (sI x9) ∧ (sI x9) < 4) ∧ wC_Meeting_turnsOf q22 (M38 58 (sI x9).toNat) M38 (fun z42 => ((0 ≤ (sI x9) ∧ (sI x9) < 4) ∧ (∀ M46 : zM, M46 = zup M38 59 (sI x9).toNat z42 → (∀ M48 : zM, M48 = zup M46 57 0 ((M46 57 0) + 1) → K16 (x9 + 1) M48))))))))))))) 0 M7)))
set_option maxHeartbeats 4000000 in
set_option maxRecDepth 100000 in
theorem cC_Meeting_look (l : Launch) (D : va_G) (dA : Nat → ClassId) (b : Nat) (M : zM)   (Q : zM → Prop) (h : wC_Meeting_look  M Q) : Met l yX1_look (.code yX1_look cX1_look 4 none :: zt) (z_rm 5) (va_Pc [.ref (b + 57), .ref (b + 32)] (wPre D dA vwCl (z_tys dA) wC nC b M)) (va_Qv (wQv Q) (zB D dA vwCl wC nC b) (zA nC b)) 0 0 (zA nC b) := by
  unfold wC_Meeting_look at h
  refine Met.ofW (cc := cX1_look) (maxL := 4) (ret := none) (by decide) rfl ?_
  intro p e s m args below meth c s₁ B hml hv
  obtain ⟨hargs, hS, hK⟩ := hv
  have hx := B.exec
  have hb := B.bytes
  have hr := B.returns
  have hts := atoms_spec (ws := .code yX1_look cX1_look 4 none :: zt) B.pre
  have hown : s.vm.findClass RX1 = some m.cls := findClass_of_methodNamed B.named
  have hlocks := B.notSynchronized
  have hS0 : va_S (zA nC b) s.heap s.heap [] := va_S.rf
  have hl := lv_entry ([.ref (b + 57), .ref (b + 32)]) (n := 4) (Nat.le_of_ble_eq_true rfl)
  have hent : entryFrame m args 4 = F0 m 0 ((lg_sl ([.ref (b + 57), .ref (b + 32)]) ++ List.replicate (4 - (lg_sl ([.ref (b + 57), .ref (b + 32)])).length) Slot.unset).toArray) [] := by rw [hargs]; exact lg_entry_eq m ([.ref (b + 57), .ref (b + 32)]) 4
  rw [hent]
  generalize (lg_sl ([.ref (b + 57), .ref (b + 32)]) ++ List.replicate (4 - (lg_sl ([.ref (b + 57), .ref (b + 32)])).length) Slot.unset).toArray = ls at hl ⊢
  have hl : lv_has ls 4 [(0, .ref (b + 57)), (1, .ref (b + 32))] := hl
  refine lv_aload_n hx hb dX1_look_0 rfl (lv_at hl 0 rfl) ?_
  refine lv_aload_n hx hb dX1_look_1 rfl (lv_at hl 1 rfl) ?_
  refine w_calli (va_runV (As := []) (rest := [.ref (b + 57)]) ⟨hx, hb, hml, hown, hts⟩ (cC_Studio_steady l D dA b M  _ h) (cwV 0 hts (z_gV k515 k516 k517 k4 k518) rfl rfl rfl dm_X9_steady ⟨Nat.le_of_ble_eq_true rfl, Nat.le_of_ble_eq_true rfl⟩) ⟨wPre_blind, (w_recv hS hK.1 (by decide) (zkd_of (rfl : zcd wC 32 = 8) rfl) (by decide) (rfl : vwCl[9]? = some (RX9, TX9, 3))), w_pre hS hK⟩ rfl rfl hl.1 rfl (lv_room (Nat.le_of_ble_eq_true rfl)) dX1_look_2 ⟨Nat.le_refl _, Nat.le_refl _⟩) hS0 (fun z2 M1 H locs r3 h hS hS0 => ?_)
  obtain ⟨e4, h⟩ := h
  rw [e4] at hS
  refine w_i2l hx hb (sI_of r3) dX1_look_5 ?_
  refine w_putl hx hb hts (z_memU u1) tyX1 tyX1_ok nmX1 hown hK.1 hS hS0 f1_1 (by decide) (zkd_of (rfl : zcd wC 57 = 16) rfl) (Or.inl (hts _ (z_mem k130))) rfl (z := z2) (by decide +kernel) dX1_look_6 (fun H locs hS hS0 => ?_)
  obtain ⟨M5, e6⟩ : ∃ M5 : zM, M5 = zup M 57 1 z2 := ⟨_, rfl⟩
  rw [← e6] at hS
  have h := h M5 e6
  refine lv_aload_n hx hb dX1_look_9 rfl (lv_at hl 0 rfl) ?_
  refine z_iconst hx hb dX1_look_10 ?_
  refine w_puti hx hb hts (z_memU u1) tyX1 tyX1_ok nmX1 hown hK.1 hS hS0 f1_0 (by decide) (zkd_of (rfl : zcd wC 57 = 16) rfl) (Or.inl (hts _ (z_mem k129))) rfl (z := 0) (by decide +kernel) dX1_look_11 (fun H locs hS hS0 => ?_)
  obtain ⟨M7, e8⟩ : ∃ M7 : zM, M7 = zup M5 57 0 0 := ⟨_, rfl⟩
  rw [← e8] at hS
  have h := h M7 e8
  refine z_iconst hx hb dX1_look_14 ?_
  refine lv_istore_n (lv' := [(2, .int (iI 0)), (0, .ref (b + 57)), (1, .ref (b + 32))]) hx hb dX1_look_15 rfl hl (by decide) rfl (fun ls hl => ?_)
  obtain ⟨I11, ⟨n12, h13⟩, h14⟩ := h
  have L15 : ∀ (n16 : Nat) (x9 : Int) (M10 : zM) (H : Heap) (locs : List Loc) (ls : Array Slot), I11 n16 x9 M10 → zR D dA vwCl wC nC b M10 H → va_S (zA nC b) s.heap H locs → lv_has ls 4 [(0, .ref (b + 57)), (1, .ref (b + 32)), (2, .int (iI x9))] → W p l e (headSpec (.code yX1_look cX1_look 4 none :: zt) (z_rm 5)).room s m args below meth c H locs 0 0 (MQ below (va_Qv (wQv Q) (zB D dA vwCl wC nC b) (zA nC b)) args s 0 0 (zA nC b)) (F0 m 16 ls []) := by
    intro n16
    induction n16 using Nat.strongRecOn with
    | ind n16 i17 =>
      intro x9 M10 H locs ls h hS hS0 hl
      have h := h14 n16 x9 M10 h
      refine lv_iload_n hx hb dX1_look_16 rfl (lv_at hl 2 rfl) ?_
      refine z_iconst hx hb dX1_look_17 ?_
      refine w_icmp_ge (tgt := 76) hx hb rfl (sI_of (by decide)) dX1_look_18 (by decide) (fun c18 => ?_) (fun c18 => ?_)
      · skip
        have h := h.1 c18
        exact w_vret hx hb hr hlocks hS hS0 h dX1_look_76
      · skip
        have h := h.2 c18
        refine lv_aload_n hx hb dX1_look_21 rfl (lv_at hl 1 rfl) ?_
        refine lv_iload_n hx hb dX1_look_22 rfl (lv_at hl 2 rfl) ?_
        refine w_callq (va_runV (As := [.int (iI x9)]) (rest := []) ⟨hx, hb, hml, hown, hts⟩ (cC_Studio_find l D dA b M10 x9 _ h) (cwV 1 hts (z_gV k521 k412 k413 k4 k414) rfl rfl rfl dm_X9_find ⟨Nat.le_of_ble_eq_true rfl, Nat.le_of_ble_eq_true rfl⟩) ⟨wPre_blind, (w_recv hS hK.1 (by decide) (zkd_of (rfl : zcd wC 32 = 8) rfl) (by decide) (rfl : vwCl[9]? = some (RX9, TX9, 3))), w_pre hS hK⟩ rfl rfl hl.1 rfl (lv_room (Nat.le_of_ble_eq_true rfl)) dX1_look_23 ⟨Nat.le_refl _, Nat.le_refl _⟩) hS0 (fun z20 M19 H locs h hS hS0 => ?_)
        obtain ⟨e21, h⟩ := h
        rw [e21] at hS
        rcases z20 with _ | q22
        · skip
          have h := h.1 rfl
          refine lv_astore_nN (lv' := [(3, .null), (0, .ref (b + 57)), (1, .ref (b + 32)), (2, .int (iI x9))]) hx hb dX1_look_26 rfl hl (by decide) rfl (fun ls hl => ?_)
          refine lv_aload_nN hx hb dX1_look_27 rfl (lv_at hl 0 rfl) ?_
          refine lv_ifnullN (tgt := 70) hx hb dX1_look_28 (by decide) ?_
          refine z_iinc (lv' := [(2, .int (iI (x9 + 1))), (3, .null), (0, .ref (b + 57)), (1, .ref (b + 32))]) hx hb dX1_look_70 hl (k := 3) rfl (by decide) rfl (fun ls hl => ?_)
          refine lv_goto (tgt := 16) hx hb dX1_look_73 (by decide) ?_
          obtain ⟨n25, h26, h⟩ := h
          exact i17 n25 h26 (x9 + 1) M10 _ _ _ h hS hS0 (lv_sub hl [2, 3, 0] rfl)
        · skip
          obtain ⟨⟨lt23, cd24⟩, h⟩ := h.2 q22 rfl
          obtain ⟨lt27, cd28, lt29, cd30, lt31, cd32⟩ := nx_ring q22 lt23 cd24
          refine lv_astore_n (lv' := [(3, .ref (b + q22)), (0, .ref (b + 57)), (1, .ref (b + 32)), (2, .int (iI x9))]) hx hb dX1_look_26 rfl hl (by decide) rfl (fun ls hl => ?_)
          refine lv_aload_n hx hb dX1_look_27 rfl (lv_at hl 0 rfl) ?_
          refine lv_ifnull hx hb dX1_look_28 ?_
          refine lv_aload_n hx hb dX1_look_31 rfl (lv_at hl 1 rfl) ?_
          refine w_getr (j2 := 58) hx hb hts (z_memU u1) hown hK.1 hS f1_2 (by decide) (zkd_of (rfl : zcd wC 57 = 16) rfl) (zrf_of (rfl : zcd wC 57 = 16) rfl) (Or.inl (hts _ (z_mem k131))) dX1_look_32 ?_
          refine lv_iload_n hx hb dX1_look_35 rfl (lv_at hl 3 rfl) ?_
          refine lv_aload_n hx hb dX1_look_36 rfl (lv_at hl 2 rfl) ?_
          refine lv_aload_n hx hb dX1_look_37 rfl (lv_at hl 0 rfl) ?_
          refine w_calli (va_runV (As := [.ref (b + q22)]) (rest := [.int (iI x9), .ref (b + 58)]) ⟨hx, hb, hml, hown, hts⟩ (cC_Studio_roundOf l D dA b M10 q22 lt23 cd24 _ h) (cwV 1 hts (z_gV k522 k523 k524 k4 k525) rfl rfl rfl dm_X9_roundOf ⟨Nat.le_of_ble_eq_true rfl, Nat.le_of_ble_eq_true rfl⟩) ⟨wPre_blind, (w_recv hS hK.1 (by decide) (zkd_of (rfl : zcd wC 32 = 8) rfl) (by decide) (rfl : vwCl[9]? = some (RX9, TX9, 3))), w_pre hS hK⟩ rfl rfl hl.1 rfl (lv_room (Nat.le_of_ble_eq_true rfl)) dX1_look_38 ⟨Nat.le_refl _, Nat.le_refl _⟩) hS0 (fun z34 M33 H locs r35 h hS hS0 => ?_)
          obtain ⟨e36, h⟩ := h
          rw [e36] at hS
          obtain ⟨o37, h⟩ := h
          refine w_iast (z := z34) (n := 4) (i := (sI x9)) hx hb hK.1 (t0 := 0) rfl hS hS0 (by decide) (zkd_of (rfl : zcd wC 58 = 17) rfl) (zln_of (rfl : zcd wC 58 = 17) rfl) rfl o37.1 o37.2 (by decide) dX1_look_41 (fun H locs hS hS0 => ?_)
          obtain ⟨M38, e39⟩ : ∃ M38 : zM, M38 = zup M10 58 (sI x9).toNat z34 := ⟨_, rfl⟩
          rw [← e39] at hS
          have h := h M38 e39
          refine lv_aload_n hx hb dX1_look_42 rfl (lv_at hl 1 rfl) ?_
          refine w_getr (j2 := 59) hx hb hts (z_memU u1) hown hK.1 hS f1_3 (by decide) (zkd_of (rfl : zcd wC 57 = 16) rfl) (zrf_of (rfl : zcd wC 57 = 16) rfl) (Or.inl (hts _ (z_mem k132))) dX1_look_43 ?_
          refine lv_iload_n hx hb dX1_look_46 rfl (lv_at hl 3 rfl) ?_
          refine lv_aload_n hx hb dX1_look_47 rfl (lv_at hl 1 rfl) ?_
          refine lv_aload_n hx hb dX1_look_48 rfl (lv_at hl 2 rfl) ?_
          refine lv_aload_n hx hb dX1_look_49 rfl (lv_at hl 0 rfl) ?_
          refine lv_aload_n hx hb dX1_look_50 rfl (lv_at hl 1 rfl) ?_
          refine w_getr (j2 := 58) hx hb hts (z_memU u1) hown hK.1 hS f1_2 (by decide) (zkd_of (rfl : zcd wC 57 = 16) rfl) (zrf_of (rfl : zcd wC 57 = 16) rfl) (Or.inl (hts _ (z_mem k131))) dX1_look_51 ?_
          refine lv_iload_n hx hb dX1_look_54 rfl (lv_at hl 3 rfl) ?_
          obtain ⟨o40, h⟩ := h
          refine w_iald (n := 4) (i := (sI x9)) hx hb hK.1 (t0 := 0) rfl hS (by decide) (zkd_of (rfl : zcd wC 58 = 17) rfl) (zln_of (rfl : zcd wC 58 = 17) rfl) rfl o40.1 o40.2 (by decide) dX1_look_55 ?_
          refine w_calli (va_runV (As := [.ref (b + 32), .ref (b + q22), .int (iI (M38 58 (sI x9).toNat))]) (rest := [.int (iI x9), .ref (b + 59)]) ⟨hx, hb, hml, hown, hts⟩ (cC_Meeting_turnsOf l D dA b M38 q22 (M38 58 (sI x9).toNat) lt23 cd24 _ h) (cwV 3 hts (z_gV k535 k536 k1365 k7 k537) rfl rfl rfl dm_X1_turnsOf ⟨Nat.le_of_ble_eq_true rfl, Nat.le_of_ble_eq_true rfl⟩) ⟨wPre_blind, (w_recv hS hK.1 (by decide) (zkd_of (rfl : zcd wC 57 = 16) rfl) (by decide) (rfl : vwCl[1]? = some (RX1, TX1, 4))), w_pre hS hK⟩ rfl rfl hl.1 rfl (lv_room (Nat.le_of_ble_eq_true rfl)) dX1_look_56 ⟨Nat.le_refl _, Nat.le_refl _⟩) hS0 (fun z42 M41 H locs r43 h hS hS0 => ?_)
          obtain ⟨e44, h⟩ := h
          rw [e44] at hS
          obtain ⟨o45, h⟩ := h
          refine w_iast (z := z42) (n := 4) (i := (sI x9)) hx hb hK.1 (t0 := 0) rfl hS hS0 (by decide) (zkd_of (rfl : zcd wC 59 = 18) rfl) (zln_of (rfl : zcd wC 59 = 18) rfl) rfl o45.1 o45.2 (by decide) dX1_look_59 (fun H locs hS hS0 => ?_)
          obtain ⟨M46, e47⟩ : ∃ M46 : zM, M46 = zup M38 59 (sI x9).toNat z42 := ⟨_, rfl⟩
          rw [← e47] at hS
          have h := h M46 e47
          refine lv_aload_n hx hb dX1_look_60 rfl (lv_at hl 1 rfl) ?_
          refine lv_dup hx hb dX1_look_61 rfl ?_
          refine w_geti hx hb hts (z_memU u1) hown hK.1 hS f1_0 (by decide) (zkd_of (rfl : zcd wC 57 = 16) rfl) (Or.inl (hts _ (z_mem k129))) dX1_look_62 ?_
          refine z_iconst hx hb dX1_look_65 ?_
          refine z_iadd hx hb dX1_look_66 ?_
          refine w_puti hx hb hts (z_memU u1) tyX1 tyX1_ok nmX1 hown hK.1 hS hS0 f1_0 (by decide) (zkd_of (rfl : zcd wC 57 = 16) rfl) (Or.inl (hts _ (z_mem k129))) rfl (z := ((M46 57 0) + 1)) (by decide +kernel) dX1_look_67 (fun H locs hS hS0 => ?_)
          obtain ⟨M48, e49⟩ : ∃ M48 : zM, M48 = zup M46 57 0 ((M46 57 0) + 1) := ⟨_, rfl⟩
          rw [← e49] at hS
          have h := h M48 e49
          refine z_iinc (lv' := [(2, .int (iI (x9 + 1))), (3, .ref (b + q22)), (0, .ref (b + 57)), (1, .ref (b + 32))]) hx hb dX1_look_70 hl (k := 3) rfl (by decide) rfl (fun ls hl => ?_)
          refine lv_goto (tgt := 16) hx hb dX1_look_73 (by decide) ?_
          obtain ⟨n50, h51, h⟩ := h
          exact i17 n50 h51 (x9 + 1) M48 _ _ _ h hS hS0 (lv_sub hl [2, 3, 0] rfl)
  exact L15 n12 0 M7 _ _ _ h13 hS hS0 (lv_sub hl [1, 2, 0] rfl)

set_option maxRecDepth 100000 in
def wC_leastMultiple (a0 : Int) (a1 : Int) (M : zM) (Q : Int → Prop) : Prop := wC_withoutShared a1 a0 M (fun z2 => Q (sL (a0 * z2)))
set_option maxHeartbeats 4000000 in
set_option maxRecDepth 100000 in
theorem cC_leastMultiple (l : Launch) (D : va_G) (dA : Nat → ClassId) (b : Nat) (M : zM) (a0 : Int) (a1 : Int)  (Q : Int → Prop) (h : wC_leastMultiple a0 a1 M Q) : Met l yX11_leastMultiple (.code yX11_leastMultiple cX11_leastMultiple 3 (some .long) :: zt) (z_rm 2) (va_Pc [.long (iL a0), .int (iI a1)] (wPre D dA vwCl (z_tys dA) wC nC b M)) (va_Ql (wQl (fun z9 u9 => u9 = M ∧ Q z9)) (zB D dA vwCl wC nC b) (zA nC b)) 0 0 (zA nC b) := by
  unfold wC_leastMultiple at h
  refine Met.ofW (cc := cX11_leastMultiple) (maxL := 3) (ret := (some .long)) (by decide) rfl ?_
  intro p e s m args below meth c s₁ B hml hv
  obtain ⟨hargs, hS, hK⟩ := hv
  have hx := B.exec
  have hb := B.bytes
  have hr := B.returns
  have hts := atoms_spec (ws := .code yX11_leastMultiple cX11_leastMultiple 3 (some .long) :: zt) B.pre
  have hown : s.vm.findClass RX11 = some m.cls := findClass_of_methodNamed B.named
  have hlocks := B.notSynchronized
  have hS0 : va_S (zA nC b) s.heap s.heap [] := va_S.rf
  have hl := lv_entry ([.long (iL a0), .int (iI a1)]) (n := 3) (Nat.le_of_ble_eq_true rfl)
  have hent : entryFrame m args 3 = F0 m 0 ((lg_sl ([.long (iL a0), .int (iI a1)]) ++ List.replicate (3 - (lg_sl ([.long (iL a0), .int (iI a1)])).length) Slot.unset).toArray) [] := by rw [hargs]; exact lg_entry_eq m ([.long (iL a0), .int (iI a1)]) 3
  rw [hent]
  generalize (lg_sl ([.long (iL a0), .int (iI a1)]) ++ List.replicate (3 - (lg_sl ([.long (iL a0), .int (iI a1)])).length) Slot.unset).toArray = ls at hl ⊢
  have hl : lv_has ls 3 [(0, .long (iL a0)), (2, .int (iI a1))] := hl
  refine lv_lload_n hx hb dX11_leastMultiple_0 rfl (lv_at hl 0 rfl) ?_
  refine lv_iload_n hx hb dX11_leastMultiple_1 rfl (lv_at hl 1 rfl) ?_
  refine lv_lload_n hx hb dX11_leastMultiple_2 rfl (lv_at hl 0 rfl) ?_
  refine w_calli (va_runS (As := [.int (iI a1), .long (iL a0)]) (rest := [.long (iL a0)]) ⟨hx, hb, hml, hown, hts⟩ (cC_withoutShared l D dA b M a1 a0 _ h) (va_cwS 2 hts (z_gS k548 k530 k1 k531) rfl rfl rfl dm_X11_withoutShared.2 ⟨Nat.le_of_ble_eq_true rfl, Nat.le_of_ble_eq_true rfl⟩) ⟨wPre_blind, w_pre hS hK⟩ rfl rfl hl.1 rfl (lv_room (Nat.le_of_ble_eq_true rfl)) dX11_leastMultiple_3 ⟨Nat.le_refl _, Nat.le_refl _⟩) hS0 (fun z2 M1 H locs r3 h hS hS0 => ?_)
  obtain ⟨e4, h⟩ := h
  rw [e4] at hS
  refine w_i2l hx hb (sI_of r3) dX11_leastMultiple_6 ?_
  refine z_lmul hx hb dX11_leastMultiple_7 ?_
  exact w_lret hx hb hr hlocks hS hS0 rfl ⟨rfl, h⟩ dX11_leastMultiple_8

set_option maxRecDepth 100000 in
def wC_Meeting_allTicks  (M : zM) (Q : Int → Prop) : Prop := pL2 (fun K4 x1 x2 => ((sI (M 57 0)) ≤ (sI x2) → Q (sL x1)) ∧ ((sI x2) < (sI (M 57 0)) → ((0 ≤ (sI x2) ∧ (sI x2) < 4) ∧ wC_leastMultiple x1 (M 58 (sI x2).toNat) M (fun z13 => K4 z13 (x2 + 1))))) 1 0
set_option maxHeartbeats 4000000 in
set_option maxRecDepth 100000 in
theorem cC_Meeting_allTicks (l : Launch) (D : va_G) (dA : Nat → ClassId) (b : Nat) (M : zM)   (Q : Int → Prop) (h : wC_Meeting_allTicks  M Q) : Met l yX1_allTicks (.code yX1_allTicks cX1_allTicks 4 (some .long) :: zt) (z_rm 3) (va_Pc [.ref (b + 57)] (wPre D dA vwCl (z_tys dA) wC nC b M)) (va_Ql (wQl (fun z9 u9 => u9 = M ∧ Q z9)) (zB D dA vwCl wC nC b) (zA nC b)) 0 0 (zA nC b) := by
  unfold wC_Meeting_allTicks at h
  refine Met.ofW (cc := cX1_allTicks) (maxL := 4) (ret := (some .long)) (by decide) rfl ?_
  intro p e s m args below meth c s₁ B hml hv
  obtain ⟨hargs, hS, hK⟩ := hv
  have hx := B.exec
  have hb := B.bytes
  have hr := B.returns
  have hts := atoms_spec (ws := .code yX1_allTicks cX1_allTicks 4 (some .long) :: zt) B.pre
  have hown : s.vm.findClass RX1 = some m.cls := findClass_of_methodNamed B.named
  have hlocks := B.notSynchronized
  have hS0 : va_S (zA nC b) s.heap s.heap [] := va_S.rf
  have hl := lv_entry ([.ref (b + 57)]) (n := 4) (Nat.le_of_ble_eq_true rfl)
  have hent : entryFrame m args 4 = F0 m 0 ((lg_sl ([.ref (b + 57)]) ++ List.replicate (4 - (lg_sl ([.ref (b + 57)])).length) Slot.unset).toArray) [] := by rw [hargs]; exact lg_entry_eq m ([.ref (b + 57)]) 4
  rw [hent]
  generalize (lg_sl ([.ref (b + 57)]) ++ List.replicate (4 - (lg_sl ([.ref (b + 57)])).length) Slot.unset).toArray = ls at hl ⊢
  have hl : lv_has ls 4 [(0, .ref (b + 57))] := hl
  refine z_lconst1 hx hb dX1_allTicks_0 ?_
  refine lv_lstore_n (lv' := [(1, .long (iL 1)), (0, .ref (b + 57))]) hx hb dX1_allTicks_1 rfl hl (by decide) rfl (fun ls hl => ?_)
  refine z_iconst hx hb dX1_allTicks_2 ?_
  refine lv_istore_n (lv' := [(3, .int (iI 0)), (1, .long (iL 1)), (0, .ref (b + 57))]) hx hb dX1_allTicks_3 rfl hl (by decide) rfl (fun ls hl => ?_)
  obtain ⟨I3, ⟨n4, h5⟩, h6⟩ := h
  have L7 : ∀ (n8 : Nat) (x1 x2 : Int) (H : Heap) (locs : List Loc) (ls : Array Slot), I3 n8 x1 x2 → zR D dA vwCl wC nC b M H → va_S (zA nC b) s.heap H locs → lv_has ls 4 [(0, .ref (b + 57)), (1, .long (iL x1)), (3, .int (iI x2))] → W p l e (headSpec (.code yX1_allTicks cX1_allTicks 4 (some .long) :: zt) (z_rm 3)).room s m args below meth c H locs 0 0 (MQ below (va_Ql (wQl (fun z9 u9 => u9 = M ∧ Q z9)) (zB D dA vwCl wC nC b) (zA nC b)) args s 0 0 (zA nC b)) (F0 m 4 ls []) := by
    intro n8
    induction n8 using Nat.strongRecOn with
    | ind n8 i9 =>
      intro x1 x2 H locs ls h hS hS0 hl
      have h := h6 n8 x1 x2 h
      refine lv_iload_n hx hb dX1_allTicks_4 rfl (lv_at hl 2 rfl) ?_
      refine lv_aload_n hx hb dX1_allTicks_5 rfl (lv_at hl 0 rfl) ?_
      refine w_geti hx hb hts (z_memU u1) hown hK.1 hS f1_0 (by decide) (zkd_of (rfl : zcd wC 57 = 16) rfl) (Or.inl (hts _ (z_mem k129))) dX1_allTicks_6 ?_
      refine w_icmp_ge (tgt := 29) hx hb rfl rfl dX1_allTicks_9 (by decide) (fun c10 => ?_) (fun c10 => ?_)
      · skip
        have h := h.1 c10
        refine lv_lload_n hx hb dX1_allTicks_29 rfl (lv_at hl 1 rfl) ?_
        exact w_lret hx hb hr hlocks hS hS0 rfl ⟨rfl, h⟩ dX1_allTicks_30
      · skip
        have h := h.2 c10
        refine lv_lload_n hx hb dX1_allTicks_12 rfl (lv_at hl 1 rfl) ?_
        refine lv_aload_n hx hb dX1_allTicks_13 rfl (lv_at hl 0 rfl) ?_
        refine w_getr (j2 := 58) hx hb hts (z_memU u1) hown hK.1 hS f1_2 (by decide) (zkd_of (rfl : zcd wC 57 = 16) rfl) (zrf_of (rfl : zcd wC 57 = 16) rfl) (Or.inl (hts _ (z_mem k131))) dX1_allTicks_14 ?_
        refine lv_iload_n hx hb dX1_allTicks_17 rfl (lv_at hl 2 rfl) ?_
        obtain ⟨o11, h⟩ := h
        refine w_iald (n := 4) (i := (sI x2)) hx hb hK.1 (t0 := 0) rfl hS (by decide) (zkd_of (rfl : zcd wC 58 = 17) rfl) (zln_of (rfl : zcd wC 58 = 17) rfl) rfl o11.1 o11.2 (by decide) dX1_allTicks_18 ?_
        refine w_calll (va_runSN (As := [.long (iL x1), .int (iI (M 58 (sI x2).toNat))]) (rest := []) ⟨hx, hb, hml, hown, hts⟩ (cC_leastMultiple l D dA b M x1 (M 58 (sI x2).toNat) _ h) ⟨va_cnB 2 hts (z_gN k547) rfl rfl rfl (hK.2 (RX1, 47, yX11_leastMultiple, RX11) (List.mem_of_getElem? (i := 13) rfl)) (hts _ (z_mem k1)) dm_X11_leastMultiple.2 ⟨Nat.le_of_ble_eq_true rfl, Nat.le_of_ble_eq_true rfl⟩, (hts _ (z_mem k546)), trivial⟩ ⟨wPre_blind, w_pre hS hK⟩ rfl rfl hl.1 rfl (lv_room (Nat.le_of_ble_eq_true rfl)) dX1_allTicks_19 ⟨Nat.le_refl _, Nat.le_refl _⟩) hS0 (fun z13 M12 H locs r14 h hS hS0 => ?_)
        obtain ⟨e15, h⟩ := h
        rw [e15] at hS
        refine lv_lstore_n (lv' := [(1, .long (iL z13)), (0, .ref (b + 57)), (3, .int (iI x2))]) hx hb dX1_allTicks_22 rfl hl (by decide) rfl (fun ls hl => ?_)
        refine z_iinc (lv' := [(3, .int (iI (x2 + 1))), (1, .long (iL z13)), (0, .ref (b + 57))]) hx hb dX1_allTicks_23 hl (k := 2) rfl (by decide) rfl (fun ls hl => ?_)
        refine lv_goto (tgt := 4) hx hb dX1_allTicks_26 (by decide) ?_
        obtain ⟨n16, h17, h⟩ := h
        exact i9 n16 h17 z13 (x2 + 1) _ _ _ h hS hS0 (lv_sub hl [2, 1, 0] rfl)
  exact L7 n4 1 0 _ _ _ h5 hS hS0 (lv_sub hl [2, 1, 0] rfl)

set_option maxRecDepth 100000 in
def wC_all  (M : zM) (Q : Int → zM → Prop) : Prop := wC_Meeting_look  M (fun M1 => wC_Meeting_allTicks  M1 (fun z3 => Q z3 M1))
set_option maxHeartbeats 4000000 in
set_option maxRecDepth 100000 in
theorem cC_all (l : Launch) (D : va_G) (dA : Nat → ClassId) (b : Nat) (M : zM)   (Q : Int → zM → Prop) (h : wC_all  M Q) : Met l yX11_all (.code yX11_all cX11_all 1 (some .long) :: zt) (z_rm 6) (va_Pc [.ref (b + 0)] (wPre D dA vwCl (z_tys dA) wC nC b M)) (va_Ql (wQl Q) (zB D dA vwCl wC nC b) (zA nC b)) 0 0 (zA nC b) := by
  unfold wC_all at h
  refine Met.ofW (cc := cX11_all) (maxL := 1) (ret := (some .long)) (by decide) rfl ?_
  intro p e s m args below meth c s₁ B hml hv
  obtain ⟨hargs, hS, hK⟩ := hv
  have hx := B.exec
  have hb := B.bytes
  have hr := B.returns
  have hts := atoms_spec (ws := .code yX11_all cX11_all 1 (some .long) :: zt) B.pre
  have hown : s.vm.findClass RX11 = some m.cls := findClass_of_methodNamed B.named
  have hlocks := B.notSynchronized
  have hS0 : va_S (zA nC b) s.heap s.heap [] := va_S.rf
  have hl := lv_entry ([.ref (b + 0)]) (n := 1) (Nat.le_of_ble_eq_true rfl)
  have hent : entryFrame m args 1 = F0 m 0 ((lg_sl ([.ref (b + 0)]) ++ List.replicate (1 - (lg_sl ([.ref (b + 0)])).length) Slot.unset).toArray) [] := by rw [hargs]; exact lg_entry_eq m ([.ref (b + 0)]) 1
  rw [hent]
  generalize (lg_sl ([.ref (b + 0)]) ++ List.replicate (1 - (lg_sl ([.ref (b + 0)])).length) Slot.unset).toArray = ls at hl ⊢
  have hl : lv_has ls 1 [(0, .ref (b + 0))] := hl
  refine lv_aload_n hx hb dX11_all_0 rfl (lv_at hl 0 rfl) ?_
  refine w_getr (j2 := 57) hx hb hts (z_memU u11) hown hK.1 hS f11_3 (by decide) (zkd_of (rfl : zcd wC 0 = 0) rfl) (zrf_of (rfl : zcd wC 0 = 0) rfl) (Or.inl (hts _ (z_mem k245))) dX11_all_1 ?_
  refine lv_aload_n hx hb dX11_all_4 rfl (lv_at hl 0 rfl) ?_
  refine w_getr (j2 := 32) hx hb hts (z_memU u11) hown hK.1 hS f11_2 (by decide) (zkd_of (rfl : zcd wC 0 = 0) rfl) (zrf_of (rfl : zcd wC 0 = 0) rfl) (Or.inl (hts _ (z_mem k244))) dX11_all_5 ?_
  refine w_callv (va_runV (As := [.ref (b + 32)]) (rest := []) ⟨hx, hb, hml, hown, hts⟩ (cC_Meeting_look l D dA b M  _ h) (cwV 1 hts (z_gV k511 k512 k513 k7 k514) rfl rfl rfl dm_X1_look ⟨Nat.le_of_ble_eq_true rfl, Nat.le_of_ble_eq_true rfl⟩) ⟨wPre_blind, (w_recv hS hK.1 (by decide) (zkd_of (rfl : zcd wC 57 = 16) rfl) (by decide) (rfl : vwCl[1]? = some (RX1, TX1, 4))), w_pre hS hK⟩ rfl rfl hl.1 rfl (lv_room (Nat.le_of_ble_eq_true rfl)) dX11_all_8 ⟨Nat.le_refl _, Nat.le_refl _⟩) hS0 (fun M1 H locs h hS hS0 => ?_)
  refine lv_aload_n hx hb dX11_all_11 rfl (lv_at hl 0 rfl) ?_
  refine w_getr (j2 := 57) hx hb hts (z_memU u11) hown hK.1 hS f11_3 (by decide) (zkd_of (rfl : zcd wC 0 = 0) rfl) (zrf_of (rfl : zcd wC 0 = 0) rfl) (Or.inl (hts _ (z_mem k245))) dX11_all_12 ?_
  refine w_calll (va_runV (As := []) (rest := []) ⟨hx, hb, hml, hown, hts⟩ (cC_Meeting_allTicks l D dA b M1  _ h) (cwV 0 hts (z_gV k542 k543 k544 k7 k545) rfl rfl rfl dm_X1_allTicks ⟨Nat.le_of_ble_eq_true rfl, Nat.le_of_ble_eq_true rfl⟩) ⟨wPre_blind, (w_recv hS hK.1 (by decide) (zkd_of (rfl : zcd wC 57 = 16) rfl) (by decide) (rfl : vwCl[1]? = some (RX1, TX1, 4))), w_pre hS hK⟩ rfl rfl hl.1 rfl (lv_room (Nat.le_of_ble_eq_true rfl)) dX11_all_15 ⟨Nat.le_refl _, Nat.le_refl _⟩) hS0 (fun z3 M2 H locs r4 h hS hS0 => ?_)
  obtain ⟨e5, h⟩ := h
  rw [e5] at hS
  exact w_lret hx hb hr hlocks hS hS0 (sL_of r4) h dX11_all_18

set_option maxRecDepth 100000 in
def wC_isSounds (a0 : Int) (M : zM) (Q : Int → Prop) : Prop := ((andI a0 (-1023)) ≠ 0 → Q 0) ∧ ((andI a0 (-1023)) = 0 → Q 1)
set_option maxHeartbeats 4000000 in
set_option maxRecDepth 100000 in
theorem cC_isSounds (l : Launch) (D : va_G) (dA : Nat → ClassId) (b : Nat) (M : zM) (a0 : Int)  (Q : Int → Prop) (h : wC_isSounds a0 M Q) : Met l yX11_isSounds (.code yX11_isSounds cX11_isSounds 1 (some .boolean) :: zt) (z_rm 0) (va_Pc [.int (iI a0)] (wPre D dA vwCl (z_tys dA) wC nC b M)) (va_Qi (wQz (fun z9 u9 => u9 = M ∧ Q z9)) (zB D dA vwCl wC nC b) (zA nC b)) 0 0 (zA nC b) := by
  unfold wC_isSounds at h
  refine Met.ofW (cc := cX11_isSounds) (maxL := 1) (ret := (some .boolean)) (by decide) rfl ?_
  intro p e s m args below meth c s₁ B hml hv
  obtain ⟨hargs, hS, hK⟩ := hv
  have hx := B.exec
  have hb := B.bytes
  have hr := B.returns
  have hts := atoms_spec (ws := .code yX11_isSounds cX11_isSounds 1 (some .boolean) :: zt) B.pre
  have hown : s.vm.findClass RX11 = some m.cls := findClass_of_methodNamed B.named
  have hlocks := B.notSynchronized
  have hS0 : va_S (zA nC b) s.heap s.heap [] := va_S.rf
  have hl := lv_entry ([.int (iI a0)]) (n := 1) (Nat.le_of_ble_eq_true rfl)
  have hent : entryFrame m args 1 = F0 m 0 ((lg_sl ([.int (iI a0)]) ++ List.replicate (1 - (lg_sl ([.int (iI a0)])).length) Slot.unset).toArray) [] := by rw [hargs]; exact lg_entry_eq m ([.int (iI a0)]) 1
  rw [hent]
  generalize (lg_sl ([.int (iI a0)]) ++ List.replicate (1 - (lg_sl ([.int (iI a0)])).length) Slot.unset).toArray = ls at hl ⊢
  have hl : lv_has ls 1 [(0, .int (iI a0))] := hl
  refine lv_iload_n hx hb dX11_isSounds_0 rfl (lv_at hl 0 rfl) ?_
  refine z_sipush hx hb (by decide) dX11_isSounds_1 ?_
  refine w_iand hx hb dX11_isSounds_4 ?_
  refine w_if_ne (tgt := 12) hx hb (sI_of (andI_R _ _)) dX11_isSounds_5 (by decide) (fun c1 => ?_) (fun c1 => ?_)
  · skip
    have h := h.1 c1
    refine z_iconst hx hb dX11_isSounds_12 ?_
    exact w_zret hx hb hr hlocks hS hS0 (sI_of (by decide)) (by decide) ⟨rfl, h⟩ dX11_isSounds_13
  · skip
    have h := h.2 c1
    refine z_iconst hx hb dX11_isSounds_8 ?_
    refine lv_goto (tgt := 13) hx hb dX11_isSounds_9 (by decide) ?_
    exact w_zret hx hb hr hlocks hS hS0 (sI_of (by decide)) (by decide) ⟨rfl, h⟩ dX11_isSounds_13
