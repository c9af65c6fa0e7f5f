/-! the W layer, 18 -/
theorem dX12_findHeard_0 : decode cX12_findHeard 0 = .ok (.iconst 0, 1) := by decide +kernel
theorem dX12_findHeard_1 : decode cX12_findHeard 1 = .ok (.istore_n 3, 1) := by decide +kernel
theorem dX12_findHeard_10 : decode cX12_findHeard 10 = .ok (.iconst 0, 1) := by decide +kernel
theorem dX12_findHeard_11 : decode cX12_findHeard 11 = .ok (.istore 4, 2) := by decide +kernel
theorem dX12_findHeard_13 : decode cX12_findHeard 13 = .ok (.iload 4, 2) := by decide +kernel
theorem dX12_findHeard_15 : decode cX12_findHeard 15 = .ok (.aload_n 0, 1) := by decide +kernel
theorem dX12_findHeard_16 : decode cX12_findHeard 16 = .ok (.iload_n 3, 1) := by decide +kernel
theorem dX12_findHeard_17 : decode cX12_findHeard 17 = .ok (.invokevirtual 203, 3) := by decide +kernel
theorem dX12_findHeard_2 : decode cX12_findHeard 2 = .ok (.iload_n 3, 1) := by decide +kernel
theorem dX12_findHeard_20 : decode cX12_findHeard 20 = .ok (.if_icmp .ge 52, 3) := by decide +kernel
theorem dX12_findHeard_23 : decode cX12_findHeard 23 = .ok (.aload_n 0, 1) := by decide +kernel
theorem dX12_findHeard_24 : decode cX12_findHeard 24 = .ok (.getfield 96, 3) := by decide +kernel
theorem dX12_findHeard_27 : decode cX12_findHeard 27 = .ok (.bipush 24, 2) := by decide +kernel
theorem dX12_findHeard_29 : decode cX12_findHeard 29 = .ok (.iload_n 3, 1) := by decide +kernel
theorem dX12_findHeard_3 : decode cX12_findHeard 3 = .ok (.aload_n 0, 1) := by decide +kernel
theorem dX12_findHeard_30 : decode cX12_findHeard 30 = .ok (.imul, 1) := by decide +kernel
theorem dX12_findHeard_31 : decode cX12_findHeard 31 = .ok (.iload 4, 2) := by decide +kernel
theorem dX12_findHeard_33 : decode cX12_findHeard 33 = .ok (.iadd, 1) := by decide +kernel
theorem dX12_findHeard_34 : decode cX12_findHeard 34 = .ok (.aload_n 0, 1) := by decide +kernel
theorem dX12_findHeard_35 : decode cX12_findHeard 35 = .ok (.iload_n 3, 1) := by decide +kernel
theorem dX12_findHeard_36 : decode cX12_findHeard 36 = .ok (.lload_n 1, 1) := by decide +kernel
theorem dX12_findHeard_37 : decode cX12_findHeard 37 = .ok (.iload 4, 2) := by decide +kernel
theorem dX12_findHeard_39 : decode cX12_findHeard 39 = .ok (.i2l, 1) := by decide +kernel
theorem dX12_findHeard_4 : decode cX12_findHeard 4 = .ok (.getfield 121, 3) := by decide +kernel
theorem dX12_findHeard_40 : decode cX12_findHeard 40 = .ok (.ladd, 1) := by decide +kernel
theorem dX12_findHeard_41 : decode cX12_findHeard 41 = .ok (.invokevirtual 225, 3) := by decide +kernel
theorem dX12_findHeard_44 : decode cX12_findHeard 44 = .ok (.aload_n 0, 1) := by decide +kernel
theorem dX12_findHeard_45 : decode cX12_findHeard 45 = .ok (.getfield 32, 3) := by decide +kernel
theorem dX12_findHeard_48 : decode cX12_findHeard 48 = .ok (.iload_n 3, 1) := by decide +kernel
theorem dX12_findHeard_49 : decode cX12_findHeard 49 = .ok (.iaload, 1) := by decide +kernel
theorem dX12_findHeard_50 : decode cX12_findHeard 50 = .ok (.iand, 1) := by decide +kernel
theorem dX12_findHeard_51 : decode cX12_findHeard 51 = .ok (.aload_n 0, 1) := by decide +kernel
theorem dX12_findHeard_52 : decode cX12_findHeard 52 = .ok (.getfield 32, 3) := by decide +kernel
theorem dX12_findHeard_55 : decode cX12_findHeard 55 = .ok (.iload_n 3, 1) := by decide +kernel
theorem dX12_findHeard_56 : decode cX12_findHeard 56 = .ok (.iaload, 1) := by decide +kernel
theorem dX12_findHeard_57 : decode cX12_findHeard 57 = .ok (.if_icmp .ne 7, 3) := by decide +kernel
theorem dX12_findHeard_60 : decode cX12_findHeard 60 = .ok (.iconst 1, 1) := by decide +kernel
theorem dX12_findHeard_61 : decode cX12_findHeard 61 = .ok (.goto 4, 3) := by decide +kernel
theorem dX12_findHeard_64 : decode cX12_findHeard 64 = .ok (.iconst 0, 1) := by decide +kernel
theorem dX12_findHeard_65 : decode cX12_findHeard 65 = .ok (.bastore, 1) := by decide +kernel
theorem dX12_findHeard_66 : decode cX12_findHeard 66 = .ok (.iinc 4 1, 3) := by decide +kernel
theorem dX12_findHeard_69 : decode cX12_findHeard 69 = .ok (.goto (-56), 3) := by decide +kernel
theorem dX12_findHeard_7 : decode cX12_findHeard 7 = .ok (.if_icmp .ge 71, 3) := by decide +kernel
theorem dX12_findHeard_72 : decode cX12_findHeard 72 = .ok (.iinc 3 1, 3) := by decide +kernel
theorem dX12_findHeard_75 : decode cX12_findHeard 75 = .ok (.goto (-73), 3) := by decide +kernel
theorem dX12_findHeard_78 : decode cX12_findHeard 78 = .ok (.return_, 1) := by decide +kernel
theorem dX12_mark_0 : decode cX12_mark 0 = .ok (.aload_n 0, 1) := by decide +kernel
theorem dX12_mark_1 : decode cX12_mark 1 = .ok (.iconst 0, 1) := by decide +kernel
theorem dX12_mark_10 : decode cX12_mark 10 = .ok (.invokestatic 124, 3) := by decide +kernel
theorem dX12_mark_13 : decode cX12_mark 13 = .ok (.ifCond .eq 22, 3) := by decide +kernel
theorem dX12_mark_16 : decode cX12_mark 16 = .ok (.iload_n 2, 1) := by decide +kernel
theorem dX12_mark_17 : decode cX12_mark 17 = .ok (.iconst 1, 1) := by decide +kernel
theorem dX12_mark_18 : decode cX12_mark 18 = .ok (.bipush 9, 2) := by decide +kernel
theorem dX12_mark_2 : decode cX12_mark 2 = .ok (.putfield 118, 3) := by decide +kernel
theorem dX12_mark_20 : decode cX12_mark 20 = .ok (.invokestatic 124, 3) := by decide +kernel
theorem dX12_mark_23 : decode cX12_mark 23 = .ok (.ifCond .eq 12, 3) := by decide +kernel
theorem dX12_mark_26 : decode cX12_mark 26 = .ok (.aload_n 0, 1) := by decide +kernel
theorem dX12_mark_27 : decode cX12_mark 27 = .ok (.getfield 176, 3) := by decide +kernel
theorem dX12_mark_30 : decode cX12_mark 30 = .ok (.bipush 6, 2) := by decide +kernel
theorem dX12_mark_32 : decode cX12_mark 32 = .ok (.if_icmp .ne 5, 3) := by decide +kernel
theorem dX12_mark_35 : decode cX12_mark 35 = .ok (.iconst (-1), 1) := by decide +kernel
theorem dX12_mark_36 : decode cX12_mark 36 = .ok (.ireturn, 1) := by decide +kernel
theorem dX12_mark_37 : decode cX12_mark 37 = .ok (.aload_n 0, 1) := by decide +kernel
theorem dX12_mark_38 : decode cX12_mark 38 = .ok (.getfield 44, 3) := by decide +kernel
theorem dX12_mark_41 : decode cX12_mark 41 = .ok (.aload_n 0, 1) := by decide +kernel
theorem dX12_mark_42 : decode cX12_mark 42 = .ok (.getfield 176, 3) := by decide +kernel
theorem dX12_mark_45 : decode cX12_mark 45 = .ok (.iload_n 1, 1) := by decide +kernel
theorem dX12_mark_46 : decode cX12_mark 46 = .ok (.iastore, 1) := by decide +kernel
theorem dX12_mark_47 : decode cX12_mark 47 = .ok (.aload_n 0, 1) := by decide +kernel
theorem dX12_mark_48 : decode cX12_mark 48 = .ok (.getfield 47, 3) := by decide +kernel
theorem dX12_mark_5 : decode cX12_mark 5 = .ok (.iload_n 1, 1) := by decide +kernel
theorem dX12_mark_51 : decode cX12_mark 51 = .ok (.aload_n 0, 1) := by decide +kernel
theorem dX12_mark_52 : decode cX12_mark 52 = .ok (.getfield 176, 3) := by decide +kernel
theorem dX12_mark_55 : decode cX12_mark 55 = .ok (.iload_n 2, 1) := by decide +kernel
theorem dX12_mark_56 : decode cX12_mark 56 = .ok (.iastore, 1) := by decide +kernel
theorem dX12_mark_57 : decode cX12_mark 57 = .ok (.aload_n 0, 1) := by decide +kernel
theorem dX12_mark_58 : decode cX12_mark 58 = .ok (.dup, 1) := by decide +kernel
theorem dX12_mark_59 : decode cX12_mark 59 = .ok (.getfield 176, 3) := by decide +kernel
theorem dX12_mark_6 : decode cX12_mark 6 = .ok (.iconst 0, 1) := by decide +kernel
theorem dX12_mark_62 : decode cX12_mark 62 = .ok (.iconst 1, 1) := by decide +kernel
theorem dX12_mark_63 : decode cX12_mark 63 = .ok (.iadd, 1) := by decide +kernel
theorem dX12_mark_64 : decode cX12_mark 64 = .ok (.putfield 176, 3) := by decide +kernel
theorem dX12_mark_67 : decode cX12_mark 67 = .ok (.aload_n 0, 1) := by decide +kernel
theorem dX12_mark_68 : decode cX12_mark 68 = .ok (.getfield 176, 3) := by decide +kernel
theorem dX12_mark_7 : decode cX12_mark 7 = .ok (.ldc_w 262, 3) := by decide +kernel
theorem dX12_mark_71 : decode cX12_mark 71 = .ok (.ireturn, 1) := by decide +kernel
theorem dX12_meetsAt_0 : decode cX12_meetsAt 0 = .ok (.iconst 0, 1) := by decide +kernel
theorem dX12_meetsAt_1 : decode cX12_meetsAt 1 = .ok (.istore_n 3, 1) := by decide +kernel
theorem dX12_meetsAt_10 : decode cX12_meetsAt 10 = .ok (.aload_n 0, 1) := by decide +kernel
theorem dX12_meetsAt_11 : decode cX12_meetsAt 11 = .ok (.iload_n 3, 1) := by decide +kernel
theorem dX12_meetsAt_12 : decode cX12_meetsAt 12 = .ok (.lload_n 1, 1) := by decide +kernel
theorem dX12_meetsAt_13 : decode cX12_meetsAt 13 = .ok (.invokevirtual 225, 3) := by decide +kernel
theorem dX12_meetsAt_16 : decode cX12_meetsAt 16 = .ok (.aload_n 0, 1) := by decide +kernel
theorem dX12_meetsAt_17 : decode cX12_meetsAt 17 = .ok (.getfield 32, 3) := by decide +kernel
theorem dX12_meetsAt_2 : decode cX12_meetsAt 2 = .ok (.iload_n 3, 1) := by decide +kernel
theorem dX12_meetsAt_20 : decode cX12_meetsAt 20 = .ok (.iload_n 3, 1) := by decide +kernel
theorem dX12_meetsAt_21 : decode cX12_meetsAt 21 = .ok (.iaload, 1) := by decide +kernel
theorem dX12_meetsAt_22 : decode cX12_meetsAt 22 = .ok (.iand, 1) := by decide +kernel
theorem dX12_meetsAt_23 : decode cX12_meetsAt 23 = .ok (.aload_n 0, 1) := by decide +kernel
theorem dX12_meetsAt_24 : decode cX12_meetsAt 24 = .ok (.getfield 32, 3) := by decide +kernel
theorem dX12_meetsAt_27 : decode cX12_meetsAt 27 = .ok (.iload_n 3, 1) := by decide +kernel
theorem dX12_meetsAt_28 : decode cX12_meetsAt 28 = .ok (.iaload, 1) := by decide +kernel
theorem dX12_meetsAt_29 : decode cX12_meetsAt 29 = .ok (.if_icmp .eq 5, 3) := by decide +kernel
theorem dX12_meetsAt_3 : decode cX12_meetsAt 3 = .ok (.aload_n 0, 1) := by decide +kernel
theorem dX12_meetsAt_32 : decode cX12_meetsAt 32 = .ok (.iconst 0, 1) := by decide +kernel
theorem dX12_meetsAt_33 : decode cX12_meetsAt 33 = .ok (.ireturn, 1) := by decide +kernel
theorem dX12_meetsAt_34 : decode cX12_meetsAt 34 = .ok (.iinc 3 1, 3) := by decide +kernel
theorem dX12_meetsAt_37 : decode cX12_meetsAt 37 = .ok (.goto (-35), 3) := by decide +kernel
theorem dX12_meetsAt_4 : decode cX12_meetsAt 4 = .ok (.getfield 121, 3) := by decide +kernel
theorem dX12_meetsAt_40 : decode cX12_meetsAt 40 = .ok (.iconst 1, 1) := by decide +kernel
theorem dX12_meetsAt_41 : decode cX12_meetsAt 41 = .ok (.ireturn, 1) := by decide +kernel
theorem dX12_meetsAt_7 : decode cX12_meetsAt 7 = .ok (.if_icmp .ge 33, 3) := by decide +kernel
theorem dX12_meetsBehind_0 : decode cX12_meetsBehind 0 = .ok (.iconst 0, 1) := by decide +kernel
theorem dX12_meetsBehind_1 : decode cX12_meetsBehind 1 = .ok (.istore_n 2, 1) := by decide +kernel
theorem dX12_meetsBehind_10 : decode cX12_meetsBehind 10 = .ok (.aload_n 0, 1) := by decide +kernel
theorem dX12_meetsBehind_11 : decode cX12_meetsBehind 11 = .ok (.getfield 96, 3) := by decide +kernel
theorem dX12_meetsBehind_14 : decode cX12_meetsBehind 14 = .ok (.bipush 24, 2) := by decide +kernel
theorem dX12_meetsBehind_16 : decode cX12_meetsBehind 16 = .ok (.iload_n 2, 1) := by decide +kernel
theorem dX12_meetsBehind_17 : decode cX12_meetsBehind 17 = .ok (.imul, 1) := by decide +kernel
theorem dX12_meetsBehind_18 : decode cX12_meetsBehind 18 = .ok (.iload_n 1, 1) := by decide +kernel
theorem dX12_meetsBehind_19 : decode cX12_meetsBehind 19 = .ok (.aload_n 0, 1) := by decide +kernel
theorem dX12_meetsBehind_2 : decode cX12_meetsBehind 2 = .ok (.iload_n 2, 1) := by decide +kernel
theorem dX12_meetsBehind_20 : decode cX12_meetsBehind 20 = .ok (.iload_n 2, 1) := by decide +kernel
theorem dX12_meetsBehind_21 : decode cX12_meetsBehind 21 = .ok (.invokevirtual 203, 3) := by decide +kernel
theorem dX12_meetsBehind_24 : decode cX12_meetsBehind 24 = .ok (.irem, 1) := by decide +kernel
theorem dX12_meetsBehind_25 : decode cX12_meetsBehind 25 = .ok (.iadd, 1) := by decide +kernel
theorem dX12_meetsBehind_26 : decode cX12_meetsBehind 26 = .ok (.baload, 1) := by decide +kernel
theorem dX12_meetsBehind_27 : decode cX12_meetsBehind 27 = .ok (.ifCond .ne 5, 3) := by decide +kernel
theorem dX12_meetsBehind_3 : decode cX12_meetsBehind 3 = .ok (.aload_n 0, 1) := by decide +kernel
theorem dX12_meetsBehind_30 : decode cX12_meetsBehind 30 = .ok (.iconst 0, 1) := by decide +kernel
theorem dX12_meetsBehind_31 : decode cX12_meetsBehind 31 = .ok (.ireturn, 1) := by decide +kernel
theorem dX12_meetsBehind_32 : decode cX12_meetsBehind 32 = .ok (.iinc 2 1, 3) := by decide +kernel
theorem dX12_meetsBehind_35 : decode cX12_meetsBehind 35 = .ok (.goto (-33), 3) := by decide +kernel
theorem dX12_meetsBehind_38 : decode cX12_meetsBehind 38 = .ok (.iconst 1, 1) := by decide +kernel
theorem dX12_meetsBehind_39 : decode cX12_meetsBehind 39 = .ok (.ireturn, 1) := by decide +kernel
theorem dX12_meetsBehind_4 : decode cX12_meetsBehind 4 = .ok (.getfield 121, 3) := by decide +kernel
theorem dX12_meetsBehind_7 : decode cX12_meetsBehind 7 = .ok (.if_icmp .ge 31, 3) := by decide +kernel
theorem dX12_meets_0 : decode cX12_meets 0 = .ok (.aload_n 0, 1) := by decide +kernel
theorem dX12_meets_1 : decode cX12_meets 1 = .ok (.iconst 0, 1) := by decide +kernel
theorem dX12_meets_11 : decode cX12_meets 11 = .ok (.lload_n 1, 1) := by decide +kernel
theorem dX12_meets_12 : decode cX12_meets 12 = .ok (.ldc2_w 243, 3) := by decide +kernel
theorem dX12_meets_15 : decode cX12_meets 15 = .ok (.lcmp, 1) := by decide +kernel
theorem dX12_meets_16 : decode cX12_meets 16 = .ok (.ifCond .le 7, 3) := by decide +kernel
theorem dX12_meets_19 : decode cX12_meets 19 = .ok (.ldc2_w 245, 3) := by decide +kernel
theorem dX12_meets_2 : decode cX12_meets 2 = .ok (.putfield 118, 3) := by decide +kernel
theorem dX12_meets_22 : decode cX12_meets 22 = .ok (.lreturn, 1) := by decide +kernel
theorem dX12_meets_23 : decode cX12_meets 23 = .ok (.lload_n 1, 1) := by decide +kernel
theorem dX12_meets_24 : decode cX12_meets 24 = .ok (.lstore_n 3, 1) := by decide +kernel
theorem dX12_meets_25 : decode cX12_meets 25 = .ok (.lload_n 3, 1) := by decide +kernel
theorem dX12_meets_26 : decode cX12_meets 26 = .ok (.aload_n 0, 1) := by decide +kernel
theorem dX12_meets_27 : decode cX12_meets 27 = .ok (.invokevirtual 247, 3) := by decide +kernel
theorem dX12_meets_30 : decode cX12_meets 30 = .ok (.i2l, 1) := by decide +kernel
theorem dX12_meets_31 : decode cX12_meets 31 = .ok (.lcmp, 1) := by decide +kernel
theorem dX12_meets_32 : decode cX12_meets 32 = .ok (.ifCond .ge 20, 3) := by decide +kernel
theorem dX12_meets_35 : decode cX12_meets 35 = .ok (.aload_n 0, 1) := by decide +kernel
theorem dX12_meets_36 : decode cX12_meets 36 = .ok (.lload_n 3, 1) := by decide +kernel
theorem dX12_meets_37 : decode cX12_meets 37 = .ok (.invokevirtual 251, 3) := by decide +kernel
theorem dX12_meets_40 : decode cX12_meets 40 = .ok (.ifCond .eq 5, 3) := by decide +kernel
theorem dX12_meets_43 : decode cX12_meets 43 = .ok (.lload_n 3, 1) := by decide +kernel
theorem dX12_meets_44 : decode cX12_meets 44 = .ok (.lreturn, 1) := by decide +kernel
theorem dX12_meets_45 : decode cX12_meets 45 = .ok (.lload_n 3, 1) := by decide +kernel
theorem dX12_meets_46 : decode cX12_meets 46 = .ok (.lconst 1, 1) := by decide +kernel
theorem dX12_meets_47 : decode cX12_meets 47 = .ok (.ladd, 1) := by decide +kernel
theorem dX12_meets_48 : decode cX12_meets 48 = .ok (.lstore_n 3, 1) := by decide +kernel
theorem dX12_meets_49 : decode cX12_meets 49 = .ok (.goto (-24), 3) := by decide +kernel
theorem dX12_meets_5 : decode cX12_meets 5 = .ok (.lload_n 1, 1) := by decide +kernel
theorem dX12_meets_52 : decode cX12_meets 52 = .ok (.aload_n 0, 1) := by decide +kernel
theorem dX12_meets_53 : decode cX12_meets 53 = .ok (.lload_n 3, 1) := by decide +kernel
theorem dX12_meets_54 : decode cX12_meets 54 = .ok (.invokevirtual 255, 3) := by decide +kernel
theorem dX12_meets_57 : decode cX12_meets 57 = .ok (.aload_n 0, 1) := by decide +kernel
theorem dX12_meets_58 : decode cX12_meets 58 = .ok (.invokevirtual 233, 3) := by decide +kernel
theorem dX12_meets_6 : decode cX12_meets 6 = .ok (.lconst 0, 1) := by decide +kernel
theorem dX12_meets_61 : decode cX12_meets 61 = .ok (.l2i, 1) := by decide +kernel
theorem dX12_meets_62 : decode cX12_meets 62 = .ok (.istore 5, 2) := by decide +kernel
theorem dX12_meets_64 : decode cX12_meets 64 = .ok (.iconst 0, 1) := by decide +kernel
theorem dX12_meets_65 : decode cX12_meets 65 = .ok (.istore 6, 2) := by decide +kernel
theorem dX12_meets_67 : decode cX12_meets 67 = .ok (.iload 6, 2) := by decide +kernel
theorem dX12_meets_69 : decode cX12_meets 69 = .ok (.iload 5, 2) := by decide +kernel
theorem dX12_meets_7 : decode cX12_meets 7 = .ok (.lcmp, 1) := by decide +kernel
theorem dX12_meets_71 : decode cX12_meets 71 = .ok (.if_icmp .ge 24, 3) := by decide +kernel
theorem dX12_meets_74 : decode cX12_meets 74 = .ok (.aload_n 0, 1) := by decide +kernel
theorem dX12_meets_75 : decode cX12_meets 75 = .ok (.iload 6, 2) := by decide +kernel
theorem dX12_meets_77 : decode cX12_meets 77 = .ok (.invokevirtual 259, 3) := by decide +kernel
theorem dX12_meets_8 : decode cX12_meets 8 = .ok (.ifCond .lt 11, 3) := by decide +kernel
theorem dX12_meets_80 : decode cX12_meets 80 = .ok (.ifCond .eq 9, 3) := by decide +kernel
theorem dX12_meets_83 : decode cX12_meets 83 = .ok (.lload_n 3, 1) := by decide +kernel
theorem dX12_meets_84 : decode cX12_meets 84 = .ok (.iload 6, 2) := by decide +kernel
theorem dX12_meets_86 : decode cX12_meets 86 = .ok (.i2l, 1) := by decide +kernel
theorem dX12_meets_87 : decode cX12_meets 87 = .ok (.ladd, 1) := by decide +kernel
theorem dX12_meets_88 : decode cX12_meets 88 = .ok (.lreturn, 1) := by decide +kernel
theorem dX12_meets_89 : decode cX12_meets 89 = .ok (.iinc 6 1, 3) := by decide +kernel
theorem dX12_meets_92 : decode cX12_meets 92 = .ok (.goto (-25), 3) := by decide +kernel
theorem dX12_meets_95 : decode cX12_meets 95 = .ok (.ldc2_w 245, 3) := by decide +kernel
theorem dX12_meets_98 : decode cX12_meets 98 = .ok (.lreturn, 1) := by decide +kernel
theorem dX12_often_0 : decode cX12_often 0 = .ok (.aload_n 0, 1) := by decide +kernel
theorem dX12_often_1 : decode cX12_often 1 = .ok (.iconst 0, 1) := by decide +kernel
theorem dX12_often_10 : decode cX12_often 10 = .ok (.i2l, 1) := by decide +kernel
theorem dX12_often_11 : decode cX12_often 11 = .ok (.invokevirtual 255, 3) := by decide +kernel
theorem dX12_often_14 : decode cX12_often 14 = .ok (.aload_n 0, 1) := by decide +kernel
theorem dX12_often_15 : decode cX12_often 15 = .ok (.invokevirtual 233, 3) := by decide +kernel
theorem dX12_often_18 : decode cX12_often 18 = .ok (.l2i, 1) := by decide +kernel
theorem dX12_often_19 : decode cX12_often 19 = .ok (.istore_n 1, 1) := by decide +kernel
theorem dX12_often_2 : decode cX12_often 2 = .ok (.putfield 118, 3) := by decide +kernel
theorem dX12_often_20 : decode cX12_often 20 = .ok (.lconst 0, 1) := by decide +kernel
theorem dX12_often_21 : decode cX12_often 21 = .ok (.lstore_n 2, 1) := by decide +kernel
theorem dX12_often_22 : decode cX12_often 22 = .ok (.iconst 0, 1) := by decide +kernel
theorem dX12_often_23 : decode cX12_often 23 = .ok (.istore 4, 2) := by decide +kernel
theorem dX12_often_25 : decode cX12_often 25 = .ok (.iload 4, 2) := by decide +kernel
theorem dX12_often_27 : decode cX12_often 27 = .ok (.iload_n 1, 1) := by decide +kernel
theorem dX12_often_28 : decode cX12_often 28 = .ok (.if_icmp .ge 22, 3) := by decide +kernel
theorem dX12_often_31 : decode cX12_often 31 = .ok (.aload_n 0, 1) := by decide +kernel
theorem dX12_often_32 : decode cX12_often 32 = .ok (.iload 4, 2) := by decide +kernel
theorem dX12_often_34 : decode cX12_often 34 = .ok (.invokevirtual 259, 3) := by decide +kernel
theorem dX12_often_37 : decode cX12_often 37 = .ok (.ifCond .eq 7, 3) := by decide +kernel
theorem dX12_often_40 : decode cX12_often 40 = .ok (.lload_n 2, 1) := by decide +kernel
theorem dX12_often_41 : decode cX12_often 41 = .ok (.lconst 1, 1) := by decide +kernel
theorem dX12_often_42 : decode cX12_often 42 = .ok (.ladd, 1) := by decide +kernel
theorem dX12_often_43 : decode cX12_often 43 = .ok (.lstore_n 2, 1) := by decide +kernel
theorem dX12_often_44 : decode cX12_often 44 = .ok (.iinc 4 1, 3) := by decide +kernel
theorem dX12_often_47 : decode cX12_often 47 = .ok (.goto (-22), 3) := by decide +kernel
theorem dX12_often_5 : decode cX12_often 5 = .ok (.aload_n 0, 1) := by decide +kernel
theorem dX12_often_50 : decode cX12_often 50 = .ok (.lload_n 2, 1) := by decide +kernel
theorem dX12_often_51 : decode cX12_often 51 = .ok (.lreturn, 1) := by decide +kernel
theorem dX12_often_6 : decode cX12_often 6 = .ok (.aload_n 0, 1) := by decide +kernel
theorem dX12_often_7 : decode cX12_often 7 = .ok (.invokevirtual 247, 3) := by decide +kernel
theorem dX12_steadyAll_0 : decode cX12_steadyAll 0 = .ok (.aload_n 0, 1) := by decide +kernel
theorem dX12_steadyAll_1 : decode cX12_steadyAll 1 = .ok (.iconst 0, 1) := by decide +kernel
theorem dX12_steadyAll_10 : decode cX12_steadyAll 10 = .ok (.invokestatic 240, 3) := by decide +kernel
theorem dX12_steadyAll_13 : decode cX12_steadyAll 13 = .ok (.ireturn, 1) := by decide +kernel
theorem dX12_steadyAll_2 : decode cX12_steadyAll 2 = .ok (.invokevirtual 211, 3) := by decide +kernel
theorem dX12_steadyAll_5 : decode cX12_steadyAll 5 = .ok (.aload_n 0, 1) := by decide +kernel
theorem dX12_steadyAll_6 : decode cX12_steadyAll 6 = .ok (.iconst 1, 1) := by decide +kernel
theorem dX12_steadyAll_7 : decode cX12_steadyAll 7 = .ok (.invokevirtual 211, 3) := by decide +kernel
theorem dX12_truths_0 : decode cX12_truths 0 = .ok (.aload_n 0, 1) := by decide +kernel
theorem dX12_truths_1 : decode cX12_truths 1 = .ok (.getfield 20, 3) := by decide +kernel
theorem dX12_truths_10 : decode cX12_truths 10 = .ok (.iconst 0, 1) := by decide +kernel
theorem dX12_truths_100 : decode cX12_truths 100 = .ok (.aload_n 0, 1) := by decide +kernel
theorem dX12_truths_101 : decode cX12_truths 101 = .ok (.getfield 47, 3) := by decide +kernel
theorem dX12_truths_104 : decode cX12_truths 104 = .ok (.iload 6, 2) := by decide +kernel
theorem dX12_truths_106 : decode cX12_truths 106 = .ok (.iaload, 1) := by decide +kernel
theorem dX12_truths_107 : decode cX12_truths 107 = .ok (.ishr, 1) := by decide +kernel
theorem dX12_truths_108 : decode cX12_truths 108 = .ok (.iconst 1, 1) := by decide +kernel
theorem dX12_truths_109 : decode cX12_truths 109 = .ok (.iand, 1) := by decide +kernel
theorem dX12_truths_11 : decode cX12_truths 11 = .ok (.istore 5, 2) := by decide +kernel
theorem dX12_truths_110 : decode cX12_truths 110 = .ok (.iconst 1, 1) := by decide +kernel
theorem dX12_truths_111 : decode cX12_truths 111 = .ok (.if_icmp .ne 7, 3) := by decide +kernel
theorem dX12_truths_114 : decode cX12_truths 114 = .ok (.iconst 1, 1) := by decide +kernel
theorem dX12_truths_115 : decode cX12_truths 115 = .ok (.goto 4, 3) := by decide +kernel
theorem dX12_truths_118 : decode cX12_truths 118 = .ok (.iconst 0, 1) := by decide +kernel
theorem dX12_truths_119 : decode cX12_truths 119 = .ok (.istore 8, 2) := by decide +kernel
theorem dX12_truths_121 : decode cX12_truths 121 = .ok (.iinc 9 1, 3) := by decide +kernel
theorem dX12_truths_124 : decode cX12_truths 124 = .ok (.goto (-69), 3) := by decide +kernel
theorem dX12_truths_127 : decode cX12_truths 127 = .ok (.iload 8, 2) := by decide +kernel
theorem dX12_truths_129 : decode cX12_truths 129 = .ok (.ifCond .eq 12, 3) := by decide +kernel
theorem dX12_truths_13 : decode cX12_truths 13 = .ok (.iconst 0, 1) := by decide +kernel
theorem dX12_truths_132 : decode cX12_truths 132 = .ok (.iload 5, 2) := by decide +kernel
theorem dX12_truths_134 : decode cX12_truths 134 = .ok (.iconst 1, 1) := by decide +kernel
theorem dX12_truths_135 : decode cX12_truths 135 = .ok (.iload 6, 2) := by decide +kernel
theorem dX12_truths_137 : decode cX12_truths 137 = .ok (.ishl, 1) := by decide +kernel
theorem dX12_truths_138 : decode cX12_truths 138 = .ok (.ior, 1) := by decide +kernel
theorem dX12_truths_139 : decode cX12_truths 139 = .ok (.istore 5, 2) := by decide +kernel
theorem dX12_truths_14 : decode cX12_truths 14 = .ok (.istore 6, 2) := by decide +kernel
theorem dX12_truths_141 : decode cX12_truths 141 = .ok (.iinc 6 1, 3) := by decide +kernel
theorem dX12_truths_144 : decode cX12_truths 144 = .ok (.goto (-128), 3) := by decide +kernel
theorem dX12_truths_147 : decode cX12_truths 147 = .ok (.iload 5, 2) := by decide +kernel
theorem dX12_truths_149 : decode cX12_truths 149 = .ok (.ireturn, 1) := by decide +kernel
theorem dX12_truths_16 : decode cX12_truths 16 = .ok (.iload 6, 2) := by decide +kernel
theorem dX12_truths_18 : decode cX12_truths 18 = .ok (.aload_n 0, 1) := by decide +kernel
theorem dX12_truths_19 : decode cX12_truths 19 = .ok (.getfield 176, 3) := by decide +kernel
theorem dX12_truths_22 : decode cX12_truths 22 = .ok (.if_icmp .ge 125, 3) := by decide +kernel
theorem dX12_truths_25 : decode cX12_truths 25 = .ok (.iload_n 3, 1) := by decide +kernel
theorem dX12_truths_26 : decode cX12_truths 26 = .ok (.aload_n 0, 1) := by decide +kernel
theorem dX12_truths_27 : decode cX12_truths 27 = .ok (.aload_n 0, 1) := by decide +kernel
theorem dX12_truths_28 : decode cX12_truths 28 = .ok (.getfield 23, 3) := by decide +kernel
theorem dX12_truths_31 : decode cX12_truths 31 = .ok (.iload_n 1, 1) := by decide +kernel
theorem dX12_truths_32 : decode cX12_truths 32 = .ok (.iaload, 1) := by decide +kernel
theorem dX12_truths_33 : decode cX12_truths 33 = .ok (.aload_n 0, 1) := by decide +kernel
theorem dX12_truths_34 : decode cX12_truths 34 = .ok (.getfield 44, 3) := by decide +kernel
theorem dX12_truths_37 : decode cX12_truths 37 = .ok (.iload 6, 2) := by decide +kernel
theorem dX12_truths_39 : decode cX12_truths 39 = .ok (.iaload, 1) := by decide +kernel
theorem dX12_truths_4 : decode cX12_truths 4 = .ok (.iload_n 1, 1) := by decide +kernel
theorem dX12_truths_40 : decode cX12_truths 40 = .ok (.i2l, 1) := by decide +kernel
theorem dX12_truths_41 : decode cX12_truths 41 = .ok (.iload 4, 2) := by decide +kernel
theorem dX12_truths_43 : decode cX12_truths 43 = .ok (.invokevirtual 218, 3) := by decide +kernel
theorem dX12_truths_46 : decode cX12_truths 46 = .ok (.iadd, 1) := by decide +kernel
theorem dX12_truths_47 : decode cX12_truths 47 = .ok (.istore 7, 2) := by decide +kernel
theorem dX12_truths_49 : decode cX12_truths 49 = .ok (.iconst 0, 1) := by decide +kernel
theorem dX12_truths_5 : decode cX12_truths 5 = .ok (.iaload, 1) := by decide +kernel
theorem dX12_truths_50 : decode cX12_truths 50 = .ok (.istore 8, 2) := by decide +kernel
theorem dX12_truths_52 : decode cX12_truths 52 = .ok (.iconst 0, 1) := by decide +kernel
theorem dX12_truths_53 : decode cX12_truths 53 = .ok (.istore 9, 2) := by decide +kernel
theorem dX12_truths_55 : decode cX12_truths 55 = .ok (.iload 9, 2) := by decide +kernel
theorem dX12_truths_57 : decode cX12_truths 57 = .ok (.bipush 24, 2) := by decide +kernel
theorem dX12_truths_59 : decode cX12_truths 59 = .ok (.if_icmp .ge 68, 3) := by decide +kernel
theorem dX12_truths_6 : decode cX12_truths 6 = .ok (.iload_n 2, 1) := by decide +kernel
theorem dX12_truths_62 : decode cX12_truths 62 = .ok (.aload_n 0, 1) := by decide +kernel
theorem dX12_truths_63 : decode cX12_truths 63 = .ok (.getfield 29, 3) := by decide +kernel
theorem dX12_truths_66 : decode cX12_truths 66 = .ok (.iload_n 1, 1) := by decide +kernel
theorem dX12_truths_67 : decode cX12_truths 67 = .ok (.iaload, 1) := by decide +kernel
theorem dX12_truths_68 : decode cX12_truths 68 = .ok (.iload 9, 2) := by decide +kernel
theorem dX12_truths_7 : decode cX12_truths 7 = .ok (.isub, 1) := by decide +kernel
theorem dX12_truths_70 : decode cX12_truths 70 = .ok (.ishr, 1) := by decide +kernel
theorem dX12_truths_71 : decode cX12_truths 71 = .ok (.iconst 1, 1) := by decide +kernel
theorem dX12_truths_72 : decode cX12_truths 72 = .ok (.iand, 1) := by decide +kernel
theorem dX12_truths_73 : decode cX12_truths 73 = .ok (.iconst 1, 1) := by decide +kernel
theorem dX12_truths_74 : decode cX12_truths 74 = .ok (.if_icmp .ne 47, 3) := by decide +kernel
theorem dX12_truths_77 : decode cX12_truths 77 = .ok (.iload 8, 2) := by decide +kernel
theorem dX12_truths_79 : decode cX12_truths 79 = .ok (.ifCond .ne 35, 3) := by decide +kernel
theorem dX12_truths_8 : decode cX12_truths 8 = .ok (.istore 4, 2) := by decide +kernel
theorem dX12_truths_82 : decode cX12_truths 82 = .ok (.aload_n 0, 1) := by decide +kernel
theorem dX12_truths_83 : decode cX12_truths 83 = .ok (.getfield 17, 3) := by decide +kernel
theorem dX12_truths_86 : decode cX12_truths 86 = .ok (.bipush 24, 2) := by decide +kernel
theorem dX12_truths_88 : decode cX12_truths 88 = .ok (.iload_n 1, 1) := by decide +kernel
theorem dX12_truths_89 : decode cX12_truths 89 = .ok (.imul, 1) := by decide +kernel
theorem dX12_truths_90 : decode cX12_truths 90 = .ok (.iload 7, 2) := by decide +kernel
theorem dX12_truths_92 : decode cX12_truths 92 = .ok (.iload 9, 2) := by decide +kernel
theorem dX12_truths_94 : decode cX12_truths 94 = .ok (.iadd, 1) := by decide +kernel
theorem dX12_truths_95 : decode cX12_truths 95 = .ok (.iload 4, 2) := by decide +kernel
theorem dX12_truths_97 : decode cX12_truths 97 = .ok (.irem, 1) := by decide +kernel
theorem dX12_truths_98 : decode cX12_truths 98 = .ok (.iadd, 1) := by decide +kernel
theorem dX12_truths_99 : decode cX12_truths 99 = .ok (.iaload, 1) := by decide +kernel
theorem dm_X12_steadyAll : yX12_steadyAll.cls = RX12 ∧ yX12_steadyAll.cls ≠ "java/lang/invoke/MethodHandle" ∧ yX12_steadyAll.cls ≠ "java/lang/invoke/VarHandle" ∧ (parseMethodDescriptor yX12_steadyAll.desc).map (fun d => d.parameters.length) = some 0 := by decide +kernel
theorem dm_X12_findHeard : yX12_findHeard.cls = RX12 ∧ yX12_findHeard.cls ≠ "java/lang/invoke/MethodHandle" ∧ yX12_findHeard.cls ≠ "java/lang/invoke/VarHandle" ∧ (parseMethodDescriptor yX12_findHeard.desc).map (fun d => d.parameters.length) = some 1 := by decide +kernel
theorem dm_X12_meetsBehind : yX12_meetsBehind.cls = RX12 ∧ yX12_meetsBehind.cls ≠ "java/lang/invoke/MethodHandle" ∧ yX12_meetsBehind.cls ≠ "java/lang/invoke/VarHandle" ∧ (parseMethodDescriptor yX12_meetsBehind.desc).map (fun d => d.parameters.length) = some 1 := by decide +kernel
theorem dm_X12_meetsAt : yX12_meetsAt.cls = RX12 ∧ yX12_meetsAt.cls ≠ "java/lang/invoke/MethodHandle" ∧ yX12_meetsAt.cls ≠ "java/lang/invoke/VarHandle" ∧ (parseMethodDescriptor yX12_meetsAt.desc).map (fun d => d.parameters.length) = some 1 := by decide +kernel
set_option maxRecDepth 100000 in
def wR_meetsAt (a0 : Int) (M : zM) (Q : Int → Prop) : Prop := pL1 (fun K2 x1 => ((sI (M 0 10)) ≤ (sI x1) → Q 1) ∧ ((sI x1) < (sI (M 0 10)) → wR_heardOf x1 a0 M (fun z11 => ((0 ≤ (sI x1) ∧ (sI x1) < 4) ∧ ((0 ≤ (sI x1) ∧ (sI x1) < 4) ∧ ((andI z11 (M 8 (sI x1).toNat)) = (sI (M 8 (sI x1).toNat)) → K2 (x1 + 1)) ∧ ((andI z11 (M 8 (sI x1).toNat)) ≠ (sI (M 8 (sI x1).toNat)) → Q 0)))))) 0
set_option maxHeartbeats 4000000 in
set_option maxRecDepth 100000 in
theorem cR_meetsAt (l : Launch) (D : va_G) (dA : Nat → ClassId) (b : Nat) (M : zM) (a0 : Int)  (Q : Int → Prop) (h : wR_meetsAt a0 M Q) : Met l yX12_meetsAt (.code yX12_meetsAt cX12_meetsAt 4 (some .boolean) :: zt) (z_rm 3) (va_Pc [.ref (b + 0), .long (iL a0)] (wPre D dA vwCl (z_tys dA) wR nR b M)) (va_Qi (wQz (fun z9 u9 => u9 = M ∧ Q z9)) (zB D dA vwCl wR nR b) (zA nR b)) 0 0 (zA nR b) := by
  unfold wR_meetsAt at h
  refine Met.ofW (cc := cX12_meetsAt) (maxL := 4) (ret := (some .boolean)) (by decide) rfl ?_
  intro p e s m args below meth c s₁ B hml hv
  obtain ⟨hargs, hS, hK⟩ := hv
  have hx := B.exec
  have hb := B.bytes
  have hr := B.returns
  have hts := atoms_spec (ws := .code yX12_meetsAt cX12_meetsAt 4 (some .boolean) :: zt) B.pre
  have hown : s.vm.findClass RX12 = some m.cls := findClass_of_methodNamed B.named
  have hlocks := B.notSynchronized
  have hS0 : va_S (zA nR b) s.heap s.heap [] := va_S.rf
  have hl := lv_entry ([.ref (b + 0), .long (iL a0)]) (n := 4) (Nat.le_of_ble_eq_true rfl)
  have hent : entryFrame m args 4 = F0 m 0 ((lg_sl ([.ref (b + 0), .long (iL a0)]) ++ List.replicate (4 - (lg_sl ([.ref (b + 0), .long (iL a0)])).length) Slot.unset).toArray) [] := by rw [hargs]; exact lg_entry_eq m ([.ref (b + 0), .long (iL a0)]) 4
  rw [hent]
  generalize (lg_sl ([.ref (b + 0), .long (iL a0)]) ++ List.replicate (4 - (lg_sl ([.ref (b + 0), .long (iL a0)])).length) Slot.unset).toArray = ls at hl ⊢
  have hl : lv_has ls 4 [(0, .ref (b + 0)), (1, .long (iL a0))] := hl
  refine z_iconst hx hb dX12_meetsAt_0 ?_
  refine lv_istore_n (lv' := [(3, .int (iI 0)), (0, .ref (b + 0)), (1, .long (iL a0))]) hx hb dX12_meetsAt_1 rfl hl (by decide) rfl (fun ls hl => ?_)
  obtain ⟨I2, ⟨n3, h4⟩, h5⟩ := h
  have L6 : ∀ (n7 : Nat) (x1 : Int) (H : Heap) (locs : List Loc) (ls : Array Slot), I2 n7 x1 → zR D dA vwCl wR nR b M H → va_S (zA nR b) s.heap H locs → lv_has ls 4 [(0, .ref (b + 0)), (1, .long (iL a0)), (3, .int (iI x1))] → W p l e (headSpec (.code yX12_meetsAt cX12_meetsAt 4 (some .boolean) :: zt) (z_rm 3)).room s m args below meth c H locs 0 0 (MQ below (va_Qi (wQz (fun z9 u9 => u9 = M ∧ Q z9)) (zB D dA vwCl wR nR b) (zA nR b)) args s 0 0 (zA nR b)) (F0 m 2 ls []) := by
    intro n7
    induction n7 using Nat.strongRecOn with
    | ind n7 i8 =>
      intro x1 H locs ls h hS hS0 hl
      have h := h5 n7 x1 h
      refine lv_iload_n hx hb dX12_meetsAt_2 rfl (lv_at hl 2 rfl) ?_
      refine lv_aload_n hx hb dX12_meetsAt_3 rfl (lv_at hl 0 rfl) ?_
      refine w_geti hx hb hts (z_memU u12) hown hK.1 hS f12_10 (by decide) (zkd_of (rfl : zcd wR 0 = 50) rfl) (Or.inl (hts _ (z_mem k954))) dX12_meetsAt_4 ?_
      refine w_icmp_ge (tgt := 40) hx hb rfl rfl dX12_meetsAt_7 (by decide) (fun c9 => ?_) (fun c9 => ?_)
      · skip
        have h := h.1 c9
        refine z_iconst hx hb dX12_meetsAt_40 ?_
        exact w_zret hx hb hr hlocks hS hS0 (sI_of (by decide)) (by decide) ⟨rfl, h⟩ dX12_meetsAt_41
      · skip
        have h := h.2 c9
        refine lv_aload_n hx hb dX12_meetsAt_10 rfl (lv_at hl 0 rfl) ?_
        refine lv_iload_n hx hb dX12_meetsAt_11 rfl (lv_at hl 2 rfl) ?_
        refine lv_lload_n hx hb dX12_meetsAt_12 rfl (lv_at hl 1 rfl) ?_
        refine w_calli (va_runV (As := [.int (iI x1), .long (iL a0)]) (rest := []) ⟨hx, hb, hml, hown, hts⟩ (cR_heardOf l D dA b M x1 a0 _ h) (cwV 2 hts (z_gV k1154 k1155 k1402 k14 k1156) rfl rfl rfl dm_X12_heardOf ⟨Nat.le_of_ble_eq_true rfl, Nat.le_of_ble_eq_true rfl⟩) ⟨wPre_blind, (w_recv hS hK.1 (by decide) (zkd_of (rfl : zcd wR 0 = 50) rfl) (by decide) (rfl : vwCl[12]? = some (RX12, TX12, 50))), w_pre hS hK⟩ rfl rfl hl.1 rfl (lv_room (Nat.le_of_ble_eq_true rfl)) dX12_meetsAt_13 ⟨Nat.le_refl _, Nat.le_refl _⟩) hS0 (fun z11 M10 H locs r12 h hS hS0 => ?_)
        obtain ⟨e13, h⟩ := h
        rw [e13] at hS
        refine lv_aload_n hx hb dX12_meetsAt_16 rfl (lv_at hl 0 rfl) ?_
        refine w_getr (j2 := 8) hx hb hts (z_memU u12) hown hK.1 hS f12_9 (by decide) (zkd_of (rfl : zcd wR 0 = 50) rfl) (zrf_of (rfl : zcd wR 0 = 50) rfl) (Or.inl (hts _ (z_mem k953))) dX12_meetsAt_17 ?_
        refine lv_iload_n hx hb dX12_meetsAt_20 rfl (lv_at hl 2 rfl) ?_
        obtain ⟨o14, h⟩ := h
        refine w_iald (n := 4) (i := (sI x1)) hx hb hK.1 (t0 := 0) rfl hS (by decide) (zkd_of (rfl : zcd wR 8 = 58) rfl) (zln_of (rfl : zcd wR 8 = 58) rfl) rfl o14.1 o14.2 (by decide) dX12_meetsAt_21 ?_
        refine w_iand hx hb dX12_meetsAt_22 ?_
        refine lv_aload_n hx hb dX12_meetsAt_23 rfl (lv_at hl 0 rfl) ?_
        refine w_getr (j2 := 8) hx hb hts (z_memU u12) hown hK.1 hS f12_9 (by decide) (zkd_of (rfl : zcd wR 0 = 50) rfl) (zrf_of (rfl : zcd wR 0 = 50) rfl) (Or.inl (hts _ (z_mem k953))) dX12_meetsAt_24 ?_
        refine lv_iload_n hx hb dX12_meetsAt_27 rfl (lv_at hl 2 rfl) ?_
        obtain ⟨o15, h⟩ := h
        refine w_iald (n := 4) (i := (sI x1)) hx hb hK.1 (t0 := 0) rfl hS (by decide) (zkd_of (rfl : zcd wR 8 = 58) rfl) (zln_of (rfl : zcd wR 8 = 58) rfl) rfl o15.1 o15.2 (by decide) dX12_meetsAt_28 ?_
        refine w_icmp_eq (tgt := 34) hx hb (sI_of (andI_R _ _)) rfl dX12_meetsAt_29 (by decide) (fun c16 => ?_) (fun c16 => ?_)
        · skip
          have h := h.1 c16
          refine z_iinc (lv' := [(3, .int (iI (x1 + 1))), (0, .ref (b + 0)), (1, .long (iL a0))]) hx hb dX12_meetsAt_34 hl (k := 2) rfl (by decide) rfl (fun ls hl => ?_)
          refine lv_goto (tgt := 2) hx hb dX12_meetsAt_37 (by decide) ?_
          obtain ⟨n17, h18, h⟩ := h
          exact i8 n17 h18 (x1 + 1) _ _ _ h hS hS0 (lv_sub hl [1, 2, 0] rfl)
        · skip
          have h := h.2 c16
          refine z_iconst hx hb dX12_meetsAt_32 ?_
          exact w_zret hx hb hr hlocks hS hS0 (sI_of (by decide)) (by decide) ⟨rfl, h⟩ dX12_meetsAt_33
  exact L6 n3 0 _ _ _ h4 hS hS0 (lv_sub hl [1, 2, 0] rfl)

set_option maxRecDepth 100000 in
def wR_steadyAll  (M : zM) (Q : Int → Prop) : Prop := wR_steady 0 M (fun z2 => wR_steady 1 M (fun z6 => Q (max z2 z6)))
set_option maxHeartbeats 4000000 in
set_option maxRecDepth 100000 in
theorem cR_steadyAll (l : Launch) (D : va_G) (dA : Nat → ClassId) (b : Nat) (M : zM)   (Q : Int → Prop) (h : wR_steadyAll  M Q) : Met l yX12_steadyAll (.code yX12_steadyAll cX12_steadyAll 1 (some .int) :: zt) (z_rm 1) (va_Pc [.ref (b + 0)] (wPre D dA vwCl (z_tys dA) wR nR b M)) (va_Qi (wQi (fun z9 u9 => u9 = M ∧ Q z9)) (zB D dA vwCl wR nR b) (zA nR b)) 0 0 (zA nR b) := by
  unfold wR_steadyAll at h
  refine Met.ofW (cc := cX12_steadyAll) (maxL := 1) (ret := (some .int)) (by decide) rfl ?_
  intro p e s m args below meth c s₁ B hml hv
  obtain ⟨hargs, hS, hK⟩ := hv
  have hx := B.exec
  have hb := B.bytes
  have hr := B.returns
  have hts := atoms_spec (ws := .code yX12_steadyAll cX12_steadyAll 1 (some .int) :: zt) B.pre
  have hown : s.vm.findClass RX12 = some m.cls := findClass_of_methodNamed B.named
  have hlocks := B.notSynchronized
  have hS0 : va_S (zA nR b) s.heap s.heap [] := va_S.rf
  have hl := lv_entry ([.ref (b + 0)]) (n := 1) (Nat.le_of_ble_eq_true rfl)
  have hent : entryFrame m args 1 = F0 m 0 ((lg_sl ([.ref (b + 0)]) ++ List.replicate (1 - (lg_sl ([.ref (b + 0)])).length) Slot.unset).toArray) [] := by rw [hargs]; exact lg_entry_eq m ([.ref (b + 0)]) 1
  rw [hent]
  generalize (lg_sl ([.ref (b + 0)]) ++ List.replicate (1 - (lg_sl ([.ref (b + 0)])).length) Slot.unset).toArray = ls at hl ⊢
  have hl : lv_has ls 1 [(0, .ref (b + 0))] := hl
  refine lv_aload_n hx hb dX12_steadyAll_0 rfl (lv_at hl 0 rfl) ?_
  refine z_iconst hx hb dX12_steadyAll_1 ?_
  refine w_calli (va_runV (As := [.int (iI 0)]) (rest := []) ⟨hx, hb, hml, hown, hts⟩ (cR_steady l D dA b M 0 _ h) (cwV 1 hts (z_gV k1160 k1161 k1404 k14 k1162) rfl rfl rfl dm_X12_steady ⟨Nat.le_of_ble_eq_true rfl, Nat.le_of_ble_eq_true rfl⟩) ⟨wPre_blind, (w_recv hS hK.1 (by decide) (zkd_of (rfl : zcd wR 0 = 50) rfl) (by decide) (rfl : vwCl[12]? = some (RX12, TX12, 50))), w_pre hS hK⟩ rfl rfl hl.1 rfl (lv_room (Nat.le_of_ble_eq_true rfl)) dX12_steadyAll_2 ⟨Nat.le_refl _, Nat.le_refl _⟩) hS0 (fun z2 M1 H locs r3 h hS hS0 => ?_)
  obtain ⟨e4, h⟩ := h
  rw [e4] at hS
  refine lv_aload_n hx hb dX12_steadyAll_5 rfl (lv_at hl 0 rfl) ?_
  refine z_iconst hx hb dX12_steadyAll_6 ?_
  refine w_calli (va_runV (As := [.int (iI 1)]) (rest := [.int (iI z2)]) ⟨hx, hb, hml, hown, hts⟩ (cR_steady l D dA b M 1 _ h) (cwV 1 hts (z_gV k1160 k1161 k1404 k14 k1162) rfl rfl rfl dm_X12_steady ⟨Nat.le_of_ble_eq_true rfl, Nat.le_of_ble_eq_true rfl⟩) ⟨wPre_blind, (w_recv hS hK.1 (by decide) (zkd_of (rfl : zcd wR 0 = 50) rfl) (by decide) (rfl : vwCl[12]? = some (RX12, TX12, 50))), w_pre hS hK⟩ rfl rfl hl.1 rfl (lv_room (Nat.le_of_ble_eq_true rfl)) dX12_steadyAll_7 ⟨Nat.le_refl _, Nat.le_refl _⟩) hS0 (fun z6 M5 H locs r7 h hS hS0 => ?_)
  obtain ⟨e8, h⟩ := h
  rw [e8] at hS
  refine w_mmax hx hb (hml.trans hl.1.symm) hown (hts _ (z_mem k1192)) (hts _ (z_mem k341)) (hts _ (z_mem k15)) (hts _ (z_mem k342)) (by exact Nat.le_of_ble_eq_true rfl) (by exact Nat.le_of_ble_eq_true rfl) (by exact Nat.le_refl _) (by exact Nat.le_refl _) (sI_of r3) (sI_of r7) dX12_steadyAll_10 ?_
  exact w_iret hx hb hr hlocks hS hS0 (sI_of (R_max (sI_c (x := z2) (sI_of r3)) (sI_c (x := z6) (sI_of r7)))) ⟨rfl, h⟩ dX12_steadyAll_13

set_option maxRecDepth 100000 in
def wR_findHeard (a0 : Int) (M : zM) (Q : zM → Prop) : Prop := wL1 (fun K2 x1 M2 => ((sI (M2 0 10)) ≤ (sI x1) → Q M2) ∧ ((sI x1) < (sI (M2 0 10)) → wL1 (fun K13 x11 M12 => wR_round x1 M12 (fun z21 => (z21 ≤ (sI x11) → K2 (x1 + 1) M12) ∧ ((sI x11) < z21 → wR_heardOf x1 (a0 + (sI x11)) M12 (fun z28 => ((0 ≤ (sI x1) ∧ (sI x1) < 4) ∧ ((0 ≤ (sI x1) ∧ (sI x1) < 4) ∧ ((andI z28 (M12 8 (sI x1).toNat)) ≠ (sI (M12 8 (sI x1).toNat)) → ((0 ≤ (sI ((24 * x1) + x11)) ∧ (sI ((24 * x1) + x11)) < 96) ∧ (∀ M35 : zM, M35 = zup M12 27 (sI ((24 * x1) + x11)).toNat 0 → K13 (x11 + 1) M35))) ∧ ((andI z28 (M12 8 (sI x1).toNat)) = (sI (M12 8 (sI x1).toNat)) → ((0 ≤ (sI ((24 * x1) + x11)) ∧ (sI ((24 * x1) + x11)) < 96) ∧ (∀ M40 : zM, M40 = zup M12 27 (sI ((24 * x1) + x11)).toNat 1 → K13 (x11 + 1) M40))))))))) 0 M2)) 0 M
set_option maxHeartbeats 4000000 in
set_option maxRecDepth 100000 in
theorem cR_findHeard (l : Launch) (D : va_G) (dA : Nat → ClassId) (b : Nat) (M : zM) (a0 : Int)  (Q : zM → Prop) (h : wR_findHeard a0 M Q) : Met l yX12_findHeard (.code yX12_findHeard cX12_findHeard 5 none :: zt) (z_rm 50) (va_Pc [.ref (b + 0), .long (iL a0)] (wPre D dA vwCl (z_tys dA) wR nR b M)) (va_Qv (wQv Q) (zB D dA vwCl wR nR b) (zA nR b)) 0 0 (zA nR b) := by
  unfold wR_findHeard at h
  refine Met.ofW (cc := cX12_findHeard) (maxL := 5) (ret := none) (by decide) rfl ?_
  intro p e s m args below meth c s₁ B hml hv
  obtain ⟨hargs, hS, hK⟩ := hv
  have hx := B.exec
  have hb := B.bytes
  have hr := B.returns
  have hts := atoms_spec (ws := .code yX12_findHeard cX12_findHeard 5 none :: zt) B.pre
  have hown : s.vm.findClass RX12 = some m.cls := findClass_of_methodNamed B.named
  have hlocks := B.notSynchronized
  have hS0 : va_S (zA nR b) s.heap s.heap [] := va_S.rf
  have hl := lv_entry ([.ref (b + 0), .long (iL a0)]) (n := 5) (Nat.le_of_ble_eq_true rfl)
  have hent : entryFrame m args 5 = F0 m 0 ((lg_sl ([.ref (b + 0), .long (iL a0)]) ++ List.replicate (5 - (lg_sl ([.ref (b + 0), .long (iL a0)])).length) Slot.unset).toArray) [] := by rw [hargs]; exact lg_entry_eq m ([.ref (b + 0), .long (iL a0)]) 5
  rw [hent]
  generalize (lg_sl ([.ref (b + 0), .long (iL a0)]) ++ List.replicate (5 - (lg_sl ([.ref (b + 0), .long (iL a0)])).length) Slot.unset).toArray = ls at hl ⊢
  have hl : lv_has ls 5 [(0, .ref (b + 0)), (1, .long (iL a0))] := hl
  refine z_iconst hx hb dX12_findHeard_0 ?_
  refine lv_istore_n (lv' := [(3, .int (iI 0)), (0, .ref (b + 0)), (1, .long (iL a0))]) hx hb dX12_findHeard_1 rfl hl (by decide) rfl (fun ls hl => ?_)
  obtain ⟨I3, ⟨n4, h5⟩, h6⟩ := h
  have L7 : ∀ (n8 : Nat) (x1 : Int) (M2 : zM) (H : Heap) (locs : List Loc) (ls : Array Slot), I3 n8 x1 M2 → zR D dA vwCl wR nR b M2 H → va_S (zA nR b) s.heap H locs → lv_has ls 5 [(0, .ref (b + 0)), (1, .long (iL a0)), (3, .int (iI x1))] → W p l e (headSpec (.code yX12_findHeard cX12_findHeard 5 none :: zt) (z_rm 50)).room s m args below meth c H locs 0 0 (MQ below (va_Qv (wQv Q) (zB D dA vwCl wR nR b) (zA nR b)) args s 0 0 (zA nR b)) (F0 m 2 ls []) := by
    intro n8
    induction n8 using Nat.strongRecOn with
    | ind n8 i9 =>
      intro x1 M2 H locs ls h hS hS0 hl
      have h := h6 n8 x1 M2 h
      refine lv_iload_n hx hb dX12_findHeard_2 rfl (lv_at hl 2 rfl) ?_
      refine lv_aload_n hx hb dX12_findHeard_3 rfl (lv_at hl 0 rfl) ?_
      refine w_geti hx hb hts (z_memU u12) hown hK.1 hS f12_10 (by decide) (zkd_of (rfl : zcd wR 0 = 50) rfl) (Or.inl (hts _ (z_mem k954))) dX12_findHeard_4 ?_
      refine w_icmp_ge (tgt := 78) hx hb rfl rfl dX12_findHeard_7 (by decide) (fun c10 => ?_) (fun c10 => ?_)
      · skip
        have h := h.1 c10
        exact w_vret hx hb hr hlocks hS hS0 h dX12_findHeard_78
      · skip
        have h := h.2 c10
        refine z_iconst hx hb dX12_findHeard_10 ?_
        refine lv_istore (lv' := [(4, .int (iI 0)), (0, .ref (b + 0)), (1, .long (iL a0)), (3, .int (iI x1))]) hx hb dX12_findHeard_11 hl (by decide) rfl (fun ls hl => ?_)
        obtain ⟨I13, ⟨n14, h15⟩, h16⟩ := h
        have L17 : ∀ (n18 : Nat) (x11 : Int) (M12 : zM) (H : Heap) (locs : List Loc) (ls : Array Slot), I13 n18 x11 M12 → zR D dA vwCl wR nR b M12 H → va_S (zA nR b) s.heap H locs → lv_has ls 5 [(0, .ref (b + 0)), (1, .long (iL a0)), (3, .int (iI x1)), (4, .int (iI x11))] → W p l e (headSpec (.code yX12_findHeard cX12_findHeard 5 none :: zt) (z_rm 50)).room s m args below meth c H locs 0 0 (MQ below (va_Qv (wQv Q) (zB D dA vwCl wR nR b) (zA nR b)) args s 0 0 (zA nR b)) (F0 m 13 ls []) := by
          intro n18
          induction n18 using Nat.strongRecOn with
          | ind n18 i19 =>
            intro x11 M12 H locs ls h hS hS0 hl
            have h := h16 n18 x11 M12 h
            refine lv_iload hx hb dX12_findHeard_13 (lv_at hl 3 rfl) ?_
            refine lv_aload_n hx hb dX12_findHeard_15 rfl (lv_at hl 0 rfl) ?_
            refine lv_iload_n hx hb dX12_findHeard_16 rfl (lv_at hl 2 rfl) ?_
            refine w_calli (va_runV (As := [.int (iI x1)]) (rest := [.int (iI x11)]) ⟨hx, hb, hml, hown, hts⟩ (cR_round l D dA b M12 x1 _ h) (cwV 1 hts (z_gV k1125 k1126 k1398 k14 k1127) rfl rfl rfl dm_X12_round ⟨Nat.le_of_ble_eq_true rfl, Nat.le_of_ble_eq_true rfl⟩) ⟨wPre_blind, (w_recv hS hK.1 (by decide) (zkd_of (rfl : zcd wR 0 = 50) rfl) (by decide) (rfl : vwCl[12]? = some (RX12, TX12, 50))), w_pre hS hK⟩ rfl rfl hl.1 rfl (lv_room (Nat.le_of_ble_eq_true rfl)) dX12_findHeard_17 ⟨Nat.le_refl _, Nat.le_refl _⟩) hS0 (fun z21 M20 H locs r22 h hS hS0 => ?_)
            obtain ⟨e23, h⟩ := h
            rw [e23] at hS
            refine w_icmp_ge (tgt := 72) hx hb rfl (sI_of r22) dX12_findHeard_20 (by decide) (fun c24 => ?_) (fun c24 => ?_)
            · skip
              have h := h.1 c24
              refine z_iinc (lv' := [(3, .int (iI (x1 + 1))), (0, .ref (b + 0)), (1, .long (iL a0)), (4, .int (iI x11))]) hx hb dX12_findHeard_72 hl (k := 2) rfl (by decide) rfl (fun ls hl => ?_)
              refine lv_goto (tgt := 2) hx hb dX12_findHeard_75 (by decide) ?_
              obtain ⟨n25, h26, h⟩ := h
              exact i9 n25 h26 (x1 + 1) M12 _ _ _ h hS hS0 (lv_sub hl [1, 2, 0] rfl)
            · skip
              have h := h.2 c24
              refine lv_aload_n hx hb dX12_findHeard_23 rfl (lv_at hl 0 rfl) ?_
              refine w_getr (j2 := 27) hx hb hts (z_memU u12) hown hK.1 hS f12_42 (by decide) (zkd_of (rfl : zcd wR 0 = 50) rfl) (zrf_of (rfl : zcd wR 0 = 50) rfl) (Or.inl (hts _ (z_mem k986))) dX12_findHeard_24 ?_
              refine z_bipush hx hb (by decide) dX12_findHeard_27 ?_
              refine lv_iload_n hx hb dX12_findHeard_29 rfl (lv_at hl 2 rfl) ?_
              refine z_imul hx hb dX12_findHeard_30 ?_
              refine lv_iload hx hb dX12_findHeard_31 (lv_at hl 3 rfl) ?_
              refine z_iadd hx hb dX12_findHeard_33 ?_
              refine lv_aload_n hx hb dX12_findHeard_34 rfl (lv_at hl 0 rfl) ?_
              refine lv_iload_n hx hb dX12_findHeard_35 rfl (lv_at hl 2 rfl) ?_
              refine lv_lload_n hx hb dX12_findHeard_36 rfl (lv_at hl 1 rfl) ?_
              refine lv_iload hx hb dX12_findHeard_37 (lv_at hl 3 rfl) ?_
              refine w_i2l hx hb rfl dX12_findHeard_39 ?_
              refine z_ladd hx hb dX12_findHeard_40 ?_
              refine w_calli (va_runV (As := [.int (iI x1), .long (iL (a0 + (sI x11)))]) (rest := [.int (iI ((24 * x1) + x11)), .ref (b + 27)]) ⟨hx, hb, hml, hown, hts⟩ (cR_heardOf l D dA b M12 x1 (a0 + (sI x11)) _ h) (cwV 2 hts (z_gV k1154 k1155 k1402 k14 k1156) rfl rfl rfl dm_X12_heardOf ⟨Nat.le_of_ble_eq_true rfl, Nat.le_of_ble_eq_true rfl⟩) ⟨wPre_blind, (w_recv hS hK.1 (by decide) (zkd_of (rfl : zcd wR 0 = 50) rfl) (by decide) (rfl : vwCl[12]? = some (RX12, TX12, 50))), w_pre hS hK⟩ rfl rfl hl.1 rfl (lv_room (Nat.le_of_ble_eq_true rfl)) dX12_findHeard_41 ⟨Nat.le_refl _, Nat.le_refl _⟩) hS0 (fun z28 M27 H locs r29 h hS hS0 => ?_)
              obtain ⟨e30, h⟩ := h
              rw [e30] at hS
              refine lv_aload_n hx hb dX12_findHeard_44 rfl (lv_at hl 0 rfl) ?_
              refine w_getr (j2 := 8) hx hb hts (z_memU u12) hown hK.1 hS f12_9 (by decide) (zkd_of (rfl : zcd wR 0 = 50) rfl) (zrf_of (rfl : zcd wR 0 = 50) rfl) (Or.inl (hts _ (z_mem k953))) dX12_findHeard_45 ?_
              refine lv_iload_n hx hb dX12_findHeard_48 rfl (lv_at hl 2 rfl) ?_
              obtain ⟨o31, h⟩ := h
              refine w_iald (n := 4) (i := (sI x1)) hx hb hK.1 (t0 := 0) rfl hS (by decide) (zkd_of (rfl : zcd wR 8 = 58) rfl) (zln_of (rfl : zcd wR 8 = 58) rfl) rfl o31.1 o31.2 (by decide) dX12_findHeard_49 ?_
              refine w_iand hx hb dX12_findHeard_50 ?_
              refine lv_aload_n hx hb dX12_findHeard_51 rfl (lv_at hl 0 rfl) ?_
              refine w_getr (j2 := 8) hx hb hts (z_memU u12) hown hK.1 hS f12_9 (by decide) (zkd_of (rfl : zcd wR 0 = 50) rfl) (zrf_of (rfl : zcd wR 0 = 50) rfl) (Or.inl (hts _ (z_mem k953))) dX12_findHeard_52 ?_
              refine lv_iload_n hx hb dX12_findHeard_55 rfl (lv_at hl 2 rfl) ?_
              obtain ⟨o32, h⟩ := h
              refine w_iald (n := 4) (i := (sI x1)) hx hb hK.1 (t0 := 0) rfl hS (by decide) (zkd_of (rfl : zcd wR 8 = 58) rfl) (zln_of (rfl : zcd wR 8 = 58) rfl) rfl o32.1 o32.2 (by decide) dX12_findHeard_56 ?_
              refine w_icmp_ne (tgt := 64) hx hb (sI_of (andI_R _ _)) rfl dX12_findHeard_57 (by decide) (fun c33 => ?_) (fun c33 => ?_)
              · skip
                have h := h.1 c33
                refine z_iconst hx hb dX12_findHeard_64 ?_
                obtain ⟨o34, h⟩ := h
                refine w_zast (z := 0) (n := 96) (i := (sI ((24 * x1) + x11))) hx hb hK.1 (t0 := 3) rfl hS hS0 (by decide) (zkd_of (rfl : zcd wR 27 = 77) rfl) (zln_of (rfl : zcd wR 27 = 77) rfl) rfl (sI_of (by decide)) o34.1 o34.2 (by decide) (by decide) dX12_findHeard_65 (fun H locs hS hS0 => ?_)
                obtain ⟨M35, e36⟩ : ∃ M35 : zM, M35 = zup M12 27 (sI ((24 * x1) + x11)).toNat 0 := ⟨_, rfl⟩
                rw [← e36] at hS
                have h := h M35 e36
                refine z_iinc (lv' := [(4, .int (iI (x11 + 1))), (0, .ref (b + 0)), (1, .long (iL a0)), (3, .int (iI x1))]) hx hb dX12_findHeard_66 hl (k := 3) rfl (by decide) rfl (fun ls hl => ?_)
                refine lv_goto (tgt := 13) hx hb dX12_findHeard_69 (by decide) ?_
                obtain ⟨n37, h38, h⟩ := h
                exact i19 n37 h38 (x11 + 1) M35 _ _ _ h hS hS0 (lv_sub hl [1, 2, 3, 0] rfl)
              · skip
                have h := h.2 c33
                refine z_iconst hx hb dX12_findHeard_60 ?_
                refine lv_goto (tgt := 65) hx hb dX12_findHeard_61 (by decide) ?_
                obtain ⟨o39, h⟩ := h
                refine w_zast (z := 1) (n := 96) (i := (sI ((24 * x1) + x11))) hx hb hK.1 (t0 := 3) rfl hS hS0 (by decide) (zkd_of (rfl : zcd wR 27 = 77) rfl) (zln_of (rfl : zcd wR 27 = 77) rfl) rfl (sI_of (by decide)) o39.1 o39.2 (by decide) (by decide) dX12_findHeard_65 (fun H locs hS hS0 => ?_)
                obtain ⟨M40, e41⟩ : ∃ M40 : zM, M40 = zup M12 27 (sI ((24 * x1) + x11)).toNat 1 := ⟨_, rfl⟩
                rw [← e41] at hS
                have h := h M40 e41
                refine z_iinc (lv' := [(4, .int (iI (x11 + 1))), (0, .ref (b + 0)), (1, .long (iL a0)), (3, .int (iI x1))]) hx hb dX12_findHeard_66 hl (k := 3) rfl (by decide) rfl (fun ls hl => ?_)
                refine lv_goto (tgt := 13) hx hb dX12_findHeard_69 (by decide) ?_
                obtain ⟨n42, h43, h⟩ := h
                exact i19 n42 h43 (x11 + 1) M40 _ _ _ h hS hS0 (lv_sub hl [1, 2, 3, 0] rfl)
        exact L17 n14 0 M2 _ _ _ h15 hS hS0 (lv_sub hl [1, 2, 3, 0] rfl)
  exact L7 n4 0 M _ _ _ h5 hS hS0 (lv_sub hl [1, 2, 0] rfl)

set_option maxRecDepth 100000 in
def wR_meetsBehind (a0 : Int) (M : zM) (Q : Int → Prop) : Prop := pL1 (fun K2 x1 => ((sI (M 0 10)) ≤ (sI x1) → Q 1) ∧ ((sI x1) < (sI (M 0 10)) → wR_round x1 M (fun z11 => ((z11 ≠ 0) ∧ ((0 ≤ (sI ((24 * x1) + ((sI a0).tmod z11))) ∧ (sI ((24 * x1) + ((sI a0).tmod z11))) < 96) ∧ ((sI (M 27 (sI ((24 * x1) + ((sI a0).tmod z11))).toNat)) ≠ 0 → K2 (x1 + 1)) ∧ ((sI (M 27 (sI ((24 * x1) + ((sI a0).tmod z11))).toNat)) = 0 → Q 0)))))) 0
set_option maxHeartbeats 4000000 in
set_option maxRecDepth 100000 in
theorem cR_meetsBehind (l : Launch) (D : va_G) (dA : Nat → ClassId) (b : Nat) (M : zM) (a0 : Int)  (Q : Int → Prop) (h : wR_meetsBehind a0 M Q) : Met l yX12_meetsBehind (.code yX12_meetsBehind cX12_meetsBehind 3 (some .boolean) :: zt) (z_rm 50) (va_Pc [.ref (b + 0), .int (iI a0)] (wPre D dA vwCl (z_tys dA) wR nR b M)) (va_Qi (wQz (fun z9 u9 => u9 = M ∧ Q z9)) (zB D dA vwCl wR nR b) (zA nR b)) 0 0 (zA nR b) := by
  unfold wR_meetsBehind at h
  refine Met.ofW (cc := cX12_meetsBehind) (maxL := 3) (ret := (some .boolean)) (by decide) rfl ?_
  intro p e s m args below meth c s₁ B hml hv
  obtain ⟨hargs, hS, hK⟩ := hv
  have hx := B.exec
  have hb := B.bytes
  have hr := B.returns
  have hts := atoms_spec (ws := .code yX12_meetsBehind cX12_meetsBehind 3 (some .boolean) :: zt) B.pre
  have hown : s.vm.findClass RX12 = some m.cls := findClass_of_methodNamed B.named
  have hlocks := B.notSynchronized
  have hS0 : va_S (zA nR b) s.heap s.heap [] := va_S.rf
  have hl := lv_entry ([.ref (b + 0), .int (iI a0)]) (n := 3) (Nat.le_of_ble_eq_true rfl)
  have hent : entryFrame m args 3 = F0 m 0 ((lg_sl ([.ref (b + 0), .int (iI a0)]) ++ List.replicate (3 - (lg_sl ([.ref (b + 0), .int (iI a0)])).length) Slot.unset).toArray) [] := by rw [hargs]; exact lg_entry_eq m ([.ref (b + 0), .int (iI a0)]) 3
  rw [hent]
  generalize (lg_sl ([.ref (b + 0), .int (iI a0)]) ++ List.replicate (3 - (lg_sl ([.ref (b + 0), .int (iI a0)])).length) Slot.unset).toArray = ls at hl ⊢
  have hl : lv_has ls 3 [(0, .ref (b + 0)), (1, .int (iI a0))] := hl
  refine z_iconst hx hb dX12_meetsBehind_0 ?_
  refine lv_istore_n (lv' := [(2, .int (iI 0)), (0, .ref (b + 0)), (1, .int (iI a0))]) hx hb dX12_meetsBehind_1 rfl hl (by decide) rfl (fun ls hl => ?_)
  obtain ⟨I2, ⟨n3, h4⟩, h5⟩ := h
  have L6 : ∀ (n7 : Nat) (x1 : Int) (H : Heap) (locs : List Loc) (ls : Array Slot), I2 n7 x1 → zR D dA vwCl wR nR b M H → va_S (zA nR b) s.heap H locs → lv_has ls 3 [(0, .ref (b + 0)), (1, .int (iI a0)), (2, .int (iI x1))] → W p l e (headSpec (.code yX12_meetsBehind cX12_meetsBehind 3 (some .boolean) :: zt) (z_rm 50)).room s m args below meth c H locs 0 0 (MQ below (va_Qi (wQz (fun z9 u9 => u9 = M ∧ Q z9)) (zB D dA vwCl wR nR b) (zA nR b)) args s 0 0 (zA nR b)) (F0 m 2 ls []) := by
    intro n7
    induction n7 using Nat.strongRecOn with
    | ind n7 i8 =>
      intro x1 H locs ls h hS hS0 hl
      have h := h5 n7 x1 h
      refine lv_iload_n hx hb dX12_meetsBehind_2 rfl (lv_at hl 2 rfl) ?_
      refine lv_aload_n hx hb dX12_meetsBehind_3 rfl (lv_at hl 0 rfl) ?_
      refine w_geti hx hb hts (z_memU u12) hown hK.1 hS f12_10 (by decide) (zkd_of (rfl : zcd wR 0 = 50) rfl) (Or.inl (hts _ (z_mem k954))) dX12_meetsBehind_4 ?_
      refine w_icmp_ge (tgt := 38) hx hb rfl rfl dX12_meetsBehind_7 (by decide) (fun c9 => ?_) (fun c9 => ?_)
      · skip
        have h := h.1 c9
        refine z_iconst hx hb dX12_meetsBehind_38 ?_
        exact w_zret hx hb hr hlocks hS hS0 (sI_of (by decide)) (by decide) ⟨rfl, h⟩ dX12_meetsBehind_39
      · skip
        have h := h.2 c9
        refine lv_aload_n hx hb dX12_meetsBehind_10 rfl (lv_at hl 0 rfl) ?_
        refine w_getr (j2 := 27) hx hb hts (z_memU u12) hown hK.1 hS f12_42 (by decide) (zkd_of (rfl : zcd wR 0 = 50) rfl) (zrf_of (rfl : zcd wR 0 = 50) rfl) (Or.inl (hts _ (z_mem k986))) dX12_meetsBehind_11 ?_
        refine z_bipush hx hb (by decide) dX12_meetsBehind_14 ?_
        refine lv_iload_n hx hb dX12_meetsBehind_16 rfl (lv_at hl 2 rfl) ?_
        refine z_imul hx hb dX12_meetsBehind_17 ?_
        refine lv_iload_n hx hb dX12_meetsBehind_18 rfl (lv_at hl 1 rfl) ?_
        refine lv_aload_n hx hb dX12_meetsBehind_19 rfl (lv_at hl 0 rfl) ?_
        refine lv_iload_n hx hb dX12_meetsBehind_20 rfl (lv_at hl 2 rfl) ?_
        refine w_calli (va_runV (As := [.int (iI x1)]) (rest := [.int (iI a0), .int (iI (24 * x1)), .ref (b + 27)]) ⟨hx, hb, hml, hown, hts⟩ (cR_round l D dA b M x1 _ h) (cwV 1 hts (z_gV k1125 k1126 k1398 k14 k1127) rfl rfl rfl dm_X12_round ⟨Nat.le_of_ble_eq_true rfl, Nat.le_of_ble_eq_true rfl⟩) ⟨wPre_blind, (w_recv hS hK.1 (by decide) (zkd_of (rfl : zcd wR 0 = 50) rfl) (by decide) (rfl : vwCl[12]? = some (RX12, TX12, 50))), w_pre hS hK⟩ rfl rfl hl.1 rfl (lv_room (Nat.le_of_ble_eq_true rfl)) dX12_meetsBehind_21 ⟨Nat.le_refl _, Nat.le_refl _⟩) hS0 (fun z11 M10 H locs r12 h hS hS0 => ?_)
        obtain ⟨e13, h⟩ := h
        rw [e13] at hS
        obtain ⟨o14, h⟩ := h
        refine w_irem hx hb rfl (sI_of r12) o14 dX12_meetsBehind_24 ?_
        refine z_iadd hx hb dX12_meetsBehind_25 ?_
        obtain ⟨o15, h⟩ := h
        refine w_zald (n := 96) (i := (sI ((24 * x1) + ((sI a0).tmod z11)))) hx hb hK.1 (t0 := 3) rfl hS (by decide) (zkd_of (rfl : zcd wR 27 = 77) rfl) (zln_of (rfl : zcd wR 27 = 77) rfl) rfl o15.1 o15.2 (by decide) dX12_meetsBehind_26 ?_
        refine w_if_ne (tgt := 32) hx hb rfl dX12_meetsBehind_27 (by decide) (fun c16 => ?_) (fun c16 => ?_)
        · skip
          have h := h.1 c16
          refine z_iinc (lv' := [(2, .int (iI (x1 + 1))), (0, .ref (b + 0)), (1, .int (iI a0))]) hx hb dX12_meetsBehind_32 hl (k := 2) rfl (by decide) rfl (fun ls hl => ?_)
          refine lv_goto (tgt := 2) hx hb dX12_meetsBehind_35 (by decide) ?_
          obtain ⟨n17, h18, h⟩ := h
          exact i8 n17 h18 (x1 + 1) _ _ _ h hS hS0 (lv_sub hl [1, 2, 0] rfl)
        · skip
          have h := h.2 c16
          refine z_iconst hx hb dX12_meetsBehind_30 ?_
          exact w_zret hx hb hr hlocks hS hS0 (sI_of (by decide)) (by decide) ⟨rfl, h⟩ dX12_meetsBehind_31
  exact L6 n3 0 _ _ _ h4 hS hS0 (lv_sub hl [1, 2, 0] rfl)

set_option maxRecDepth 100000 in
def wR_meets (a0 : Int) (M : zM) (Q : Int → zM → Prop) : Prop := (∀ M1 : zM, M1 = zup M 0 35 0 → ((sL a0) < 0 → Q (-1) M1) ∧ (0 ≤ (sL a0) → ((sL a0) ≤ 1152921504606846976 → pL1 (fun K25 x5 => wR_steadyAll  M1 (fun z14 => (z14 ≤ (sL x5) → wR_findHeard x5 M1 (fun M18 => wR_allRounds  M18 (fun z20 => pL1 (fun K67 x23 => ((sI z20) ≤ (sI x23) → Q (-1) M18) ∧ ((sI x23) < (sI z20) → wR_meetsBehind x23 M18 (fun z33 => (z33 = 0 → K67 (x23 + 1)) ∧ (z33 ≠ 0 → Q (sL (x5 + (sI x23))) M18)))) 0))) ∧ ((sL x5) < z14 → wR_meetsAt x5 M1 (fun z40 => (z40 = 0 → K25 (x5 + 1)) ∧ (z40 ≠ 0 → Q (sL x5) M1))))) a0) ∧ (1152921504606846976 < (sL a0) → Q (-1) M1)))
set_option maxHeartbeats 4000000 in
set_option maxRecDepth 100000 in
theorem cR_meets (l : Launch) (D : va_G) (dA : Nat → ClassId) (b : Nat) (M : zM) (a0 : Int)  (Q : Int → zM → Prop) (h : wR_meets a0 M Q) : Met l yX12_meets (.code yX12_meets cX12_meets 7 (some .long) :: zt) (z_rm 51) (va_Pc [.ref (b + 0), .long (iL a0)] (wPre D dA vwCl (z_tys dA) wR nR b M)) (va_Ql (wQl Q) (zB D dA vwCl wR nR b) (zA nR b)) 0 0 (zA nR b) := by
  unfold wR_meets at h
  refine Met.ofW (cc := cX12_meets) (maxL := 7) (ret := (some .long)) (by decide) rfl ?_
  intro p e s m args below meth c s₁ B hml hv
  obtain ⟨hargs, hS, hK⟩ := hv
  have hx := B.exec
  have hb := B.bytes
  have hr := B.returns
  have hts := atoms_spec (ws := .code yX12_meets cX12_meets 7 (some .long) :: zt) B.pre
  have hown : s.vm.findClass RX12 = some m.cls := findClass_of_methodNamed B.named
  have hlocks := B.notSynchronized
  have hS0 : va_S (zA nR b) s.heap s.heap [] := va_S.rf
  have hl := lv_entry ([.ref (b + 0), .long (iL a0)]) (n := 7) (Nat.le_of_ble_eq_true rfl)
  have hent : entryFrame m args 7 = F0 m 0 ((lg_sl ([.ref (b + 0), .long (iL a0)]) ++ List.replicate (7 - (lg_sl ([.ref (b + 0), .long (iL a0)])).length) Slot.unset).toArray) [] := by rw [hargs]; exact lg_entry_eq m ([.ref (b + 0), .long (iL a0)]) 7
  rw [hent]
  generalize (lg_sl ([.ref (b + 0), .long (iL a0)]) ++ List.replicate (7 - (lg_sl ([.ref (b + 0), .long (iL a0)])).length) Slot.unset).toArray = ls at hl ⊢
  have hl : lv_has ls 7 [(0, .ref (b + 0)), (1, .long (iL a0))] := hl
  refine lv_aload_n hx hb dX12_meets_0 rfl (lv_at hl 0 rfl) ?_
  refine z_iconst hx hb dX12_meets_1 ?_
  refine w_puti hx hb hts (z_memU u12) tyX12 tyX12_ok nmX12 hown hK.1 hS hS0 f12_35 (by decide) (zkd_of (rfl : zcd wR 0 = 50) rfl) (Or.inl (hts _ (z_mem k979))) rfl (z := 0) (by decide +kernel) dX12_meets_2 (fun H locs hS hS0 => ?_)
  obtain ⟨M1, e2⟩ : ∃ M1 : zM, M1 = zup M 0 35 0 := ⟨_, rfl⟩
  rw [← e2] at hS
  have h := h M1 e2
  refine lv_lload_n hx hb dX12_meets_5 rfl (lv_at hl 1 rfl) ?_
  refine z_lconst0 hx hb dX12_meets_6 ?_
  refine w_lcmp_lt hx hb rfl (sL_of (by decide)) dX12_meets_7 dX12_meets_8 (tgt := 19) (by decide) (fun c3 => ?_) (fun c3 => ?_)
  · skip
    have h := h.1 c3
    refine z_ldc2 (n := -1) hx hb hown (hts _ (z_mem k1188)) (by decide) dX12_meets_19 ?_
    exact w_lret hx hb hr hlocks hS hS0 (sL_of (by decide)) h dX12_meets_22
  · skip
    have h := h.2 c3
    refine lv_lload_n hx hb dX12_meets_11 rfl (lv_at hl 1 rfl) ?_
    refine z_ldc2 (n := 1152921504606846976) hx hb hown (hts _ (z_mem k1187)) (by decide) dX12_meets_12 ?_
    refine w_lcmp_le hx hb rfl (sL_of (by decide)) dX12_meets_15 dX12_meets_16 (tgt := 23) (by decide) (fun c4 => ?_) (fun c4 => ?_)
    · skip
      have h := h.1 c4
      refine lv_lload_n hx hb dX12_meets_23 rfl (lv_at hl 1 rfl) ?_
      refine lv_lstore_n (lv' := [(3, .long (iL a0)), (0, .ref (b + 0)), (1, .long (iL a0))]) hx hb dX12_meets_24 rfl hl (by decide) rfl (fun ls hl => ?_)
      obtain ⟨I6, ⟨n7, h8⟩, h9⟩ := h
      have L10 : ∀ (n11 : Nat) (x5 : Int) (H : Heap) (locs : List Loc) (ls : Array Slot), I6 n11 x5 → zR D dA vwCl wR nR b M1 H → va_S (zA nR b) s.heap H locs → lv_has ls 7 [(0, .ref (b + 0)), (3, .long (iL x5))] → W p l e (headSpec (.code yX12_meets cX12_meets 7 (some .long) :: zt) (z_rm 51)).room s m args below meth c H locs 0 0 (MQ below (va_Ql (wQl Q) (zB D dA vwCl wR nR b) (zA nR b)) args s 0 0 (zA nR b)) (F0 m 25 ls []) := by
        intro n11
        induction n11 using Nat.strongRecOn with
        | ind n11 i12 =>
          intro x5 H locs ls h hS hS0 hl
          have h := h9 n11 x5 h
          refine lv_lload_n hx hb dX12_meets_25 rfl (lv_at hl 1 rfl) ?_
          refine lv_aload_n hx hb dX12_meets_26 rfl (lv_at hl 0 rfl) ?_
          refine w_calli (va_runV (As := []) (rest := [.long (iL x5)]) ⟨hx, hb, hml, hown, hts⟩ (cR_steadyAll l D dA b M1  _ h) (cwV 0 hts (z_gV k1189 k1190 k1407 k14 k1191) rfl rfl rfl dm_X12_steadyAll ⟨Nat.le_of_ble_eq_true rfl, Nat.le_of_ble_eq_true rfl⟩) ⟨wPre_blind, (w_recv hS hK.1 (by decide) (zkd_of (rfl : zcd wR 0 = 50) rfl) (by decide) (rfl : vwCl[12]? = some (RX12, TX12, 50))), w_pre hS hK⟩ rfl rfl hl.1 rfl (lv_room (Nat.le_of_ble_eq_true rfl)) dX12_meets_27 ⟨Nat.le_refl _, Nat.le_refl _⟩) hS0 (fun z14 M13 H locs r15 h hS hS0 => ?_)
          obtain ⟨e16, h⟩ := h
          rw [e16] at hS
          refine w_i2l hx hb (sI_of r15) dX12_meets_30 ?_
          refine w_lcmp_ge hx hb rfl (sL_ofI (sI_of r15)) dX12_meets_31 dX12_meets_32 (tgt := 52) (by decide) (fun c17 => ?_) (fun c17 => ?_)
          · skip
            have h := h.1 c17
            refine lv_aload_n hx hb dX12_meets_52 rfl (lv_at hl 0 rfl) ?_
            refine lv_lload_n hx hb dX12_meets_53 rfl (lv_at hl 1 rfl) ?_
            refine w_callv (va_runV (As := [.long (iL x5)]) (rest := []) ⟨hx, hb, hml, hown, hts⟩ (cR_findHeard l D dA b M1 x5 _ h) (cwV 1 hts (z_gV k1196 k1197 k1409 k14 k1198) rfl rfl rfl dm_X12_findHeard ⟨Nat.le_of_ble_eq_true rfl, Nat.le_of_ble_eq_true rfl⟩) ⟨wPre_blind, (w_recv hS hK.1 (by decide) (zkd_of (rfl : zcd wR 0 = 50) rfl) (by decide) (rfl : vwCl[12]? = some (RX12, TX12, 50))), w_pre hS hK⟩ rfl rfl hl.1 rfl (lv_room (Nat.le_of_ble_eq_true rfl)) dX12_meets_54 ⟨Nat.le_refl _, Nat.le_refl _⟩) hS0 (fun M18 H locs h hS hS0 => ?_)
            refine lv_aload_n hx hb dX12_meets_57 rfl (lv_at hl 0 rfl) ?_
            refine w_calll (va_runV (As := []) (rest := []) ⟨hx, hb, hml, hown, hts⟩ (cR_allRounds l D dA b M18  _ h) (cwV 0 hts (z_gV k1173 k1174 k1406 k14 k1175) rfl rfl rfl dm_X12_allRounds ⟨Nat.le_of_ble_eq_true rfl, Nat.le_of_ble_eq_true rfl⟩) ⟨wPre_blind, (w_recv hS hK.1 (by decide) (zkd_of (rfl : zcd wR 0 = 50) rfl) (by decide) (rfl : vwCl[12]? = some (RX12, TX12, 50))), w_pre hS hK⟩ rfl rfl hl.1 rfl (lv_room (Nat.le_of_ble_eq_true rfl)) dX12_meets_58 ⟨Nat.le_refl _, Nat.le_refl _⟩) hS0 (fun z20 M19 H locs r21 h hS hS0 => ?_)
            obtain ⟨e22, h⟩ := h
            rw [e22] at hS
            refine z_l2i hx hb dX12_meets_61 ?_
            refine lv_istore (lv' := [(5, .int (iI z20)), (0, .ref (b + 0)), (3, .long (iL x5))]) hx hb dX12_meets_62 hl (by decide) rfl (fun ls hl => ?_)
            refine z_iconst hx hb dX12_meets_64 ?_
            refine lv_istore (lv' := [(6, .int (iI 0)), (5, .int (iI z20)), (0, .ref (b + 0)), (3, .long (iL x5))]) hx hb dX12_meets_65 hl (by decide) rfl (fun ls hl => ?_)
            obtain ⟨I24, ⟨n25, h26⟩, h27⟩ := h
            have L28 : ∀ (n29 : Nat) (x23 : Int) (H : Heap) (locs : List Loc) (ls : Array Slot), I24 n29 x23 → zR D dA vwCl wR nR b M18 H → va_S (zA nR b) s.heap H locs → lv_has ls 7 [(0, .ref (b + 0)), (3, .long (iL x5)), (5, .int (iI z20)), (6, .int (iI x23))] → W p l e (headSpec (.code yX12_meets cX12_meets 7 (some .long) :: zt) (z_rm 51)).room s m args below meth c H locs 0 0 (MQ below (va_Ql (wQl Q) (zB D dA vwCl wR nR b) (zA nR b)) args s 0 0 (zA nR b)) (F0 m 67 ls []) := by
              intro n29
              induction n29 using Nat.strongRecOn with
              | ind n29 i30 =>
                intro x23 H locs ls h hS hS0 hl
                have h := h27 n29 x23 h
                refine lv_iload hx hb dX12_meets_67 (lv_at hl 3 rfl) ?_
                refine lv_iload hx hb dX12_meets_69 (lv_at hl 2 rfl) ?_
                refine w_icmp_ge (tgt := 95) hx hb rfl rfl dX12_meets_71 (by decide) (fun c31 => ?_) (fun c31 => ?_)
                · skip
                  have h := h.1 c31
                  refine z_ldc2 (n := -1) hx hb hown (hts _ (z_mem k1188)) (by decide) dX12_meets_95 ?_
                  exact w_lret hx hb hr hlocks hS hS0 (sL_of (by decide)) h dX12_meets_98
                · skip
                  have h := h.2 c31
                  refine lv_aload_n hx hb dX12_meets_74 rfl (lv_at hl 0 rfl) ?_
                  refine lv_iload hx hb dX12_meets_75 (lv_at hl 3 rfl) ?_
                  refine w_callz (va_runV (As := [.int (iI x23)]) (rest := []) ⟨hx, hb, hml, hown, hts⟩ (cR_meetsBehind l D dA b M18 x23 _ h) (cwV 1 hts (z_gV k1199 k1200 k1410 k14 k1201) rfl rfl rfl dm_X12_meetsBehind ⟨Nat.le_of_ble_eq_true rfl, Nat.le_of_ble_eq_true rfl⟩) ⟨wPre_blind, (w_recv hS hK.1 (by decide) (zkd_of (rfl : zcd wR 0 = 50) rfl) (by decide) (rfl : vwCl[12]? = some (RX12, TX12, 50))), w_pre hS hK⟩ rfl rfl hl.1 rfl (lv_room (Nat.le_of_ble_eq_true rfl)) dX12_meets_77 ⟨Nat.le_refl _, Nat.le_refl _⟩) hS0 (fun z33 M32 H locs r34 h hS hS0 => ?_)
                  obtain ⟨e35, h⟩ := h
                  rw [e35] at hS
                  refine w_if_eq (tgt := 89) hx hb (sI_01 r34) dX12_meets_80 (by decide) (fun c36 => ?_) (fun c36 => ?_)
                  · skip
                    have h := h.1 c36
                    refine z_iinc (lv' := [(6, .int (iI (x23 + 1))), (0, .ref (b + 0)), (3, .long (iL x5)), (5, .int (iI z20))]) hx hb dX12_meets_89 hl (k := 3) rfl (by decide) rfl (fun ls hl => ?_)
                    refine lv_goto (tgt := 67) hx hb dX12_meets_92 (by decide) ?_
                    obtain ⟨n37, h38, h⟩ := h
                    exact i30 n37 h38 (x23 + 1) _ _ _ h hS hS0 (lv_sub hl [1, 2, 3, 0] rfl)
                  · skip
                    have h := h.2 c36
                    refine lv_lload_n hx hb dX12_meets_83 rfl (lv_at hl 1 rfl) ?_
                    refine lv_iload hx hb dX12_meets_84 (lv_at hl 3 rfl) ?_
                    refine w_i2l hx hb rfl dX12_meets_86 ?_
                    refine z_ladd hx hb dX12_meets_87 ?_
                    exact w_lret hx hb hr hlocks hS hS0 rfl h dX12_meets_88
            exact L28 n25 0 _ _ _ h26 hS hS0 (lv_sub hl [2, 3, 1, 0] rfl)
          · skip
            have h := h.2 c17
            refine lv_aload_n hx hb dX12_meets_35 rfl (lv_at hl 0 rfl) ?_
            refine lv_lload_n hx hb dX12_meets_36 rfl (lv_at hl 1 rfl) ?_
            refine w_callz (va_runV (As := [.long (iL x5)]) (rest := []) ⟨hx, hb, hml, hown, hts⟩ (cR_meetsAt l D dA b M1 x5 _ h) (cwV 1 hts (z_gV k1193 k1194 k1408 k14 k1195) rfl rfl rfl dm_X12_meetsAt ⟨Nat.le_of_ble_eq_true rfl, Nat.le_of_ble_eq_true rfl⟩) ⟨wPre_blind, (w_recv hS hK.1 (by decide) (zkd_of (rfl : zcd wR 0 = 50) rfl) (by decide) (rfl : vwCl[12]? = some (RX12, TX12, 50))), w_pre hS hK⟩ rfl rfl hl.1 rfl (lv_room (Nat.le_of_ble_eq_true rfl)) dX12_meets_37 ⟨Nat.le_refl _, Nat.le_refl _⟩) hS0 (fun z40 M39 H locs r41 h hS hS0 => ?_)
            obtain ⟨e42, h⟩ := h
            rw [e42] at hS
            refine w_if_eq (tgt := 45) hx hb (sI_01 r41) dX12_meets_40 (by decide) (fun c43 => ?_) (fun c43 => ?_)
            · skip
              have h := h.1 c43
              refine lv_lload_n hx hb dX12_meets_45 rfl (lv_at hl 1 rfl) ?_
              refine z_lconst1 hx hb dX12_meets_46 ?_
              refine z_ladd hx hb dX12_meets_47 ?_
              refine lv_lstore_n (lv' := [(3, .long (iL (x5 + 1))), (0, .ref (b + 0))]) hx hb dX12_meets_48 rfl hl (by decide) rfl (fun ls hl => ?_)
              refine lv_goto (tgt := 25) hx hb dX12_meets_49 (by decide) ?_
              obtain ⟨n44, h45, h⟩ := h
              exact i12 n44 h45 (x5 + 1) _ _ _ h hS hS0 (lv_sub hl [1, 0] rfl)
            · skip
              have h := h.2 c43
              refine lv_lload_n hx hb dX12_meets_43 rfl (lv_at hl 1 rfl) ?_
              exact w_lret hx hb hr hlocks hS hS0 rfl h dX12_meets_44
      exact L10 n7 a0 _ _ _ h8 hS hS0 (lv_sub hl [1, 0] rfl)
    · skip
      have h := h.2 c4
      refine z_ldc2 (n := -1) hx hb hown (hts _ (z_mem k1188)) (by decide) dX12_meets_19 ?_
      exact w_lret hx hb hr hlocks hS hS0 (sL_of (by decide)) h dX12_meets_22

set_option maxRecDepth 100000 in
def wR_often  (M : zM) (Q : Int → zM → Prop) : Prop := (∀ M1 : zM, M1 = zup M 0 35 0 → wR_steadyAll  M1 (fun z4 => wR_findHeard z4 M1 (fun M7 => wR_allRounds  M7 (fun z9 => pL2 (fun K25 x12 x13 => ((sI z9) ≤ (sI x13) → Q (sL x12) M7) ∧ ((sI x13) < (sI z9) → wR_meetsBehind x13 M7 (fun z23 => (z23 = 0 → K25 x12 (x13 + 1)) ∧ (z23 ≠ 0 → K25 (x12 + 1) (x13 + 1))))) 0 0))))
set_option maxHeartbeats 4000000 in
set_option maxRecDepth 100000 in
theorem cR_often (l : Launch) (D : va_G) (dA : Nat → ClassId) (b : Nat) (M : zM)   (Q : Int → zM → Prop) (h : wR_often  M Q) : Met l yX12_often (.code yX12_often cX12_often 5 (some .long) :: zt) (z_rm 51) (va_Pc [.ref (b + 0)] (wPre D dA vwCl (z_tys dA) wR nR b M)) (va_Ql (wQl Q) (zB D dA vwCl wR nR b) (zA nR b)) 0 0 (zA nR b) := by
  unfold wR_often at h
  refine Met.ofW (cc := cX12_often) (maxL := 5) (ret := (some .long)) (by decide) rfl ?_
  intro p e s m args below meth c s₁ B hml hv
  obtain ⟨hargs, hS, hK⟩ := hv
  have hx := B.exec
  have hb := B.bytes
  have hr := B.returns
  have hts := atoms_spec (ws := .code yX12_often cX12_often 5 (some .long) :: zt) B.pre
  have hown : s.vm.findClass RX12 = some m.cls := findClass_of_methodNamed B.named
  have hlocks := B.notSynchronized
  have hS0 : va_S (zA nR b) s.heap s.heap [] := va_S.rf
  have hl := lv_entry ([.ref (b + 0)]) (n := 5) (Nat.le_of_ble_eq_true rfl)
  have hent : entryFrame m args 5 = F0 m 0 ((lg_sl ([.ref (b + 0)]) ++ List.replicate (5 - (lg_sl ([.ref (b + 0)])).length) Slot.unset).toArray) [] := by rw [hargs]; exact lg_entry_eq m ([.ref (b + 0)]) 5
  rw [hent]
  generalize (lg_sl ([.ref (b + 0)]) ++ List.replicate (5 - (lg_sl ([.ref (b + 0)])).length) Slot.unset).toArray = ls at hl ⊢
  have hl : lv_has ls 5 [(0, .ref (b + 0))] := hl
  refine lv_aload_n hx hb dX12_often_0 rfl (lv_at hl 0 rfl) ?_
  refine z_iconst hx hb dX12_often_1 ?_
  refine w_puti hx hb hts (z_memU u12) tyX12 tyX12_ok nmX12 hown hK.1 hS hS0 f12_35 (by decide) (zkd_of (rfl : zcd wR 0 = 50) rfl) (Or.inl (hts _ (z_mem k979))) rfl (z := 0) (by decide +kernel) dX12_often_2 (fun H locs hS hS0 => ?_)
  obtain ⟨M1, e2⟩ : ∃ M1 : zM, M1 = zup M 0 35 0 := ⟨_, rfl⟩
  rw [← e2] at hS
  have h := h M1 e2
  refine lv_aload_n hx hb dX12_often_5 rfl (lv_at hl 0 rfl) ?_
  refine lv_aload_n hx hb dX12_often_6 rfl (lv_at hl 0 rfl) ?_
  refine w_calli (va_runV (As := []) (rest := [.ref (b + 0)]) ⟨hx, hb, hml, hown, hts⟩ (cR_steadyAll l D dA b M1  _ h) (cwV 0 hts (z_gV k1189 k1190 k1407 k14 k1191) rfl rfl rfl dm_X12_steadyAll ⟨Nat.le_of_ble_eq_true rfl, Nat.le_of_ble_eq_true rfl⟩) ⟨wPre_blind, (w_recv hS hK.1 (by decide) (zkd_of (rfl : zcd wR 0 = 50) rfl) (by decide) (rfl : vwCl[12]? = some (RX12, TX12, 50))), w_pre hS hK⟩ rfl rfl hl.1 rfl (lv_room (Nat.le_of_ble_eq_true rfl)) dX12_often_7 ⟨Nat.le_refl _, Nat.le_refl _⟩) hS0 (fun z4 M3 H locs r5 h hS hS0 => ?_)
  obtain ⟨e6, h⟩ := h
  rw [e6] at hS
  refine w_i2l hx hb (sI_of r5) dX12_often_10 ?_
  refine w_callv (va_runV (As := [.long (iL z4)]) (rest := []) ⟨hx, hb, hml, hown, hts⟩ (cR_findHeard l D dA b M1 z4 _ h) (cwV 1 hts (z_gV k1196 k1197 k1409 k14 k1198) rfl rfl rfl dm_X12_findHeard ⟨Nat.le_of_ble_eq_true rfl, Nat.le_of_ble_eq_true rfl⟩) ⟨wPre_blind, (w_recv hS hK.1 (by decide) (zkd_of (rfl : zcd wR 0 = 50) rfl) (by decide) (rfl : vwCl[12]? = some (RX12, TX12, 50))), w_pre hS hK⟩ rfl rfl hl.1 rfl (lv_room (Nat.le_of_ble_eq_true rfl)) dX12_often_11 ⟨Nat.le_refl _, Nat.le_refl _⟩) hS0 (fun M7 H locs h hS hS0 => ?_)
  refine lv_aload_n hx hb dX12_often_14 rfl (lv_at hl 0 rfl) ?_
  refine w_calll (va_runV (As := []) (rest := []) ⟨hx, hb, hml, hown, hts⟩ (cR_allRounds l D dA b M7  _ h) (cwV 0 hts (z_gV k1173 k1174 k1406 k14 k1175) rfl rfl rfl dm_X12_allRounds ⟨Nat.le_of_ble_eq_true rfl, Nat.le_of_ble_eq_true rfl⟩) ⟨wPre_blind, (w_recv hS hK.1 (by decide) (zkd_of (rfl : zcd wR 0 = 50) rfl) (by decide) (rfl : vwCl[12]? = some (RX12, TX12, 50))), w_pre hS hK⟩ rfl rfl hl.1 rfl (lv_room (Nat.le_of_ble_eq_true rfl)) dX12_often_15 ⟨Nat.le_refl _, Nat.le_refl _⟩) hS0 (fun z9 M8 H locs r10 h hS hS0 => ?_)
  obtain ⟨e11, h⟩ := h
  rw [e11] at hS
  refine z_l2i hx hb dX12_often_18 ?_
  refine lv_istore_n (lv' := [(1, .int (iI z9)), (0, .ref (b + 0))]) hx hb dX12_often_19 rfl hl (by decide) rfl (fun ls hl => ?_)
  refine z_lconst0 hx hb dX12_often_20 ?_
  refine lv_lstore_n (lv' := [(2, .long (iL 0)), (1, .int (iI z9)), (0, .ref (b + 0))]) hx hb dX12_often_21 rfl hl (by decide) rfl (fun ls hl => ?_)
  refine z_iconst hx hb dX12_often_22 ?_
  refine lv_istore (lv' := [(4, .int (iI 0)), (2, .long (iL 0)), (1, .int (iI z9)), (0, .ref (b + 0))]) hx hb dX12_often_23 hl (by decide) rfl (fun ls hl => ?_)
  obtain ⟨I14, ⟨n15, h16⟩, h17⟩ := h
  have L18 : ∀ (n19 : Nat) (x12 x13 : Int) (H : Heap) (locs : List Loc) (ls : Array Slot), I14 n19 x12 x13 → zR D dA vwCl wR nR b M7 H → va_S (zA nR b) s.heap H locs → lv_has ls 5 [(0, .ref (b + 0)), (1, .int (iI z9)), (2, .long (iL x12)), (4, .int (iI x13))] → W p l e (headSpec (.code yX12_often cX12_often 5 (some .long) :: zt) (z_rm 51)).room s m args below meth c H locs 0 0 (MQ below (va_Ql (wQl Q) (zB D dA vwCl wR nR b) (zA nR b)) args s 0 0 (zA nR b)) (F0 m 25 ls []) := by
    intro n19
    induction n19 using Nat.strongRecOn with
    | ind n19 i20 =>
      intro x12 x13 H locs ls h hS hS0 hl
      have h := h17 n19 x12 x13 h
      refine lv_iload hx hb dX12_often_25 (lv_at hl 3 rfl) ?_
      refine lv_iload_n hx hb dX12_often_27 rfl (lv_at hl 1 rfl) ?_
      refine w_icmp_ge (tgt := 50) hx hb rfl rfl dX12_often_28 (by decide) (fun c21 => ?_) (fun c21 => ?_)
      · skip
        have h := h.1 c21
        refine lv_lload_n hx hb dX12_often_50 rfl (lv_at hl 2 rfl) ?_
        exact w_lret hx hb hr hlocks hS hS0 rfl h dX12_often_51
      · skip
        have h := h.2 c21
        refine lv_aload_n hx hb dX12_often_31 rfl (lv_at hl 0 rfl) ?_
        refine lv_iload hx hb dX12_often_32 (lv_at hl 3 rfl) ?_
        refine w_callz (va_runV (As := [.int (iI x13)]) (rest := []) ⟨hx, hb, hml, hown, hts⟩ (cR_meetsBehind l D dA b M7 x13 _ h) (cwV 1 hts (z_gV k1199 k1200 k1410 k14 k1201) rfl rfl rfl dm_X12_meetsBehind ⟨Nat.le_of_ble_eq_true rfl, Nat.le_of_ble_eq_true rfl⟩) ⟨wPre_blind, (w_recv hS hK.1 (by decide) (zkd_of (rfl : zcd wR 0 = 50) rfl) (by decide) (rfl : vwCl[12]? = some (RX12, TX12, 50))), w_pre hS hK⟩ rfl rfl hl.1 rfl (lv_room (Nat.le_of_ble_eq_true rfl)) dX12_often_34 ⟨Nat.le_refl _, Nat.le_refl _⟩) hS0 (fun z23 M22 H locs r24 h hS hS0 => ?_)
        obtain ⟨e25, h⟩ := h
        rw [e25] at hS
        refine w_if_eq (tgt := 44) hx hb (sI_01 r24) dX12_often_37 (by decide) (fun c26 => ?_) (fun c26 => ?_)
        · skip
          have h := h.1 c26
          refine z_iinc (lv' := [(4, .int (iI (x13 + 1))), (0, .ref (b + 0)), (1, .int (iI z9)), (2, .long (iL x12))]) hx hb dX12_often_44 hl (k := 3) rfl (by decide) rfl (fun ls hl => ?_)
          refine lv_goto (tgt := 25) hx hb dX12_often_47 (by decide) ?_
          obtain ⟨n27, h28, h⟩ := h
          exact i20 n27 h28 x12 (x13 + 1) _ _ _ h hS hS0 (lv_sub hl [1, 2, 3, 0] rfl)
        · skip
          have h := h.2 c26
          refine lv_lload_n hx hb dX12_often_40 rfl (lv_at hl 2 rfl) ?_
          refine z_lconst1 hx hb dX12_often_41 ?_
          refine z_ladd hx hb dX12_often_42 ?_
          refine lv_lstore_n (lv' := [(2, .long (iL (x12 + 1))), (0, .ref (b + 0)), (1, .int (iI z9)), (4, .int (iI x13))]) hx hb dX12_often_43 rfl hl (by decide) rfl (fun ls hl => ?_)
          refine z_iinc (lv' := [(4, .int (iI (x13 + 1))), (2, .long (iL (x12 + 1))), (0, .ref (b + 0)), (1, .int (iI z9))]) hx hb dX12_often_44 hl (k := 3) rfl (by decide) rfl (fun ls hl => ?_)
          refine lv_goto (tgt := 25) hx hb dX12_often_47 (by decide) ?_
          obtain ⟨n29, h30, h⟩ := h
          exact i20 n29 h30 (x12 + 1) (x13 + 1) _ _ _ h hS hS0 (lv_sub hl [2, 3, 1, 0] rfl)
  exact L18 n15 0 0 _ _ _ h16 hS hS0 (lv_sub hl [3, 2, 1, 0] rfl)

set_option maxRecDepth 100000 in
def wR_mark (a0 : Int) (a1 : Int) (M : zM) (Q : Int → zM → Prop) : Prop := (∀ M1 : zM, M1 = zup M 0 35 0 → wR_in a0 0 100000 M1 (fun z4 => (z4 = 0 → Q (-1) M1) ∧ (z4 ≠ 0 → wR_in a1 1 9 M1 (fun z9 => (z9 = 0 → Q (-1) M1) ∧ (z9 ≠ 0 → ((sI (M1 0 16)) ≠ 6 → ((0 ≤ (sI (M1 0 16)) ∧ (sI (M1 0 16)) < 6) ∧ (∀ M15 : zM, M15 = zup M1 12 (sI (M1 0 16)).toNat a0 → ((0 ≤ (sI (M15 0 16)) ∧ (sI (M15 0 16)) < 6) ∧ (∀ M18 : zM, M18 = zup M15 13 (sI (M15 0 16)).toNat a1 → (∀ M20 : zM, M20 = zup M18 0 16 ((M18 0 16) + 1) → Q (sI (M20 0 16)) M20)))))) ∧ ((sI (M1 0 16)) = 6 → Q (-1) M1))))))
set_option maxHeartbeats 4000000 in
set_option maxRecDepth 100000 in
theorem cR_mark (l : Launch) (D : va_G) (dA : Nat → ClassId) (b : Nat) (M : zM) (a0 : Int) (a1 : Int)  (Q : Int → zM → Prop) (h : wR_mark a0 a1 M Q) : Met l yX12_mark (.code yX12_mark cX12_mark 3 (some .int) :: zt) (z_rm 1) (va_Pc [.ref (b + 0), .int (iI a0), .int (iI a1)] (wPre D dA vwCl (z_tys dA) wR nR b M)) (va_Qi (wQi Q) (zB D dA vwCl wR nR b) (zA nR b)) 0 0 (zA nR b) := by
  unfold wR_mark at h
  refine Met.ofW (cc := cX12_mark) (maxL := 3) (ret := (some .int)) (by decide) rfl ?_
  intro p e s m args below meth c s₁ B hml hv
  obtain ⟨hargs, hS, hK⟩ := hv
  have hx := B.exec
  have hb := B.bytes
  have hr := B.returns
  have hts := atoms_spec (ws := .code yX12_mark cX12_mark 3 (some .int) :: zt) B.pre
  have hown : s.vm.findClass RX12 = some m.cls := findClass_of_methodNamed B.named
  have hlocks := B.notSynchronized
  have hS0 : va_S (zA nR b) s.heap s.heap [] := va_S.rf
  have hl := lv_entry ([.ref (b + 0), .int (iI a0), .int (iI a1)]) (n := 3) (Nat.le_of_ble_eq_true rfl)
  have hent : entryFrame m args 3 = F0 m 0 ((lg_sl ([.ref (b + 0), .int (iI a0), .int (iI a1)]) ++ List.replicate (3 - (lg_sl ([.ref (b + 0), .int (iI a0), .int (iI a1)])).length) Slot.unset).toArray) [] := by rw [hargs]; exact lg_entry_eq m ([.ref (b + 0), .int (iI a0), .int (iI a1)]) 3
  rw [hent]
  generalize (lg_sl ([.ref (b + 0), .int (iI a0), .int (iI a1)]) ++ List.replicate (3 - (lg_sl ([.ref (b + 0), .int (iI a0), .int (iI a1)])).length) Slot.unset).toArray = ls at hl ⊢
  have hl : lv_has ls 3 [(0, .ref (b + 0)), (1, .int (iI a0)), (2, .int (iI a1))] := hl
  refine lv_aload_n hx hb dX12_mark_0 rfl (lv_at hl 0 rfl) ?_
  refine z_iconst hx hb dX12_mark_1 ?_
  refine w_puti hx hb hts (z_memU u12) tyX12 tyX12_ok nmX12 hown hK.1 hS hS0 f12_35 (by decide) (zkd_of (rfl : zcd wR 0 = 50) rfl) (Or.inl (hts _ (z_mem k979))) rfl (z := 0) (by decide +kernel) dX12_mark_2 (fun H locs hS hS0 => ?_)
  obtain ⟨M1, e2⟩ : ∃ M1 : zM, M1 = zup M 0 35 0 := ⟨_, rfl⟩
  rw [← e2] at hS
  have h := h M1 e2
  refine lv_iload_n hx hb dX12_mark_5 rfl (lv_at hl 1 rfl) ?_
  refine z_iconst hx hb dX12_mark_6 ?_
  refine z_ldcw (n := 100000) hx hb hown (hts _ (z_mem k1210)) (by decide) dX12_mark_7 ?_
  refine w_callz (va_runS (As := [.int (iI a0), .int (iI 0), .int (iI 100000)]) (rest := []) ⟨hx, hb, hml, hown, hts⟩ (cR_in l D dA b M1 a0 0 100000 _ h) (va_cwS 3 hts (z_gS k1083 k1084 k14 k1085) rfl rfl rfl dm_X12_in.2 ⟨Nat.le_of_ble_eq_true rfl, Nat.le_of_ble_eq_true rfl⟩) ⟨wPre_blind, w_pre hS hK⟩ rfl rfl hl.1 rfl (lv_room (Nat.le_of_ble_eq_true rfl)) dX12_mark_10 ⟨Nat.le_refl _, Nat.le_refl _⟩) hS0 (fun z4 M3 H locs r5 h hS hS0 => ?_)
  obtain ⟨e6, h⟩ := h
  rw [e6] at hS
  refine w_if_eq (tgt := 35) hx hb (sI_01 r5) dX12_mark_13 (by decide) (fun c7 => ?_) (fun c7 => ?_)
  · skip
    have h := h.1 c7
    refine z_iconst hx hb dX12_mark_35 ?_
    exact w_iret hx hb hr hlocks hS hS0 (sI_of (by decide)) h dX12_mark_36
  · skip
    have h := h.2 c7
    refine lv_iload_n hx hb dX12_mark_16 rfl (lv_at hl 2 rfl) ?_
    refine z_iconst hx hb dX12_mark_17 ?_
    refine z_bipush hx hb (by decide) dX12_mark_18 ?_
    refine w_callz (va_runS (As := [.int (iI a1), .int (iI 1), .int (iI 9)]) (rest := []) ⟨hx, hb, hml, hown, hts⟩ (cR_in l D dA b M1 a1 1 9 _ h) (va_cwS 3 hts (z_gS k1083 k1084 k14 k1085) rfl rfl rfl dm_X12_in.2 ⟨Nat.le_of_ble_eq_true rfl, Nat.le_of_ble_eq_true rfl⟩) ⟨wPre_blind, w_pre hS hK⟩ rfl rfl hl.1 rfl (lv_room (Nat.le_of_ble_eq_true rfl)) dX12_mark_20 ⟨Nat.le_refl _, Nat.le_refl _⟩) hS0 (fun z9 M8 H locs r10 h hS hS0 => ?_)
    obtain ⟨e11, h⟩ := h
    rw [e11] at hS
    refine w_if_eq (tgt := 35) hx hb (sI_01 r10) dX12_mark_23 (by decide) (fun c12 => ?_) (fun c12 => ?_)
    · skip
      have h := h.1 c12
      refine z_iconst hx hb dX12_mark_35 ?_
      exact w_iret hx hb hr hlocks hS hS0 (sI_of (by decide)) h dX12_mark_36
    · skip
      have h := h.2 c12
      refine lv_aload_n hx hb dX12_mark_26 rfl (lv_at hl 0 rfl) ?_
      refine w_geti hx hb hts (z_memU u12) hown hK.1 hS f12_16 (by decide) (zkd_of (rfl : zcd wR 0 = 50) rfl) (Or.inl (hts _ (z_mem k960))) dX12_mark_27 ?_
      refine z_bipush hx hb (by decide) dX12_mark_30 ?_
      refine w_icmp_ne (tgt := 37) hx hb rfl (sI_of (by decide)) dX12_mark_32 (by decide) (fun c13 => ?_) (fun c13 => ?_)
      · skip
        have h := h.1 c13
        refine lv_aload_n hx hb dX12_mark_37 rfl (lv_at hl 0 rfl) ?_
        refine w_getr (j2 := 12) hx hb hts (z_memU u12) hown hK.1 hS f12_14 (by decide) (zkd_of (rfl : zcd wR 0 = 50) rfl) (zrf_of (rfl : zcd wR 0 = 50) rfl) (Or.inl (hts _ (z_mem k958))) dX12_mark_38 ?_
        refine lv_aload_n hx hb dX12_mark_41 rfl (lv_at hl 0 rfl) ?_
        refine w_geti hx hb hts (z_memU u12) hown hK.1 hS f12_16 (by decide) (zkd_of (rfl : zcd wR 0 = 50) rfl) (Or.inl (hts _ (z_mem k960))) dX12_mark_42 ?_
        refine lv_iload_n hx hb dX12_mark_45 rfl (lv_at hl 1 rfl) ?_
        obtain ⟨o14, h⟩ := h
        refine w_iast (z := a0) (n := 6) (i := (sI (M1 0 16))) hx hb hK.1 (t0 := 0) rfl hS hS0 (by decide) (zkd_of (rfl : zcd wR 12 = 62) rfl) (zln_of (rfl : zcd wR 12 = 62) rfl) rfl o14.1 o14.2 (by decide) dX12_mark_46 (fun H locs hS hS0 => ?_)
        obtain ⟨M15, e16⟩ : ∃ M15 : zM, M15 = zup M1 12 (sI (M1 0 16)).toNat a0 := ⟨_, rfl⟩
        rw [← e16] at hS
        have h := h M15 e16
        refine lv_aload_n hx hb dX12_mark_47 rfl (lv_at hl 0 rfl) ?_
        refine w_getr (j2 := 13) hx hb hts (z_memU u12) hown hK.1 hS f12_15 (by decide) (zkd_of (rfl : zcd wR 0 = 50) rfl) (zrf_of (rfl : zcd wR 0 = 50) rfl) (Or.inl (hts _ (z_mem k959))) dX12_mark_48 ?_
        refine lv_aload_n hx hb dX12_mark_51 rfl (lv_at hl 0 rfl) ?_
        refine w_geti hx hb hts (z_memU u12) hown hK.1 hS f12_16 (by decide) (zkd_of (rfl : zcd wR 0 = 50) rfl) (Or.inl (hts _ (z_mem k960))) dX12_mark_52 ?_
        refine lv_iload_n hx hb dX12_mark_55 rfl (lv_at hl 2 rfl) ?_
        obtain ⟨o17, h⟩ := h
        refine w_iast (z := a1) (n := 6) (i := (sI (M15 0 16))) hx hb hK.1 (t0 := 0) rfl hS hS0 (by decide) (zkd_of (rfl : zcd wR 13 = 63) rfl) (zln_of (rfl : zcd wR 13 = 63) rfl) rfl o17.1 o17.2 (by decide) dX12_mark_56 (fun H locs hS hS0 => ?_)
        obtain ⟨M18, e19⟩ : ∃ M18 : zM, M18 = zup M15 13 (sI (M15 0 16)).toNat a1 := ⟨_, rfl⟩
        rw [← e19] at hS
        have h := h M18 e19
        refine lv_aload_n hx hb dX12_mark_57 rfl (lv_at hl 0 rfl) ?_
        refine lv_dup hx hb dX12_mark_58 rfl ?_
        refine w_geti hx hb hts (z_memU u12) hown hK.1 hS f12_16 (by decide) (zkd_of (rfl : zcd wR 0 = 50) rfl) (Or.inl (hts _ (z_mem k960))) dX12_mark_59 ?_
        refine z_iconst hx hb dX12_mark_62 ?_
        refine z_iadd hx hb dX12_mark_63 ?_
        refine w_puti hx hb hts (z_memU u12) tyX12 tyX12_ok nmX12 hown hK.1 hS hS0 f12_16 (by decide) (zkd_of (rfl : zcd wR 0 = 50) rfl) (Or.inl (hts _ (z_mem k960))) rfl (z := ((M18 0 16) + 1)) (by decide +kernel) dX12_mark_64 (fun H locs hS hS0 => ?_)
        obtain ⟨M20, e21⟩ : ∃ M20 : zM, M20 = zup M18 0 16 ((M18 0 16) + 1) := ⟨_, rfl⟩
        rw [← e21] at hS
        have h := h M20 e21
        refine lv_aload_n hx hb dX12_mark_67 rfl (lv_at hl 0 rfl) ?_
        refine w_geti hx hb hts (z_memU u12) hown hK.1 hS f12_16 (by decide) (zkd_of (rfl : zcd wR 0 = 50) rfl) (Or.inl (hts _ (z_mem k960))) dX12_mark_68 ?_
        exact w_iret hx hb hr hlocks hS hS0 rfl h dX12_mark_71
      · skip
        have h := h.2 c13
        refine z_iconst hx hb dX12_mark_35 ?_
        exact w_iret hx hb hr hlocks hS hS0 (sI_of (by decide)) h dX12_mark_36

set_option maxRecDepth 100000 in
def wR_truths (a0 : Int) (a1 : Int) (a2 : Int) (M : zM) (Q : Int → Prop) : Prop := ((0 ≤ (sI a0) ∧ (sI a0) < 4) ∧ pL2 (fun K16 x2 x3 => ((sI (M 0 16)) ≤ (sI x3) → Q (sI x2)) ∧ ((sI x3) < (sI (M 0 16)) → ((0 ≤ (sI a0) ∧ (sI a0) < 4) ∧ ((0 ≤ (sI x3) ∧ (sI x3) < 6) ∧ wR_wayBy (M 5 (sI a0).toNat) (sI (M 12 (sI x3).toNat)) ((M 4 (sI a0).toNat) - a1) M (fun z15 => pL2 (fun K55 x18 x19 => (24 ≤ (sI x19) → ((sI x18) = 0 → K16 x2 (x3 + 1)) ∧ ((sI x18) ≠ 0 → K16 (orI x2 (shlI 1 x3)) (x3 + 1))) ∧ ((sI x19) < 24 → ((0 ≤ (sI a0) ∧ (sI a0) < 4) ∧ ((andI (shrI (M 7 (sI a0).toNat) x19) 1) ≠ 1 → K55 x18 (x19 + 1)) ∧ ((andI (shrI (M 7 (sI a0).toNat) x19) 1) = 1 → ((sI x18) ≠ 0 → K55 1 (x19 + 1)) ∧ ((sI x18) = 0 → (((sI ((M 4 (sI a0).toNat) - a1)) ≠ 0) ∧ ((0 ≤ (sI ((24 * a0) + ((sI ((a2 + z15) + x19)).tmod (sI ((M 4 (sI a0).toNat) - a1))))) ∧ (sI ((24 * a0) + ((sI ((a2 + z15) + x19)).tmod (sI ((M 4 (sI a0).toNat) - a1))))) < 96) ∧ ((0 ≤ (sI x3) ∧ (sI x3) < 6) ∧ ((andI (shrI (M 3 (sI ((24 * a0) + ((sI ((a2 + z15) + x19)).tmod (sI ((M 4 (sI a0).toNat) - a1))))).toNat) (M 13 (sI x3).toNat)) 1) ≠ 1 → K55 0 (x19 + 1)) ∧ ((andI (shrI (M 3 (sI ((24 * a0) + ((sI ((a2 + z15) + x19)).tmod (sI ((M 4 (sI a0).toNat) - a1))))).toNat) (M 13 (sI x3).toNat)) 1) = 1 → K55 1 (x19 + 1)))))))))) 0 0))))) 0 0)
set_option maxHeartbeats 4000000 in
set_option maxRecDepth 100000 in
theorem cR_truths (l : Launch) (D : va_G) (dA : Nat → ClassId) (b : Nat) (M : zM) (a0 : Int) (a1 : Int) (a2 : Int)  (Q : Int → Prop) (h : wR_truths a0 a1 a2 M Q) : Met l yX12_truths (.code yX12_truths cX12_truths 10 (some .int) :: zt) (z_rm 2) (va_Pc [.ref (b + 0), .int (iI a0), .int (iI a1), .int (iI a2)] (wPre D dA vwCl (z_tys dA) wR nR b M)) (va_Qi (wQi (fun z9 u9 => u9 = M ∧ Q z9)) (zB D dA vwCl wR nR b) (zA nR b)) 0 0 (zA nR b) := by
  unfold wR_truths at h
  refine Met.ofW (cc := cX12_truths) (maxL := 10) (ret := (some .int)) (by decide) rfl ?_
  intro p e s m args below meth c s₁ B hml hv
  obtain ⟨hargs, hS, hK⟩ := hv
  have hx := B.exec
  have hb := B.bytes
  have hr := B.returns
  have hts := atoms_spec (ws := .code yX12_truths cX12_truths 10 (some .int) :: zt) B.pre
  have hown : s.vm.findClass RX12 = some m.cls := findClass_of_methodNamed B.named
  have hlocks := B.notSynchronized
  have hS0 : va_S (zA nR b) s.heap s.heap [] := va_S.rf
  have hl := lv_entry ([.ref (b + 0), .int (iI a0), .int (iI a1), .int (iI a2)]) (n := 10) (Nat.le_of_ble_eq_true rfl)
  have hent : entryFrame m args 10 = F0 m 0 ((lg_sl ([.ref (b + 0), .int (iI a0), .int (iI a1), .int (iI a2)]) ++ List.replicate (10 - (lg_sl ([.ref (b + 0), .int (iI a0), .int (iI a1), .int (iI a2)])).length) Slot.unset).toArray) [] := by rw [hargs]; exact lg_entry_eq m ([.ref (b + 0), .int (iI a0), .int (iI a1), .int (iI a2)]) 10
  rw [hent]
  generalize (lg_sl ([.ref (b + 0), .int (iI a0), .int (iI a1), .int (iI a2)]) ++ List.replicate (10 - (lg_sl ([.ref (b + 0), .int (iI a0), .int (iI a1), .int (iI a2)])).length) Slot.unset).toArray = ls at hl ⊢
  have hl : lv_has ls 10 [(0, .ref (b + 0)), (1, .int (iI a0)), (2, .int (iI a1)), (3, .int (iI a2))] := hl
  refine lv_aload_n hx hb dX12_truths_0 rfl (lv_at hl 0 rfl) ?_
  refine w_getr (j2 := 4) hx hb hts (z_memU u12) hown hK.1 hS f12_5 (by decide) (zkd_of (rfl : zcd wR 0 = 50) rfl) (zrf_of (rfl : zcd wR 0 = 50) rfl) (Or.inl (hts _ (z_mem k949))) dX12_truths_1 ?_
  refine lv_iload_n hx hb dX12_truths_4 rfl (lv_at hl 1 rfl) ?_
  obtain ⟨o1, h⟩ := h
  refine w_iald (n := 4) (i := (sI a0)) hx hb hK.1 (t0 := 0) rfl hS (by decide) (zkd_of (rfl : zcd wR 4 = 54) rfl) (zln_of (rfl : zcd wR 4 = 54) rfl) rfl o1.1 o1.2 (by decide) dX12_truths_5 ?_
  refine lv_iload_n hx hb dX12_truths_6 rfl (lv_at hl 2 rfl) ?_
  refine z_isub hx hb dX12_truths_7 ?_
  refine lv_istore (lv' := [(4, .int (iI ((M 4 (sI a0).toNat) - a1))), (0, .ref (b + 0)), (1, .int (iI a0)), (2, .int (iI a1)), (3, .int (iI a2))]) hx hb dX12_truths_8 hl (by decide) rfl (fun ls hl => ?_)
  refine z_iconst hx hb dX12_truths_10 ?_
  refine lv_istore (lv' := [(5, .int (iI 0)), (4, .int (iI ((M 4 (sI a0).toNat) - a1))), (0, .ref (b + 0)), (1, .int (iI a0)), (2, .int (iI a1)), (3, .int (iI a2))]) hx hb dX12_truths_11 hl (by decide) rfl (fun ls hl => ?_)
  refine z_iconst hx hb dX12_truths_13 ?_
  refine lv_istore (lv' := [(6, .int (iI 0)), (5, .int (iI 0)), (4, .int (iI ((M 4 (sI a0).toNat) - a1))), (0, .ref (b + 0)), (1, .int (iI a0)), (2, .int (iI a1)), (3, .int (iI a2))]) hx hb dX12_truths_14 hl (by decide) rfl (fun ls hl => ?_)
  obtain ⟨I4, ⟨n5, h6⟩, h7⟩ := h
  have L8 : ∀ (n9 : Nat) (x2 x3 : Int) (H : Heap) (locs : List Loc) (ls : Array Slot), I4 n9 x2 x3 → zR D dA vwCl wR nR b M H → va_S (zA nR b) s.heap H locs → lv_has ls 10 [(0, .ref (b + 0)), (1, .int (iI a0)), (3, .int (iI a2)), (4, .int (iI ((M 4 (sI a0).toNat) - a1))), (5, .int (iI x2)), (6, .int (iI x3))] → W p l e (headSpec (.code yX12_truths cX12_truths 10 (some .int) :: zt) (z_rm 2)).room s m args below meth c H locs 0 0 (MQ below (va_Qi (wQi (fun z9 u9 => u9 = M ∧ Q z9)) (zB D dA vwCl wR nR b) (zA nR b)) args s 0 0 (zA nR b)) (F0 m 16 ls []) := by
    intro n9
    induction n9 using Nat.strongRecOn with
    | ind n9 i10 =>
      intro x2 x3 H locs ls h hS hS0 hl
      have h := h7 n9 x2 x3 h
      refine lv_iload hx hb dX12_truths_16 (lv_at hl 5 rfl) ?_
      refine lv_aload_n hx hb dX12_truths_18 rfl (lv_at hl 0 rfl) ?_
      refine w_geti hx hb hts (z_memU u12) hown hK.1 hS f12_16 (by decide) (zkd_of (rfl : zcd wR 0 = 50) rfl) (Or.inl (hts _ (z_mem k960))) dX12_truths_19 ?_
      refine w_icmp_ge (tgt := 147) hx hb rfl rfl dX12_truths_22 (by decide) (fun c11 => ?_) (fun c11 => ?_)
      · skip
        have h := h.1 c11
        refine lv_iload hx hb dX12_truths_147 (lv_at hl 4 rfl) ?_
        exact w_iret hx hb hr hlocks hS hS0 rfl ⟨rfl, h⟩ dX12_truths_149
      · skip
        have h := h.2 c11
        refine lv_iload_n hx hb dX12_truths_25 rfl (lv_at hl 2 rfl) ?_
        refine lv_aload_n hx hb dX12_truths_26 rfl (lv_at hl 0 rfl) ?_
        refine lv_aload_n hx hb dX12_truths_27 rfl (lv_at hl 0 rfl) ?_
        refine w_getr (j2 := 5) hx hb hts (z_memU u12) hown hK.1 hS f12_6 (by decide) (zkd_of (rfl : zcd wR 0 = 50) rfl) (zrf_of (rfl : zcd wR 0 = 50) rfl) (Or.inl (hts _ (z_mem k950))) dX12_truths_28 ?_
        refine lv_iload_n hx hb dX12_truths_31 rfl (lv_at hl 1 rfl) ?_
        obtain ⟨o12, h⟩ := h
        refine w_iald (n := 4) (i := (sI a0)) hx hb hK.1 (t0 := 0) rfl hS (by decide) (zkd_of (rfl : zcd wR 5 = 55) rfl) (zln_of (rfl : zcd wR 5 = 55) rfl) rfl o12.1 o12.2 (by decide) dX12_truths_32 ?_
        refine lv_aload_n hx hb dX12_truths_33 rfl (lv_at hl 0 rfl) ?_
        refine w_getr (j2 := 12) hx hb hts (z_memU u12) hown hK.1 hS f12_14 (by decide) (zkd_of (rfl : zcd wR 0 = 50) rfl) (zrf_of (rfl : zcd wR 0 = 50) rfl) (Or.inl (hts _ (z_mem k958))) dX12_truths_34 ?_
        refine lv_iload hx hb dX12_truths_37 (lv_at hl 5 rfl) ?_
        obtain ⟨o13, h⟩ := h
        refine w_iald (n := 6) (i := (sI x3)) hx hb hK.1 (t0 := 0) rfl hS (by decide) (zkd_of (rfl : zcd wR 12 = 62) rfl) (zln_of (rfl : zcd wR 12 = 62) rfl) rfl o13.1 o13.2 (by decide) dX12_truths_39 ?_
        refine w_i2l hx hb rfl dX12_truths_40 ?_
        refine lv_iload hx hb dX12_truths_41 (lv_at hl 3 rfl) ?_
        refine w_calli (va_runV (As := [.int (iI (M 5 (sI a0).toNat)), .long (iL (sI (M 12 (sI x3).toNat))), .int (iI ((M 4 (sI a0).toNat) - a1))]) (rest := [.int (iI a2)]) ⟨hx, hb, hml, hown, hts⟩ (cR_wayBy l D dA b M (M 5 (sI a0).toNat) (sI (M 12 (sI x3).toNat)) ((M 4 (sI a0).toNat) - a1) _ h) (cwV 3 hts (z_gV k1157 k1158 k1403 k14 k1159) rfl rfl rfl dm_X12_wayBy ⟨Nat.le_of_ble_eq_true rfl, Nat.le_of_ble_eq_true rfl⟩) ⟨wPre_blind, (w_recv hS hK.1 (by decide) (zkd_of (rfl : zcd wR 0 = 50) rfl) (by decide) (rfl : vwCl[12]? = some (RX12, TX12, 50))), w_pre hS hK⟩ rfl rfl hl.1 rfl (lv_room (Nat.le_of_ble_eq_true rfl)) dX12_truths_43 ⟨Nat.le_refl _, Nat.le_refl _⟩) hS0 (fun z15 M14 H locs r16 h hS hS0 => ?_)
        obtain ⟨e17, h⟩ := h
        rw [e17] at hS
        refine z_iadd hx hb dX12_truths_46 ?_
        refine lv_istore (lv' := [(7, .int (iI (a2 + z15))), (0, .ref (b + 0)), (1, .int (iI a0)), (3, .int (iI a2)), (4, .int (iI ((M 4 (sI a0).toNat) - a1))), (5, .int (iI x2)), (6, .int (iI x3))]) hx hb dX12_truths_47 hl (by decide) rfl (fun ls hl => ?_)
        refine z_iconst hx hb dX12_truths_49 ?_
        refine lv_istore (lv' := [(8, .int (iI 0)), (7, .int (iI (a2 + z15))), (0, .ref (b + 0)), (1, .int (iI a0)), (3, .int (iI a2)), (4, .int (iI ((M 4 (sI a0).toNat) - a1))), (5, .int (iI x2)), (6, .int (iI x3))]) hx hb dX12_truths_50 hl (by decide) rfl (fun ls hl => ?_)
        refine z_iconst hx hb dX12_truths_52 ?_
        refine lv_istore (lv' := [(9, .int (iI 0)), (8, .int (iI 0)), (7, .int (iI (a2 + z15))), (0, .ref (b + 0)), (1, .int (iI a0)), (3, .int (iI a2)), (4, .int (iI ((M 4 (sI a0).toNat) - a1))), (5, .int (iI x2)), (6, .int (iI x3))]) hx hb dX12_truths_53 hl (by decide) rfl (fun ls hl => ?_)
        obtain ⟨I20, ⟨n21, h22⟩, h23⟩ := h
        have L24 : ∀ (n25 : Nat) (x18 x19 : Int) (H : Heap) (locs : List Loc) (ls : Array Slot), I20 n25 x18 x19 → zR D dA vwCl wR nR b M H → va_S (zA nR b) s.heap H locs → lv_has ls 10 [(0, .ref (b + 0)), (1, .int (iI a0)), (3, .int (iI a2)), (4, .int (iI ((M 4 (sI a0).toNat) - a1))), (5, .int (iI x2)), (6, .int (iI x3)), (7, .int (iI (a2 + z15))), (8, .int (iI x18)), (9, .int (iI x19))] → W p l e (headSpec (.code yX12_truths cX12_truths 10 (some .int) :: zt) (z_rm 2)).room s m args below meth c H locs 0 0 (MQ below (va_Qi (wQi (fun z9 u9 => u9 = M ∧ Q z9)) (zB D dA vwCl wR nR b) (zA nR b)) args s 0 0 (zA nR b)) (F0 m 55 ls []) := by
          intro n25
          induction n25 using Nat.strongRecOn with
          | ind n25 i26 =>
            intro x18 x19 H locs ls h hS hS0 hl
            have h := h23 n25 x18 x19 h
            refine lv_iload hx hb dX12_truths_55 (lv_at hl 8 rfl) ?_
            refine z_bipush hx hb (by decide) dX12_truths_57 ?_
            refine w_icmp_ge (tgt := 127) hx hb rfl (sI_of (by decide)) dX12_truths_59 (by decide) (fun c27 => ?_) (fun c27 => ?_)
            · skip
              have h := h.1 c27
              refine lv_iload hx hb dX12_truths_127 (lv_at hl 7 rfl) ?_
              refine w_if_eq (tgt := 141) hx hb rfl dX12_truths_129 (by decide) (fun c28 => ?_) (fun c28 => ?_)
              · skip
                have h := h.1 c28
                refine z_iinc (lv' := [(6, .int (iI (x3 + 1))), (0, .ref (b + 0)), (1, .int (iI a0)), (3, .int (iI a2)), (4, .int (iI ((M 4 (sI a0).toNat) - a1))), (5, .int (iI x2)), (7, .int (iI (a2 + z15))), (8, .int (iI x18)), (9, .int (iI x19))]) hx hb dX12_truths_141 hl (k := 5) rfl (by decide) rfl (fun ls hl => ?_)
                refine lv_goto (tgt := 16) hx hb dX12_truths_144 (by decide) ?_
                obtain ⟨n29, h30, h⟩ := h
                exact i10 n29 h30 x2 (x3 + 1) _ _ _ h hS hS0 (lv_sub hl [1, 2, 3, 4, 5, 0] rfl)
              · skip
                have h := h.2 c28
                refine lv_iload hx hb dX12_truths_132 (lv_at hl 4 rfl) ?_
                refine z_iconst hx hb dX12_truths_134 ?_
                refine lv_iload hx hb dX12_truths_135 (lv_at hl 5 rfl) ?_
                refine w_ishl hx hb dX12_truths_137 ?_
                refine w_ior hx hb dX12_truths_138 ?_
                refine lv_istore (lv' := [(5, .int (iI (orI x2 (shlI 1 x3)))), (0, .ref (b + 0)), (1, .int (iI a0)), (3, .int (iI a2)), (4, .int (iI ((M 4 (sI a0).toNat) - a1))), (6, .int (iI x3)), (7, .int (iI (a2 + z15))), (8, .int (iI x18)), (9, .int (iI x19))]) hx hb dX12_truths_139 hl (by decide) rfl (fun ls hl => ?_)
                refine z_iinc (lv' := [(6, .int (iI (x3 + 1))), (5, .int (iI (orI x2 (shlI 1 x3)))), (0, .ref (b + 0)), (1, .int (iI a0)), (3, .int (iI a2)), (4, .int (iI ((M 4 (sI a0).toNat) - a1))), (7, .int (iI (a2 + z15))), (8, .int (iI x18)), (9, .int (iI x19))]) hx hb dX12_truths_141 hl (k := 5) rfl (by decide) rfl (fun ls hl => ?_)
                refine lv_goto (tgt := 16) hx hb dX12_truths_144 (by decide) ?_
                obtain ⟨n31, h32, h⟩ := h
                exact i10 n31 h32 (orI x2 (shlI 1 x3)) (x3 + 1) _ _ _ h hS hS0 (lv_sub hl [2, 3, 4, 5, 1, 0] rfl)
            · skip
              have h := h.2 c27
              refine lv_aload_n hx hb dX12_truths_62 rfl (lv_at hl 0 rfl) ?_
              refine w_getr (j2 := 7) hx hb hts (z_memU u12) hown hK.1 hS f12_8 (by decide) (zkd_of (rfl : zcd wR 0 = 50) rfl) (zrf_of (rfl : zcd wR 0 = 50) rfl) (Or.inl (hts _ (z_mem k952))) dX12_truths_63 ?_
              refine lv_iload_n hx hb dX12_truths_66 rfl (lv_at hl 1 rfl) ?_
              obtain ⟨o33, h⟩ := h
              refine w_iald (n := 4) (i := (sI a0)) hx hb hK.1 (t0 := 0) rfl hS (by decide) (zkd_of (rfl : zcd wR 7 = 57) rfl) (zln_of (rfl : zcd wR 7 = 57) rfl) rfl o33.1 o33.2 (by decide) dX12_truths_67 ?_
              refine lv_iload hx hb dX12_truths_68 (lv_at hl 8 rfl) ?_
              refine w_ishr hx hb dX12_truths_70 ?_
              refine z_iconst hx hb dX12_truths_71 ?_
              refine w_iand hx hb dX12_truths_72 ?_
              refine z_iconst hx hb dX12_truths_73 ?_
              refine w_icmp_ne (tgt := 121) hx hb (sI_of (andI_R _ _)) (sI_of (by decide)) dX12_truths_74 (by decide) (fun c34 => ?_) (fun c34 => ?_)
              · skip
                have h := h.1 c34
                refine z_iinc (lv' := [(9, .int (iI (x19 + 1))), (0, .ref (b + 0)), (1, .int (iI a0)), (3, .int (iI a2)), (4, .int (iI ((M 4 (sI a0).toNat) - a1))), (5, .int (iI x2)), (6, .int (iI x3)), (7, .int (iI (a2 + z15))), (8, .int (iI x18))]) hx hb dX12_truths_121 hl (k := 8) rfl (by decide) rfl (fun ls hl => ?_)
                refine lv_goto (tgt := 55) hx hb dX12_truths_124 (by decide) ?_
                obtain ⟨n35, h36, h⟩ := h
                exact i26 n35 h36 x18 (x19 + 1) _ _ _ h hS hS0 (lv_sub hl [1, 2, 3, 4, 5, 6, 7, 8, 0] rfl)
              · skip
                have h := h.2 c34
                refine lv_iload hx hb dX12_truths_77 (lv_at hl 7 rfl) ?_
                refine w_if_ne (tgt := 114) hx hb rfl dX12_truths_79 (by decide) (fun c37 => ?_) (fun c37 => ?_)
                · skip
                  have h := h.1 c37
                  refine z_iconst hx hb dX12_truths_114 ?_
                  refine lv_goto (tgt := 119) hx hb dX12_truths_115 (by decide) ?_
                  refine lv_istore (lv' := [(8, .int (iI 1)), (0, .ref (b + 0)), (1, .int (iI a0)), (3, .int (iI a2)), (4, .int (iI ((M 4 (sI a0).toNat) - a1))), (5, .int (iI x2)), (6, .int (iI x3)), (7, .int (iI (a2 + z15))), (9, .int (iI x19))]) hx hb dX12_truths_119 hl (by decide) rfl (fun ls hl => ?_)
                  refine z_iinc (lv' := [(9, .int (iI (x19 + 1))), (8, .int (iI 1)), (0, .ref (b + 0)), (1, .int (iI a0)), (3, .int (iI a2)), (4, .int (iI ((M 4 (sI a0).toNat) - a1))), (5, .int (iI x2)), (6, .int (iI x3)), (7, .int (iI (a2 + z15)))]) hx hb dX12_truths_121 hl (k := 8) rfl (by decide) rfl (fun ls hl => ?_)
                  refine lv_goto (tgt := 55) hx hb dX12_truths_124 (by decide) ?_
                  obtain ⟨n38, h39, h⟩ := h
                  exact i26 n38 h39 1 (x19 + 1) _ _ _ h hS hS0 (lv_sub hl [2, 3, 4, 5, 6, 7, 8, 1, 0] rfl)
                · skip
                  have h := h.2 c37
                  refine lv_aload_n hx hb dX12_truths_82 rfl (lv_at hl 0 rfl) ?_
                  refine w_getr (j2 := 3) hx hb hts (z_memU u12) hown hK.1 hS f12_4 (by decide) (zkd_of (rfl : zcd wR 0 = 50) rfl) (zrf_of (rfl : zcd wR 0 = 50) rfl) (Or.inl (hts _ (z_mem k948))) dX12_truths_83 ?_
                  refine z_bipush hx hb (by decide) dX12_truths_86 ?_
                  refine lv_iload_n hx hb dX12_truths_88 rfl (lv_at hl 1 rfl) ?_
                  refine z_imul hx hb dX12_truths_89 ?_
                  refine lv_iload hx hb dX12_truths_90 (lv_at hl 6 rfl) ?_
                  refine lv_iload hx hb dX12_truths_92 (lv_at hl 8 rfl) ?_
                  refine z_iadd hx hb dX12_truths_94 ?_
                  refine lv_iload hx hb dX12_truths_95 (lv_at hl 3 rfl) ?_
                  obtain ⟨o40, h⟩ := h
                  refine w_irem hx hb rfl rfl o40 dX12_truths_97 ?_
                  refine z_iadd hx hb dX12_truths_98 ?_
                  obtain ⟨o41, h⟩ := h
                  refine w_iald (n := 96) (i := (sI ((24 * a0) + ((sI ((a2 + z15) + x19)).tmod (sI ((M 4 (sI a0).toNat) - a1)))))) hx hb hK.1 (t0 := 0) rfl hS (by decide) (zkd_of (rfl : zcd wR 3 = 53) rfl) (zln_of (rfl : zcd wR 3 = 53) rfl) rfl o41.1 o41.2 (by decide) dX12_truths_99 ?_
                  refine lv_aload_n hx hb dX12_truths_100 rfl (lv_at hl 0 rfl) ?_
                  refine w_getr (j2 := 13) hx hb hts (z_memU u12) hown hK.1 hS f12_15 (by decide) (zkd_of (rfl : zcd wR 0 = 50) rfl) (zrf_of (rfl : zcd wR 0 = 50) rfl) (Or.inl (hts _ (z_mem k959))) dX12_truths_101 ?_
                  refine lv_iload hx hb dX12_truths_104 (lv_at hl 5 rfl) ?_
                  obtain ⟨o42, h⟩ := h
                  refine w_iald (n := 6) (i := (sI x3)) hx hb hK.1 (t0 := 0) rfl hS (by decide) (zkd_of (rfl : zcd wR 13 = 63) rfl) (zln_of (rfl : zcd wR 13 = 63) rfl) rfl o42.1 o42.2 (by decide) dX12_truths_106 ?_
                  refine w_ishr hx hb dX12_truths_107 ?_
                  refine z_iconst hx hb dX12_truths_108 ?_
                  refine w_iand hx hb dX12_truths_109 ?_
                  refine z_iconst hx hb dX12_truths_110 ?_
                  refine w_icmp_ne (tgt := 118) hx hb (sI_of (andI_R _ _)) (sI_of (by decide)) dX12_truths_111 (by decide) (fun c43 => ?_) (fun c43 => ?_)
                  · skip
                    have h := h.1 c43
                    refine z_iconst hx hb dX12_truths_118 ?_
                    refine lv_istore (lv' := [(8, .int (iI 0)), (0, .ref (b + 0)), (1, .int (iI a0)), (3, .int (iI a2)), (4, .int (iI ((M 4 (sI a0).toNat) - a1))), (5, .int (iI x2)), (6, .int (iI x3)), (7, .int (iI (a2 + z15))), (9, .int (iI x19))]) hx hb dX12_truths_119 hl (by decide) rfl (fun ls hl => ?_)
                    refine z_iinc (lv' := [(9, .int (iI (x19 + 1))), (8, .int (iI 0)), (0, .ref (b + 0)), (1, .int (iI a0)), (3, .int (iI a2)), (4, .int (iI ((M 4 (sI a0).toNat) - a1))), (5, .int (iI x2)), (6, .int (iI x3)), (7, .int (iI (a2 + z15)))]) hx hb dX12_truths_121 hl (k := 8) rfl (by decide) rfl (fun ls hl => ?_)
                    refine lv_goto (tgt := 55) hx hb dX12_truths_124 (by decide) ?_
                    obtain ⟨n44, h45, h⟩ := h
                    exact i26 n44 h45 0 (x19 + 1) _ _ _ h hS hS0 (lv_sub hl [2, 3, 4, 5, 6, 7, 8, 1, 0] rfl)
                  · skip
                    have h := h.2 c43
                    refine z_iconst hx hb dX12_truths_114 ?_
                    refine lv_goto (tgt := 119) hx hb dX12_truths_115 (by decide) ?_
                    refine lv_istore (lv' := [(8, .int (iI 1)), (0, .ref (b + 0)), (1, .int (iI a0)), (3, .int (iI a2)), (4, .int (iI ((M 4 (sI a0).toNat) - a1))), (5, .int (iI x2)), (6, .int (iI x3)), (7, .int (iI (a2 + z15))), (9, .int (iI x19))]) hx hb dX12_truths_119 hl (by decide) rfl (fun ls hl => ?_)
                    refine z_iinc (lv' := [(9, .int (iI (x19 + 1))), (8, .int (iI 1)), (0, .ref (b + 0)), (1, .int (iI a0)), (3, .int (iI a2)), (4, .int (iI ((M 4 (sI a0).toNat) - a1))), (5, .int (iI x2)), (6, .int (iI x3)), (7, .int (iI (a2 + z15)))]) hx hb dX12_truths_121 hl (k := 8) rfl (by decide) rfl (fun ls hl => ?_)
                    refine lv_goto (tgt := 55) hx hb dX12_truths_124 (by decide) ?_
                    obtain ⟨n46, h47, h⟩ := h
                    exact i26 n46 h47 1 (x19 + 1) _ _ _ h hS hS0 (lv_sub hl [2, 3, 4, 5, 6, 7, 8, 1, 0] rfl)
        exact L24 n21 0 0 _ _ _ h22 hS hS0 (lv_sub hl [3, 4, 5, 6, 7, 8, 2, 1, 0] rfl)
  exact L8 n5 0 0 _ _ _ h6 hS hS0 (lv_sub hl [3, 4, 6, 2, 1, 0] rfl)
