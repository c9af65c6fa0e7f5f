theorem dX1_allTicks_0 : decode cX1_allTicks 0 = .ok (.lconst 1, 1) := by decide +kernel
theorem dX1_allTicks_1 : decode cX1_allTicks 1 = .ok (.lstore_n 1, 1) := by decide +kernel
theorem dX1_allTicks_2 : decode cX1_allTicks 2 = .ok (.iconst 0, 1) := by decide +kernel
theorem dX1_allTicks_29 : decode cX1_allTicks 29 = .ok (.lload_n 1, 1) := by decide +kernel
theorem dX1_allTicks_3 : decode cX1_allTicks 3 = .ok (.istore_n 3, 1) := by decide +kernel
theorem dX1_allTicks_30 : decode cX1_allTicks 30 = .ok (.lreturn, 1) := by decide +kernel
theorem dX1_allTicks_4 : decode cX1_allTicks 4 = .ok (.iload_n 3, 1) := by decide +kernel
theorem dX1_allTicks_5 : decode cX1_allTicks 5 = .ok (.aload_n 0, 1) := by decide +kernel
theorem dX1_allTicks_6 : decode cX1_allTicks 6 = .ok (.getfield 9, 3) := by decide +kernel
theorem dX1_allTicks_9 : decode cX1_allTicks 9 = .ok (.if_icmp .ge 20, 3) := by decide +kernel
theorem dX1_firstSteady_0 : decode cX1_firstSteady 0 = .ok (.aload_n 0, 1) := by decide +kernel
theorem dX1_firstSteady_1 : decode cX1_firstSteady 1 = .ok (.invokevirtual 89, 3) := by decide +kernel
theorem dX1_firstSteady_11 : decode cX1_firstSteady 11 = .ok (.lload 7, 2) := by decide +kernel
theorem dX1_firstSteady_13 : decode cX1_firstSteady 13 = .ok (.lload_n 3, 1) := by decide +kernel
theorem dX1_firstSteady_14 : decode cX1_firstSteady 14 = .ok (.lcmp, 1) := by decide +kernel
theorem dX1_firstSteady_15 : decode cX1_firstSteady 15 = .ok (.ifCond .ge 87, 3) := by decide +kernel
theorem dX1_firstSteady_18 : decode cX1_firstSteady 18 = .ok (.lload 5, 2) := by decide +kernel
theorem dX1_firstSteady_20 : decode cX1_firstSteady 20 = .ok (.lload_n 1, 1) := by decide +kernel
theorem dX1_firstSteady_21 : decode cX1_firstSteady 21 = .ok (.lload_n 3, 1) := by decide +kernel
theorem dX1_firstSteady_22 : decode cX1_firstSteady 22 = .ok (.ladd, 1) := by decide +kernel
theorem dX1_firstSteady_23 : decode cX1_firstSteady 23 = .ok (.lcmp, 1) := by decide +kernel
theorem dX1_firstSteady_24 : decode cX1_firstSteady 24 = .ok (.ifCond .ge 78, 3) := by decide +kernel
theorem dX1_firstSteady_27 : decode cX1_firstSteady 27 = .ok (.lload 5, 2) := by decide +kernel
theorem dX1_firstSteady_29 : decode cX1_firstSteady 29 = .ok (.lstore 9, 2) := by decide +kernel
theorem dX1_firstSteady_31 : decode cX1_firstSteady 31 = .ok (.iconst 0, 1) := by decide +kernel
theorem dX1_firstSteady_32 : decode cX1_firstSteady 32 = .ok (.istore 11, 2) := by decide +kernel
theorem dX1_firstSteady_34 : decode cX1_firstSteady 34 = .ok (.iload 11, 2) := by decide +kernel
theorem dX1_firstSteady_36 : decode cX1_firstSteady 36 = .ok (.aload_n 0, 1) := by decide +kernel
theorem dX1_firstSteady_37 : decode cX1_firstSteady 37 = .ok (.getfield 9, 3) := by decide +kernel
theorem dX1_firstSteady_4 : decode cX1_firstSteady 4 = .ok (.lstore_n 3, 1) := by decide +kernel
theorem dX1_firstSteady_40 : decode cX1_firstSteady 40 = .ok (.if_icmp .ge 38, 3) := by decide +kernel
theorem dX1_firstSteady_5 : decode cX1_firstSteady 5 = .ok (.lload_n 1, 1) := by decide +kernel
theorem dX1_firstSteady_6 : decode cX1_firstSteady 6 = .ok (.lstore 5, 2) := by decide +kernel
theorem dX1_firstSteady_78 : decode cX1_firstSteady 78 = .ok (.lload 9, 2) := by decide +kernel
theorem dX1_firstSteady_8 : decode cX1_firstSteady 8 = .ok (.lconst 0, 1) := by decide +kernel
theorem dX1_firstSteady_80 : decode cX1_firstSteady 80 = .ok (.lload 5, 2) := by decide +kernel
theorem dX1_firstSteady_82 : decode cX1_firstSteady 82 = .ok (.lcmp, 1) := by decide +kernel
theorem dX1_firstSteady_83 : decode cX1_firstSteady 83 = .ok (.ifCond .ne 6, 3) := by decide +kernel
theorem dX1_firstSteady_86 : decode cX1_firstSteady 86 = .ok (.lload 5, 2) := by decide +kernel
theorem dX1_firstSteady_88 : decode cX1_firstSteady 88 = .ok (.lreturn, 1) := by decide +kernel
theorem dX1_firstSteady_9 : decode cX1_firstSteady 9 = .ok (.lstore 7, 2) := by decide +kernel
theorem dX1_first_0 : decode cX1_first 0 = .ok (.lload_n 2, 1) := by decide +kernel
theorem dX1_first_1 : decode cX1_first 1 = .ok (.lstore 4, 2) := by decide +kernel
theorem dX1_first_10 : decode cX1_first 10 = .ok (.ifCond .ge 24, 3) := by decide +kernel
theorem dX1_first_3 : decode cX1_first 3 = .ok (.lload 4, 2) := by decide +kernel
theorem dX1_first_34 : decode cX1_first 34 = .ok (.aload_n 0, 1) := by decide +kernel
theorem dX1_first_35 : decode cX1_first 35 = .ok (.invokevirtual 76, 3) := by decide +kernel
theorem dX1_first_38 : decode cX1_first 38 = .ok (.lconst 0, 1) := by decide +kernel
theorem dX1_first_39 : decode cX1_first 39 = .ok (.lcmp, 1) := by decide +kernel
theorem dX1_first_40 : decode cX1_first 40 = .ok (.ifCond .ne 9, 3) := by decide +kernel
theorem dX1_first_49 : decode cX1_first 49 = .ok (.aload_n 0, 1) := by decide +kernel
theorem dX1_first_5 : decode cX1_first 5 = .ok (.aload_n 0, 1) := by decide +kernel
theorem dX1_first_50 : decode cX1_first 50 = .ok (.lload_n 2, 1) := by decide +kernel
theorem dX1_first_51 : decode cX1_first 51 = .ok (.aload_n 0, 1) := by decide +kernel
theorem dX1_first_52 : decode cX1_first 52 = .ok (.getfield 15, 3) := by decide +kernel
theorem dX1_first_55 : decode cX1_first 55 = .ok (.invokestatic 82, 3) := by decide +kernel
theorem dX1_first_58 : decode cX1_first 58 = .ok (.invokevirtual 85, 3) := by decide +kernel
theorem dX1_first_6 : decode cX1_first 6 = .ok (.getfield 15, 3) := by decide +kernel
theorem dX1_first_61 : decode cX1_first 61 = .ok (.lreturn, 1) := by decide +kernel
theorem dX1_first_9 : decode cX1_first 9 = .ok (.lcmp, 1) := by decide +kernel
theorem dX1_howOften_0 : decode cX1_howOften 0 = .ok (.aload_n 0, 1) := by decide +kernel
theorem dX1_howOften_1 : decode cX1_howOften 1 = .ok (.invokevirtual 51, 3) := by decide +kernel
theorem dX1_howOften_10 : decode cX1_howOften 10 = .ok (.iload 4, 2) := by decide +kernel
theorem dX1_howOften_12 : decode cX1_howOften 12 = .ok (.iload_n 1, 1) := by decide +kernel
theorem dX1_howOften_13 : decode cX1_howOften 13 = .ok (.if_icmp .ge 61, 3) := by decide +kernel
theorem dX1_howOften_16 : decode cX1_howOften 16 = .ok (.lconst 1, 1) := by decide +kernel
theorem dX1_howOften_17 : decode cX1_howOften 17 = .ok (.lstore 5, 2) := by decide +kernel
theorem dX1_howOften_19 : decode cX1_howOften 19 = .ok (.iconst 0, 1) := by decide +kernel
theorem dX1_howOften_20 : decode cX1_howOften 20 = .ok (.istore 7, 2) := by decide +kernel
theorem dX1_howOften_22 : decode cX1_howOften 22 = .ok (.iload 7, 2) := by decide +kernel
theorem dX1_howOften_24 : decode cX1_howOften 24 = .ok (.aload_n 0, 1) := by decide +kernel
theorem dX1_howOften_25 : decode cX1_howOften 25 = .ok (.getfield 9, 3) := by decide +kernel
theorem dX1_howOften_28 : decode cX1_howOften 28 = .ok (.if_icmp .ge 35, 3) := by decide +kernel
theorem dX1_howOften_4 : decode cX1_howOften 4 = .ok (.istore_n 1, 1) := by decide +kernel
theorem dX1_howOften_5 : decode cX1_howOften 5 = .ok (.lconst 0, 1) := by decide +kernel
theorem dX1_howOften_6 : decode cX1_howOften 6 = .ok (.lstore_n 2, 1) := by decide +kernel
theorem dX1_howOften_63 : decode cX1_howOften 63 = .ok (.lload_n 2, 1) := by decide +kernel
theorem dX1_howOften_64 : decode cX1_howOften 64 = .ok (.lload 5, 2) := by decide +kernel
theorem dX1_howOften_66 : decode cX1_howOften 66 = .ok (.ladd, 1) := by decide +kernel
theorem dX1_howOften_67 : decode cX1_howOften 67 = .ok (.lstore_n 2, 1) := by decide +kernel
theorem dX1_howOften_68 : decode cX1_howOften 68 = .ok (.iinc 4 1, 3) := by decide +kernel
theorem dX1_howOften_7 : decode cX1_howOften 7 = .ok (.iconst 0, 1) := by decide +kernel
theorem dX1_howOften_71 : decode cX1_howOften 71 = .ok (.goto (-61), 3) := by decide +kernel
theorem dX1_howOften_74 : decode cX1_howOften 74 = .ok (.lload_n 2, 1) := by decide +kernel
theorem dX1_howOften_75 : decode cX1_howOften 75 = .ok (.lreturn, 1) := by decide +kernel
theorem dX1_howOften_8 : decode cX1_howOften 8 = .ok (.istore 4, 2) := by decide +kernel
theorem dX1_look_0 : decode cX1_look 0 = .ok (.aload_n 0, 1) := by decide +kernel
theorem dX1_look_1 : decode cX1_look 1 = .ok (.aload_n 1, 1) := by decide +kernel
theorem dX1_look_10 : decode cX1_look 10 = .ok (.iconst 0, 1) := by decide +kernel
theorem dX1_look_11 : decode cX1_look 11 = .ok (.putfield 9, 3) := by decide +kernel
theorem dX1_look_14 : decode cX1_look 14 = .ok (.iconst 0, 1) := by decide +kernel
theorem dX1_look_15 : decode cX1_look 15 = .ok (.istore_n 2, 1) := by decide +kernel
theorem dX1_look_16 : decode cX1_look 16 = .ok (.iload_n 2, 1) := by decide +kernel
theorem dX1_look_17 : decode cX1_look 17 = .ok (.iconst 4, 1) := by decide +kernel
theorem dX1_look_18 : decode cX1_look 18 = .ok (.if_icmp .ge 58, 3) := by decide +kernel
theorem dX1_look_2 : decode cX1_look 2 = .ok (.invokevirtual 26, 3) := by decide +kernel
theorem dX1_look_21 : decode cX1_look 21 = .ok (.aload_n 1, 1) := by decide +kernel
theorem dX1_look_22 : decode cX1_look 22 = .ok (.iload_n 2, 1) := by decide +kernel
theorem dX1_look_23 : decode cX1_look 23 = .ok (.invokevirtual 31, 3) := by decide +kernel
theorem dX1_look_26 : decode cX1_look 26 = .ok (.astore_n 3, 1) := by decide +kernel
theorem dX1_look_27 : decode cX1_look 27 = .ok (.aload_n 3, 1) := by decide +kernel
theorem dX1_look_28 : decode cX1_look 28 = .ok (.ifnull 42, 3) := by decide +kernel
theorem dX1_look_5 : decode cX1_look 5 = .ok (.i2l, 1) := by decide +kernel
theorem dX1_look_6 : decode cX1_look 6 = .ok (.putfield 15, 3) := by decide +kernel
theorem dX1_look_70 : decode cX1_look 70 = .ok (.iinc 2 1, 3) := by decide +kernel
theorem dX1_look_73 : decode cX1_look 73 = .ok (.goto (-57), 3) := by decide +kernel
theorem dX1_look_76 : decode cX1_look 76 = .ok (.return_, 1) := by decide +kernel
theorem dX1_look_9 : decode cX1_look 9 = .ok (.aload_n 0, 1) := by decide +kernel
theorem dX1_sharedTicks_0 : decode cX1_sharedTicks 0 = .ok (.lconst 1, 1) := by decide +kernel
theorem dX1_sharedTicks_1 : decode cX1_sharedTicks 1 = .ok (.lstore_n 1, 1) := by decide +kernel
theorem dX1_sharedTicks_2 : decode cX1_sharedTicks 2 = .ok (.iconst 0, 1) := by decide +kernel
theorem dX1_sharedTicks_3 : decode cX1_sharedTicks 3 = .ok (.istore_n 3, 1) := by decide +kernel
theorem dX1_sharedTicks_4 : decode cX1_sharedTicks 4 = .ok (.iload_n 3, 1) := by decide +kernel
theorem dX1_sharedTicks_5 : decode cX1_sharedTicks 5 = .ok (.aload_n 0, 1) := by decide +kernel
theorem dX1_sharedTicks_6 : decode cX1_sharedTicks 6 = .ok (.getfield 9, 3) := by decide +kernel
theorem dX1_sharedTicks_60 : decode cX1_sharedTicks 60 = .ok (.lload_n 1, 1) := by decide +kernel
theorem dX1_sharedTicks_61 : decode cX1_sharedTicks 61 = .ok (.l2i, 1) := by decide +kernel
theorem dX1_sharedTicks_62 : decode cX1_sharedTicks 62 = .ok (.ireturn, 1) := by decide +kernel
theorem dX1_sharedTicks_9 : decode cX1_sharedTicks 9 = .ok (.if_icmp .ge 51, 3) := by decide +kernel
theorem dX2_forget_0 : decode cX2_forget 0 = .ok (.aload_n 0, 1) := by decide +kernel
theorem dX2_forget_1 : decode cX2_forget 1 = .ok (.iconst 0, 1) := by decide +kernel
theorem dX2_forget_2 : decode cX2_forget 2 = .ok (.putfield 18, 3) := by decide +kernel
theorem dX2_forget_5 : decode cX2_forget 5 = .ok (.return_, 1) := by decide +kernel
theorem dX2_steady_0 : decode cX2_steady 0 = .ok (.aload_n 0, 1) := by decide +kernel
theorem dX2_steady_1 : decode cX2_steady 1 = .ok (.getfield 18, 3) := by decide +kernel
theorem dX2_steady_22 : decode cX2_steady 22 = .ok (.ireturn, 1) := by decide +kernel
theorem dX2_steady_4 : decode cX2_steady 4 = .ok (.ifCond .ne 7, 3) := by decide +kernel
theorem dX2_steady_7 : decode cX2_steady 7 = .ok (.iconst 0, 1) := by decide +kernel
theorem dX2_steady_8 : decode cX2_steady 8 = .ok (.goto 14, 3) := by decide +kernel
theorem dX2_tell_0 : decode cX2_tell 0 = .ok (.iconst 0, 1) := by decide +kernel
theorem dX2_tell_1 : decode cX2_tell 1 = .ok (.istore_n 3, 1) := by decide +kernel
theorem dX2_tell_114 : decode cX2_tell 114 = .ok (.aload_n 0, 1) := by decide +kernel
theorem dX2_tell_115 : decode cX2_tell 115 = .ok (.getfield 9, 3) := by decide +kernel
theorem dX2_tell_118 : decode cX2_tell 118 = .ok (.iload_n 3, 1) := by decide +kernel
theorem dX2_tell_119 : decode cX2_tell 119 = .ok (.iload_n 1, 1) := by decide +kernel
theorem dX2_tell_120 : decode cX2_tell 120 = .ok (.iastore, 1) := by decide +kernel
theorem dX2_tell_121 : decode cX2_tell 121 = .ok (.aload_n 0, 1) := by decide +kernel
theorem dX2_tell_122 : decode cX2_tell 122 = .ok (.getfield 15, 3) := by decide +kernel
theorem dX2_tell_125 : decode cX2_tell 125 = .ok (.iload_n 3, 1) := by decide +kernel
theorem dX2_tell_126 : decode cX2_tell 126 = .ok (.iload_n 2, 1) := by decide +kernel
theorem dX2_tell_127 : decode cX2_tell 127 = .ok (.iastore, 1) := by decide +kernel
theorem dX2_tell_128 : decode cX2_tell 128 = .ok (.aload_n 0, 1) := by decide +kernel
theorem dX2_tell_129 : decode cX2_tell 129 = .ok (.dup, 1) := by decide +kernel
theorem dX2_tell_130 : decode cX2_tell 130 = .ok (.getfield 18, 3) := by decide +kernel
theorem dX2_tell_133 : decode cX2_tell 133 = .ok (.iconst 1, 1) := by decide +kernel
theorem dX2_tell_134 : decode cX2_tell 134 = .ok (.iadd, 1) := by decide +kernel
theorem dX2_tell_135 : decode cX2_tell 135 = .ok (.putfield 18, 3) := by decide +kernel
theorem dX2_tell_138 : decode cX2_tell 138 = .ok (.iconst 1, 1) := by decide +kernel
theorem dX2_tell_139 : decode cX2_tell 139 = .ok (.ireturn, 1) := by decide +kernel
theorem dX2_tell_2 : decode cX2_tell 2 = .ok (.iload_n 3, 1) := by decide +kernel
theorem dX2_tell_26 : decode cX2_tell 26 = .ok (.iload_n 3, 1) := by decide +kernel
theorem dX2_tell_27 : decode cX2_tell 27 = .ok (.aload_n 0, 1) := by decide +kernel
theorem dX2_tell_28 : decode cX2_tell 28 = .ok (.getfield 18, 3) := by decide +kernel
theorem dX2_tell_3 : decode cX2_tell 3 = .ok (.aload_n 0, 1) := by decide +kernel
theorem dX2_tell_31 : decode cX2_tell 31 = .ok (.if_icmp .ge 22, 3) := by decide +kernel
theorem dX2_tell_4 : decode cX2_tell 4 = .ok (.getfield 18, 3) := by decide +kernel
theorem dX2_tell_53 : decode cX2_tell 53 = .ok (.aload_n 0, 1) := by decide +kernel
theorem dX2_tell_54 : decode cX2_tell 54 = .ok (.getfield 18, 3) := by decide +kernel
theorem dX2_tell_57 : decode cX2_tell 57 = .ok (.bipush 12, 2) := by decide +kernel
theorem dX2_tell_59 : decode cX2_tell 59 = .ok (.if_icmp .lt 5, 3) := by decide +kernel
theorem dX2_tell_64 : decode cX2_tell 64 = .ok (.aload_n 0, 1) := by decide +kernel
theorem dX2_tell_65 : decode cX2_tell 65 = .ok (.getfield 18, 3) := by decide +kernel
theorem dX2_tell_68 : decode cX2_tell 68 = .ok (.istore 4, 2) := by decide +kernel
theorem dX2_tell_7 : decode cX2_tell 7 = .ok (.if_icmp .ge 19, 3) := by decide +kernel
theorem dX2_tell_70 : decode cX2_tell 70 = .ok (.iload 4, 2) := by decide +kernel
theorem dX2_tell_72 : decode cX2_tell 72 = .ok (.iload_n 3, 1) := by decide +kernel
theorem dX2_tell_73 : decode cX2_tell 73 = .ok (.if_icmp .le 41, 3) := by decide +kernel
theorem dX2_wayTo_0 : decode cX2_wayTo 0 = .ok (.lconst 0, 1) := by decide +kernel
theorem dX2_wayTo_1 : decode cX2_wayTo 1 = .ok (.lstore_n 3, 1) := by decide +kernel
theorem dX2_wayTo_11 : decode cX2_wayTo 11 = .ok (.iload 8, 2) := by decide +kernel
theorem dX2_wayTo_13 : decode cX2_wayTo 13 = .ok (.aload_n 0, 1) := by decide +kernel
theorem dX2_wayTo_14 : decode cX2_wayTo 14 = .ok (.getfield 18, 3) := by decide +kernel
theorem dX2_wayTo_17 : decode cX2_wayTo 17 = .ok (.if_icmp .ge 59, 3) := by decide +kernel
theorem dX2_wayTo_2 : decode cX2_wayTo 2 = .ok (.lconst 0, 1) := by decide +kernel
theorem dX2_wayTo_3 : decode cX2_wayTo 3 = .ok (.lstore 5, 2) := by decide +kernel
theorem dX2_wayTo_5 : decode cX2_wayTo 5 = .ok (.iconst 1, 1) := by decide +kernel
theorem dX2_wayTo_6 : decode cX2_wayTo 6 = .ok (.istore 7, 2) := by decide +kernel
theorem dX2_wayTo_76 : decode cX2_wayTo 76 = .ok (.lload_n 3, 1) := by decide +kernel
theorem dX2_wayTo_77 : decode cX2_wayTo 77 = .ok (.lload_n 1, 1) := by decide +kernel
theorem dX2_wayTo_78 : decode cX2_wayTo 78 = .ok (.lload 5, 2) := by decide +kernel
theorem dX2_wayTo_8 : decode cX2_wayTo 8 = .ok (.iconst 0, 1) := by decide +kernel
theorem dX2_wayTo_80 : decode cX2_wayTo 80 = .ok (.lsub, 1) := by decide +kernel
theorem dX2_wayTo_81 : decode cX2_wayTo 81 = .ok (.iload 7, 2) := by decide +kernel
theorem dX2_wayTo_83 : decode cX2_wayTo 83 = .ok (.i2l, 1) := by decide +kernel
theorem dX2_wayTo_84 : decode cX2_wayTo 84 = .ok (.lmul, 1) := by decide +kernel
theorem dX2_wayTo_85 : decode cX2_wayTo 85 = .ok (.ladd, 1) := by decide +kernel
theorem dX2_wayTo_86 : decode cX2_wayTo 86 = .ok (.lreturn, 1) := by decide +kernel
theorem dX2_wayTo_9 : decode cX2_wayTo 9 = .ok (.istore 8, 2) := by decide +kernel
theorem dX7_add_0 : decode cX7_add 0 = .ok (.aload_n 0, 1) := by decide +kernel
theorem dX7_add_1 : decode cX7_add 1 = .ok (.getfield 15, 3) := by decide +kernel
theorem dX7_add_10 : decode cX7_add 10 = .ok (.arraylength, 1) := by decide +kernel
theorem dX7_add_11 : decode cX7_add 11 = .ok (.if_icmp .le 5, 3) := by decide +kernel
theorem dX7_add_16 : decode cX7_add 16 = .ok (.bipush 24, 2) := by decide +kernel
theorem dX7_add_18 : decode cX7_add 18 = .ok (.istore_n 2, 1) := by decide +kernel
theorem dX7_add_19 : decode cX7_add 19 = .ok (.iload_n 2, 1) := by decide +kernel
theorem dX7_add_20 : decode cX7_add 20 = .ok (.ifCond .lt 35, 3) := by decide +kernel
theorem dX7_add_23 : decode cX7_add 23 = .ok (.aload_n 0, 1) := by decide +kernel
theorem dX7_add_24 : decode cX7_add 24 = .ok (.getfield 9, 3) := by decide +kernel
theorem dX7_add_27 : decode cX7_add 27 = .ok (.aload_n 0, 1) := by decide +kernel
theorem dX7_add_28 : decode cX7_add 28 = .ok (.getfield 15, 3) := by decide +kernel
theorem dX7_add_31 : decode cX7_add 31 = .ok (.iload_n 1, 1) := by decide +kernel
theorem dX7_add_32 : decode cX7_add 32 = .ok (.iload_n 2, 1) := by decide +kernel
theorem dX7_add_33 : decode cX7_add 33 = .ok (.iushr, 1) := by decide +kernel
theorem dX7_add_34 : decode cX7_add 34 = .ok (.sipush 255, 3) := by decide +kernel
theorem dX7_add_37 : decode cX7_add 37 = .ok (.iand, 1) := by decide +kernel
theorem dX7_add_38 : decode cX7_add 38 = .ok (.iastore, 1) := by decide +kernel
theorem dX7_add_39 : decode cX7_add 39 = .ok (.aload_n 0, 1) := by decide +kernel
theorem dX7_add_4 : decode cX7_add 4 = .ok (.iconst 4, 1) := by decide +kernel
theorem dX7_add_40 : decode cX7_add 40 = .ok (.dup, 1) := by decide +kernel
theorem dX7_add_41 : decode cX7_add 41 = .ok (.getfield 15, 3) := by decide +kernel
theorem dX7_add_44 : decode cX7_add 44 = .ok (.iconst 1, 1) := by decide +kernel
theorem dX7_add_45 : decode cX7_add 45 = .ok (.iadd, 1) := by decide +kernel
theorem dX7_add_46 : decode cX7_add 46 = .ok (.putfield 15, 3) := by decide +kernel
theorem dX7_add_49 : decode cX7_add 49 = .ok (.iinc 2 (-8), 3) := by decide +kernel
theorem dX7_add_5 : decode cX7_add 5 = .ok (.iadd, 1) := by decide +kernel
theorem dX7_add_52 : decode cX7_add 52 = .ok (.goto (-33), 3) := by decide +kernel
theorem dX7_add_55 : decode cX7_add 55 = .ok (.aload_n 0, 1) := by decide +kernel
theorem dX7_add_56 : decode cX7_add 56 = .ok (.getfield 15, 3) := by decide +kernel
theorem dX7_add_59 : decode cX7_add 59 = .ok (.ireturn, 1) := by decide +kernel
theorem dX7_add_6 : decode cX7_add 6 = .ok (.aload_n 0, 1) := by decide +kernel
theorem dX7_add_7 : decode cX7_add 7 = .ok (.getfield 9, 3) := by decide +kernel
theorem dX7_firstWrong_0 : decode cX7_firstWrong 0 = .ok (.iconst 0, 1) := by decide +kernel
theorem dX7_firstWrong_1 : decode cX7_firstWrong 1 = .ok (.istore_n 1, 1) := by decide +kernel
theorem dX7_firstWrong_10 : decode cX7_firstWrong 10 = .ok (.aload_n 0, 1) := by decide +kernel
theorem dX7_firstWrong_11 : decode cX7_firstWrong 11 = .ok (.getfield 15, 3) := by decide +kernel
theorem dX7_firstWrong_14 : decode cX7_firstWrong 14 = .ok (.if_icmp .ge 34, 3) := by decide +kernel
theorem dX7_firstWrong_2 : decode cX7_firstWrong 2 = .ok (.aload_n 0, 1) := by decide +kernel
theorem dX7_firstWrong_3 : decode cX7_firstWrong 3 = .ok (.iconst 0, 1) := by decide +kernel
theorem dX7_firstWrong_4 : decode cX7_firstWrong 4 = .ok (.putfield 19, 3) := by decide +kernel
theorem dX7_firstWrong_48 : decode cX7_firstWrong 48 = .ok (.aload_n 0, 1) := by decide +kernel
theorem dX7_firstWrong_49 : decode cX7_firstWrong 49 = .ok (.getfield 15, 3) := by decide +kernel
theorem dX7_firstWrong_52 : decode cX7_firstWrong 52 = .ok (.bipush 60, 2) := by decide +kernel
theorem dX7_firstWrong_54 : decode cX7_firstWrong 54 = .ok (.if_icmp .le 6, 3) := by decide +kernel
theorem dX7_firstWrong_60 : decode cX7_firstWrong 60 = .ok (.iload_n 1, 1) := by decide +kernel
theorem dX7_firstWrong_61 : decode cX7_firstWrong 61 = .ok (.iconst 1, 1) := by decide +kernel
theorem dX7_firstWrong_62 : decode cX7_firstWrong 62 = .ok (.if_icmp .ne 14, 3) := by decide +kernel
theorem dX7_firstWrong_7 : decode cX7_firstWrong 7 = .ok (.iconst 0, 1) := by decide +kernel
theorem dX7_firstWrong_76 : decode cX7_firstWrong 76 = .ok (.aload_n 0, 1) := by decide +kernel
theorem dX7_firstWrong_77 : decode cX7_firstWrong 77 = .ok (.getfield 15, 3) := by decide +kernel
theorem dX7_firstWrong_8 : decode cX7_firstWrong 8 = .ok (.istore_n 2, 1) := by decide +kernel
theorem dX7_firstWrong_80 : decode cX7_firstWrong 80 = .ok (.ireturn, 1) := by decide +kernel
theorem dX7_firstWrong_9 : decode cX7_firstWrong 9 = .ok (.iload_n 2, 1) := by decide +kernel
theorem dX7_keepFirst_0 : decode cX7_keepFirst 0 = .ok (.iload_n 1, 1) := by decide +kernel
theorem dX7_keepFirst_1 : decode cX7_keepFirst 1 = .ok (.ifCond .lt 11, 3) := by decide +kernel
theorem dX7_keepFirst_12 : decode cX7_keepFirst 12 = .ok (.iconst 0, 1) := by decide +kernel
theorem dX7_keepFirst_13 : decode cX7_keepFirst 13 = .ok (.ireturn, 1) := by decide +kernel
theorem dX7_keepFirst_14 : decode cX7_keepFirst 14 = .ok (.aload_n 0, 1) := by decide +kernel
theorem dX7_keepFirst_15 : decode cX7_keepFirst 15 = .ok (.iload_n 1, 1) := by decide +kernel
theorem dX7_keepFirst_16 : decode cX7_keepFirst 16 = .ok (.putfield 15, 3) := by decide +kernel
theorem dX7_keepFirst_19 : decode cX7_keepFirst 19 = .ok (.iconst 1, 1) := by decide +kernel
theorem dX7_keepFirst_20 : decode cX7_keepFirst 20 = .ok (.ireturn, 1) := by decide +kernel
theorem dX7_keepFirst_4 : decode cX7_keepFirst 4 = .ok (.iload_n 1, 1) := by decide +kernel
theorem dX7_keepFirst_5 : decode cX7_keepFirst 5 = .ok (.aload_n 0, 1) := by decide +kernel
theorem dX7_keepFirst_6 : decode cX7_keepFirst 6 = .ok (.getfield 15, 3) := by decide +kernel
theorem dX7_keepFirst_9 : decode cX7_keepFirst 9 = .ok (.if_icmp .le 5, 3) := by decide +kernel
theorem dX7_putInto_0 : decode cX7_putInto 0 = .ok (.aload_n 0, 1) := by decide +kernel
theorem dX7_putInto_1 : decode cX7_putInto 1 = .ok (.invokevirtual 38, 3) := by decide +kernel
theorem dX7_putInto_17 : decode cX7_putInto 17 = .ok (.iconst (-1), 1) := by decide +kernel
theorem dX7_putInto_18 : decode cX7_putInto 18 = .ok (.iload_n 2, 1) := by decide +kernel
theorem dX7_putInto_19 : decode cX7_putInto 19 = .ok (.isub, 1) := by decide +kernel
theorem dX7_putInto_20 : decode cX7_putInto 20 = .ok (.istore_n 3, 1) := by decide +kernel
theorem dX7_putInto_21 : decode cX7_putInto 21 = .ok (.aload_n 0, 1) := by decide +kernel
theorem dX7_putInto_22 : decode cX7_putInto 22 = .ok (.iconst 0, 1) := by decide +kernel
theorem dX7_putInto_23 : decode cX7_putInto 23 = .ok (.putfield 15, 3) := by decide +kernel
theorem dX7_putInto_26 : decode cX7_putInto 26 = .ok (.iload_n 3, 1) := by decide +kernel
theorem dX7_putInto_27 : decode cX7_putInto 27 = .ok (.ifCond .ne 18, 3) := by decide +kernel
theorem dX7_putInto_4 : decode cX7_putInto 4 = .ok (.istore_n 2, 1) := by decide +kernel
theorem dX7_putInto_45 : decode cX7_putInto 45 = .ok (.iload_n 3, 1) := by decide +kernel
theorem dX7_putInto_46 : decode cX7_putInto 46 = .ok (.ireturn, 1) := by decide +kernel
theorem dX7_putInto_5 : decode cX7_putInto 5 = .ok (.iload_n 2, 1) := by decide +kernel
theorem dX7_putInto_6 : decode cX7_putInto 6 = .ok (.iconst (-1), 1) := by decide +kernel
theorem dX7_putInto_7 : decode cX7_putInto 7 = .ok (.if_icmp .ne 10, 3) := by decide +kernel
theorem dX8_at_0 : decode cX8_at 0 = .ok (.aload_n 0, 1) := by decide +kernel
theorem dX8_at_1 : decode cX8_at 1 = .ok (.iload_n 1, 1) := by decide +kernel
theorem dX8_at_17 : decode cX8_at 17 = .ok (.iconst (-1), 1) := by decide +kernel
theorem dX8_at_18 : decode cX8_at 18 = .ok (.ireturn, 1) := by decide +kernel
theorem dX8_at_2 : decode cX8_at 2 = .ok (.invokevirtual 19, 3) := by decide +kernel
theorem dX8_at_5 : decode cX8_at 5 = .ok (.ifCond .eq 12, 3) := by decide +kernel
theorem dX9_empty_0 : decode cX9_empty 0 = .ok (.aload_n 0, 1) := by decide +kernel
theorem dX9_empty_1 : decode cX9_empty 1 = .ok (.getfield 23, 3) := by decide +kernel
theorem dX9_empty_10 : decode cX9_empty 10 = .ok (.iconst 0, 1) := by decide +kernel
theorem dX9_empty_11 : decode cX9_empty 11 = .ok (.istore_n 2, 1) := by decide +kernel
theorem dX9_empty_12 : decode cX9_empty 12 = .ok (.iload_n 2, 1) := by decide +kernel
theorem dX9_empty_13 : decode cX9_empty 13 = .ok (.iconst 2, 1) := by decide +kernel
theorem dX9_empty_14 : decode cX9_empty 14 = .ok (.if_icmp .ge 18, 3) := by decide +kernel
theorem dX9_empty_17 : decode cX9_empty 17 = .ok (.aload_n 0, 1) := by decide +kernel
theorem dX9_empty_18 : decode cX9_empty 18 = .ok (.getfield 11, 3) := by decide +kernel
theorem dX9_empty_21 : decode cX9_empty 21 = .ok (.iload_n 2, 1) := by decide +kernel
theorem dX9_empty_22 : decode cX9_empty 22 = .ok (.aaload, 1) := by decide +kernel
theorem dX9_empty_23 : decode cX9_empty 23 = .ok (.invokevirtual 33, 3) := by decide +kernel
theorem dX9_empty_26 : decode cX9_empty 26 = .ok (.iinc 2 1, 3) := by decide +kernel
theorem dX9_empty_29 : decode cX9_empty 29 = .ok (.goto (-17), 3) := by decide +kernel
theorem dX9_empty_32 : decode cX9_empty 32 = .ok (.iload_n 1, 1) := by decide +kernel
theorem dX9_empty_33 : decode cX9_empty 33 = .ok (.ireturn, 1) := by decide +kernel
theorem dX9_empty_4 : decode cX9_empty 4 = .ok (.istore_n 1, 1) := by decide +kernel
theorem dX9_empty_5 : decode cX9_empty 5 = .ok (.aload_n 0, 1) := by decide +kernel
theorem dX9_empty_6 : decode cX9_empty 6 = .ok (.iconst 0, 1) := by decide +kernel
theorem dX9_empty_7 : decode cX9_empty 7 = .ok (.putfield 23, 3) := by decide +kernel
theorem dX9_find_0 : decode cX9_find 0 = .ok (.iload_n 1, 1) := by decide +kernel
theorem dX9_find_1 : decode cX9_find 1 = .ok (.ifCond .lt 25, 3) := by decide +kernel
theorem dX9_find_26 : decode cX9_find 26 = .ok (.aconst_null, 1) := by decide +kernel
theorem dX9_find_27 : decode cX9_find 27 = .ok (.areturn, 1) := by decide +kernel
theorem dX9_find_4 : decode cX9_find 4 = .ok (.iload_n 1, 1) := by decide +kernel
theorem dX9_find_5 : decode cX9_find 5 = .ok (.aload_n 0, 1) := by decide +kernel
theorem dX9_find_6 : decode cX9_find 6 = .ok (.getfield 23, 3) := by decide +kernel
theorem dX9_find_9 : decode cX9_find 9 = .ok (.if_icmp .ge 17, 3) := by decide +kernel
theorem dX9_heardInAll_0 : decode cX9_heardInAll 0 = .ok (.iconst 0, 1) := by decide +kernel
theorem dX9_heardInAll_1 : decode cX9_heardInAll 1 = .ok (.istore_n 3, 1) := by decide +kernel
theorem dX9_heardInAll_11 : decode cX9_heardInAll 11 = .ok (.if_icmp .ge 24, 3) := by decide +kernel
theorem dX9_heardInAll_2 : decode cX9_heardInAll 2 = .ok (.iconst 0, 1) := by decide +kernel
theorem dX9_heardInAll_3 : decode cX9_heardInAll 3 = .ok (.istore 4, 2) := by decide +kernel
theorem dX9_heardInAll_35 : decode cX9_heardInAll 35 = .ok (.iload_n 3, 1) := by decide +kernel
theorem dX9_heardInAll_36 : decode cX9_heardInAll 36 = .ok (.ireturn, 1) := by decide +kernel
theorem dX9_heardInAll_5 : decode cX9_heardInAll 5 = .ok (.iload 4, 2) := by decide +kernel
theorem dX9_heardInAll_7 : decode cX9_heardInAll 7 = .ok (.aload_n 0, 1) := by decide +kernel
theorem dX9_heardInAll_8 : decode cX9_heardInAll 8 = .ok (.getfield 23, 3) := by decide +kernel
theorem dX9_motorOf_0 : decode cX9_motorOf 0 = .ok (.aload_n 0, 1) := by decide +kernel
theorem dX9_motorOf_1 : decode cX9_motorOf 1 = .ok (.getfield 11, 3) := by decide +kernel
theorem dX9_motorOf_12 : decode cX9_motorOf 12 = .ok (.iconst 1, 1) := by decide +kernel
theorem dX9_motorOf_13 : decode cX9_motorOf 13 = .ok (.aaload, 1) := by decide +kernel
theorem dX9_motorOf_14 : decode cX9_motorOf 14 = .ok (.areturn, 1) := by decide +kernel
theorem dX9_motorOf_4 : decode cX9_motorOf 4 = .ok (.iload_n 1, 1) := by decide +kernel
theorem dX9_motorOf_5 : decode cX9_motorOf 5 = .ok (.ifCond .ne 7, 3) := by decide +kernel
theorem dX9_motorOf_8 : decode cX9_motorOf 8 = .ok (.iconst 0, 1) := by decide +kernel
theorem dX9_motorOf_9 : decode cX9_motorOf 9 = .ok (.goto 4, 3) := by decide +kernel
theorem dX9_steady_0 : decode cX9_steady 0 = .ok (.aload_n 0, 1) := by decide +kernel
theorem dX9_steady_1 : decode cX9_steady 1 = .ok (.getfield 11, 3) := by decide +kernel
theorem dX9_steady_10 : decode cX9_steady 10 = .ok (.getfield 11, 3) := by decide +kernel
theorem dX9_steady_13 : decode cX9_steady 13 = .ok (.iconst 1, 1) := by decide +kernel
theorem dX9_steady_14 : decode cX9_steady 14 = .ok (.aaload, 1) := by decide +kernel
theorem dX9_steady_15 : decode cX9_steady 15 = .ok (.invokevirtual 36, 3) := by decide +kernel
theorem dX9_steady_18 : decode cX9_steady 18 = .ok (.invokestatic 40, 3) := by decide +kernel
theorem dX9_steady_21 : decode cX9_steady 21 = .ok (.ireturn, 1) := by decide +kernel
theorem dX9_steady_4 : decode cX9_steady 4 = .ok (.iconst 0, 1) := by decide +kernel
theorem dX9_steady_5 : decode cX9_steady 5 = .ok (.aaload, 1) := by decide +kernel
theorem dX9_steady_6 : decode cX9_steady 6 = .ok (.invokevirtual 36, 3) := by decide +kernel
theorem dX9_steady_9 : decode cX9_steady 9 = .ok (.aload_n 0, 1) := by decide +kernel
theorem dm_X7_firstWrong : yX7_firstWrong.cls = RX7 ∧ yX7_firstWrong.cls ≠ "java/lang/invoke/MethodHandle" ∧ yX7_firstWrong.cls ≠ "java/lang/invoke/VarHandle" ∧ (parseMethodDescriptor yX7_firstWrong.desc).map (fun d => d.parameters.length) = some 0 := by decide +kernel
theorem dm_X8_has : yX8_has.cls = RX8 ∧ yX8_has.cls ≠ "java/lang/invoke/MethodHandle" ∧ yX8_has.cls ≠ "java/lang/invoke/VarHandle" ∧ (parseMethodDescriptor yX8_has.desc).map (fun d => d.parameters.length) = some 1 := by decide +kernel
theorem dm_X2_steady : yX2_steady.cls = RX2 ∧ yX2_steady.cls ≠ "java/lang/invoke/MethodHandle" ∧ yX2_steady.cls ≠ "java/lang/invoke/VarHandle" ∧ (parseMethodDescriptor yX2_steady.desc).map (fun d => d.parameters.length) = some 0 := by decide +kernel
theorem dm_X2_forget : yX2_forget.cls = RX2 ∧ yX2_forget.cls ≠ "java/lang/invoke/MethodHandle" ∧ yX2_forget.cls ≠ "java/lang/invoke/VarHandle" ∧ (parseMethodDescriptor yX2_forget.desc).map (fun d => d.parameters.length) = some 0 := by decide +kernel
theorem dm_X9_steady : yX9_steady.cls = RX9 ∧ yX9_steady.cls ≠ "java/lang/invoke/MethodHandle" ∧ yX9_steady.cls ≠ "java/lang/invoke/VarHandle" ∧ (parseMethodDescriptor yX9_steady.desc).map (fun d => d.parameters.length) = some 0 := by decide +kernel
theorem dm_X9_find : yX9_find.cls = RX9 ∧ yX9_find.cls ≠ "java/lang/invoke/MethodHandle" ∧ yX9_find.cls ≠ "java/lang/invoke/VarHandle" ∧ (parseMethodDescriptor yX9_find.desc).map (fun d => d.parameters.length) = some 1 := by decide +kernel
theorem dm_X1_sharedTicks : yX1_sharedTicks.cls = RX1 ∧ yX1_sharedTicks.cls ≠ "java/lang/invoke/MethodHandle" ∧ yX1_sharedTicks.cls ≠ "java/lang/invoke/VarHandle" ∧ (parseMethodDescriptor yX1_sharedTicks.desc).map (fun d => d.parameters.length) = some 0 := by decide +kernel
theorem dm_X1_allTicks : yX1_allTicks.cls = RX1 ∧ yX1_allTicks.cls ≠ "java/lang/invoke/MethodHandle" ∧ yX1_allTicks.cls ≠ "java/lang/invoke/VarHandle" ∧ (parseMethodDescriptor yX1_allTicks.desc).map (fun d => d.parameters.length) = some 0 := by decide +kernel
theorem dm_X1_howOften : yX1_howOften.cls = RX1 ∧ yX1_howOften.cls ≠ "java/lang/invoke/MethodHandle" ∧ yX1_howOften.cls ≠ "java/lang/invoke/VarHandle" ∧ (parseMethodDescriptor yX1_howOften.desc).map (fun d => d.parameters.length) = some 0 := by decide +kernel
theorem dm_X1_firstSteady : yX1_firstSteady.cls = RX1 ∧ yX1_firstSteady.cls ≠ "java/lang/invoke/MethodHandle" ∧ yX1_firstSteady.cls ≠ "java/lang/invoke/VarHandle" ∧ (parseMethodDescriptor yX1_firstSteady.desc).map (fun d => d.parameters.length) = some 1 := by decide +kernel
set_option maxHeartbeats 4000000 in
set_option maxRecDepth 100000 in
theorem n_add (l : Launch) (D : va_G) (dA : Nat → ClassId) (b : Nat) (M : zM) (v : Int) (r_v : R32 v) (g0 : M 1 1 = 0) : Met l yX7_add (.code yX7_add cX7_add 3 (some .int) :: zt) (z_rm 0) (va_Pc [.ref (b + 1), .int (iI v)] (zP D dA vwCl (z_tys dA) wC nC b M)) (va_Qi (zQi wC (zms wC [65, 191]) M (fun z M1 => z = 4 ∧ True)) (zB D dA vwCl wC nC b) (zA nC b)) 0 0 (zA nC b) := by
  refine Met.ofW (cc := cX7_add) (maxL := 3) (ret := (some .int)) (by decide) rfl ?_
  intro p e s m args below meth c s₁ B hml hv
  obtain ⟨hargs, hR0, hJ, hK⟩ := hv
  have hx := B.exec
  have hb := B.bytes
  have hr := B.returns
  have hts := atoms_spec (ws := .code yX7_add cX7_add 3 (some .int) :: zt) B.pre
  have hown : s.vm.findClass RX7 = some m.cls := findClass_of_methodNamed B.named
  have hlocks := B.notSynchronized
  have hS : zS D dA vwCl wC nC b (zms wC [65, 191]) M M s.heap := ⟨hR0, hJ, zF_rf _ _⟩
  have hS0 : va_S (zA nC b) s.heap s.heap [] := va_S.rf
  have hl := lv_entry ([.ref (b + 1), .int (iI v)]) (n := 3) (Nat.le_of_ble_eq_true rfl)
  have hent : entryFrame m args 3 = F0 m 0 ((lg_sl ([.ref (b + 1), .int (iI v)]) ++ List.replicate (3 - (lg_sl ([.ref (b + 1), .int (iI v)])).length) Slot.unset).toArray) [] := by rw [hargs]; exact lg_entry_eq m ([.ref (b + 1), .int (iI v)]) 3
  rw [hent]
  generalize (lg_sl ([.ref (b + 1), .int (iI v)]) ++ List.replicate (3 - (lg_sl ([.ref (b + 1), .int (iI v)])).length) Slot.unset).toArray = ls at hl ⊢
  have hl : lv_has ls 3 [(0, .ref (b + 1)), (1, .int (iI v))] := hl
  refine lv_aload_n hx hb dX7_add_0 rfl (lv_at hl 0 rfl) ?_
  refine z_geti hx hb hts (z_memU u7) hown hK.1 hS f7_1 (by decide) (zkd_of (rfl : zcd wC 1 = 1) rfl) (Or.inl (hts _ (z_mem k55))) dX7_add_1 ?_
  refine z_top (show M 1 1 = 0 from by rw [g0]) ?_
  refine z_iconst hx hb dX7_add_4 ?_
  refine z_iadd hx hb dX7_add_5 ?_
  refine z_top (show ((0 + 4) : Int) = 4 from (by decide)) ?_
  refine lv_aload_n hx hb dX7_add_6 rfl (lv_at hl 0 rfl) ?_
  refine z_getr (j2 := 2) hx hb hts (z_memU u7) hown hK.1 hS f7_0 (by decide) (zkd_of (rfl : zcd wC 1 = 1) rfl) (zrf_of (rfl : zcd wC 1 = 1) rfl) (Or.inl (hts _ (z_mem k54))) dX7_add_7 ?_
  refine z_alen (n := 100) hx hb hK.1 (t0 := 0) rfl hS (by decide) (zkd_of (rfl : zcd wC 2 = 2) rfl) (zln_of (rfl : zcd wC 2 = 2) rfl) dX7_add_10 ?_
  refine z_top (show (((100 : Nat) : Int)) = 100 from by decide) ?_
  refine z_icmp_le (tgt := 16) hx hb (by decide) (by decide) dX7_add_11 (by decide) (fun c1 => ?_) (fun c1 => absurd c1 (by decide))
  refine z_bipush hx hb (by decide) dX7_add_16 ?_
  refine lv_istore_n (lv' := [(2, .int (iI 24)), (0, .ref (b + 1)), (1, .int (iI v))]) hx hb dX7_add_18 rfl hl (by decide) rfl (fun ls hl => ?_)
  refine lv_iload_n hx hb dX7_add_19 rfl (lv_at hl 0 rfl) ?_
  refine z_if_lt (tgt := 55) hx hb (by decide) dX7_add_20 (by decide) (fun c2 => absurd c2 (by decide)) (fun c2 => ?_)
  refine lv_aload_n hx hb dX7_add_23 rfl (lv_at hl 1 rfl) ?_
  refine z_getr (j2 := 2) hx hb hts (z_memU u7) hown hK.1 hS f7_0 (by decide) (zkd_of (rfl : zcd wC 1 = 1) rfl) (zrf_of (rfl : zcd wC 1 = 1) rfl) (Or.inl (hts _ (z_mem k54))) dX7_add_24 ?_
  refine lv_aload_n hx hb dX7_add_27 rfl (lv_at hl 1 rfl) ?_
  refine z_geti hx hb hts (z_memU u7) hown hK.1 hS f7_1 (by decide) (zkd_of (rfl : zcd wC 1 = 1) rfl) (Or.inl (hts _ (z_mem k55))) dX7_add_28 ?_
  refine z_top (show M 1 1 = 0 from by rw [g0]) ?_
  refine lv_iload_n hx hb dX7_add_31 rfl (lv_at hl 2 rfl) ?_
  refine lv_iload_n hx hb dX7_add_32 rfl (lv_at hl 0 rfl) ?_
  refine z_iushr hx hb dX7_add_33 (fun z3 r4 e5 => ?_)
  refine z_sipush hx hb (by decide) dX7_add_34 ?_
  refine z_iand hx hb dX7_add_37 (fun z6 r7 e8 => ?_)
  have q9 : (0 : Int) ≤ z6 ∧ z6 ≤ 255 := zand_r (by decide) (by decide) r7 e8
  refine z_iast (n := 100) hx hb hK.1 (t0 := 0) rfl hS hS0 (by decide) (zkd_of (rfl : zcd wC 2 = 2) rfl) (zln_of (rfl : zcd wC 2 = 2) rfl) (by decide) (by decide) (by decide) (zbd_in (rfl : zcd wC 2 = 2) rfl ⟨by omega, by omega⟩) (zms_of (rfl : zcd wC 2 = 2) rfl) dX7_add_38 (fun H locs hS hS0 => ?_)
  obtain ⟨M10, e11⟩ : ∃ M10 : zM, M10 = zup M 2 ((0 : Int).toNat) z6 := ⟨_, rfl⟩
  rw [← e11] at hS
  have J12 := hS.2.1
  refine lv_aload_n hx hb dX7_add_39 rfl (lv_at hl 1 rfl) ?_
  refine lv_dup hx hb dX7_add_40 rfl ?_
  refine z_geti hx hb hts (z_memU u7) hown hK.1 hS f7_1 (by decide) (zkd_of (rfl : zcd wC 1 = 1) rfl) (Or.inl (hts _ (z_mem k55))) dX7_add_41 ?_
  refine z_top (show M10 1 1 = 0 from by rw [e11, zup_n _ _ (by omega), g0]) ?_
  refine z_iconst hx hb dX7_add_44 ?_
  refine z_iadd hx hb dX7_add_45 ?_
  refine z_top (show ((0 + 1) : Int) = 1 from (by decide)) ?_
  refine z_puti hx hb hts (z_memU u7) tyX7 tyX7_ok nmX7 hown hK.1 hS hS0 f7_1 (by decide) (zkd_of (rfl : zcd wC 1 = 1) rfl) (Or.inl (hts _ (z_mem k55))) rfl (z := 1) (by decide +kernel) (zbd_in (rfl : zcd wC 1 = 1) rfl (by decide)) (zms_of (rfl : zcd wC 1 = 1) rfl) dX7_add_46 (fun H locs hS hS0 => ?_)
  obtain ⟨M13, e14⟩ : ∃ M13 : zM, M13 = zup M10 1 1 1 := ⟨_, rfl⟩
  rw [← e14] at hS
  have J15 := hS.2.1
  refine z_iinc (lv' := [(2, .int (iI (24 + (-8)))), (0, .ref (b + 1)), (1, .int (iI v))]) hx hb dX7_add_49 hl (k := 0) rfl (by decide) rfl (fun ls hl => ?_)
  rw [show ((24 + (-8)) : Int) = 16 from by decide] at hl
  refine lv_goto (tgt := 19) hx hb dX7_add_52 (by decide) ?_
  refine lv_iload_n hx hb dX7_add_19 rfl (lv_at hl 0 rfl) ?_
  refine z_if_lt (tgt := 55) hx hb (by decide) dX7_add_20 (by decide) (fun c16 => absurd c16 (by decide)) (fun c16 => ?_)
  refine lv_aload_n hx hb dX7_add_23 rfl (lv_at hl 1 rfl) ?_
  refine z_getr (j2 := 2) hx hb hts (z_memU u7) hown hK.1 hS f7_0 (by decide) (zkd_of (rfl : zcd wC 1 = 1) rfl) (zrf_of (rfl : zcd wC 1 = 1) rfl) (Or.inl (hts _ (z_mem k54))) dX7_add_24 ?_
  refine lv_aload_n hx hb dX7_add_27 rfl (lv_at hl 1 rfl) ?_
  refine z_geti hx hb hts (z_memU u7) hown hK.1 hS f7_1 (by decide) (zkd_of (rfl : zcd wC 1 = 1) rfl) (Or.inl (hts _ (z_mem k55))) dX7_add_28 ?_
  refine z_top (show M13 1 1 = 1 from by rw [e14, zup_s]) ?_
  refine lv_iload_n hx hb dX7_add_31 rfl (lv_at hl 2 rfl) ?_
  refine lv_iload_n hx hb dX7_add_32 rfl (lv_at hl 0 rfl) ?_
  refine z_iushr hx hb dX7_add_33 (fun z17 r18 e19 => ?_)
  refine z_sipush hx hb (by decide) dX7_add_34 ?_
  refine z_iand hx hb dX7_add_37 (fun z20 r21 e22 => ?_)
  have q23 : (0 : Int) ≤ z20 ∧ z20 ≤ 255 := zand_r (by decide) (by decide) r21 e22
  refine z_iast (n := 100) hx hb hK.1 (t0 := 0) rfl hS hS0 (by decide) (zkd_of (rfl : zcd wC 2 = 2) rfl) (zln_of (rfl : zcd wC 2 = 2) rfl) (by decide) (by decide) (by decide) (zbd_in (rfl : zcd wC 2 = 2) rfl ⟨by omega, by omega⟩) (zms_of (rfl : zcd wC 2 = 2) rfl) dX7_add_38 (fun H locs hS hS0 => ?_)
  obtain ⟨M24, e25⟩ : ∃ M24 : zM, M24 = zup M13 2 ((1 : Int).toNat) z20 := ⟨_, rfl⟩
  rw [← e25] at hS
  have J26 := hS.2.1
  refine lv_aload_n hx hb dX7_add_39 rfl (lv_at hl 1 rfl) ?_
  refine lv_dup hx hb dX7_add_40 rfl ?_
  refine z_geti hx hb hts (z_memU u7) hown hK.1 hS f7_1 (by decide) (zkd_of (rfl : zcd wC 1 = 1) rfl) (Or.inl (hts _ (z_mem k55))) dX7_add_41 ?_
  refine z_top (show M24 1 1 = 1 from by rw [e25, zup_n _ _ (by omega), e14, zup_s]) ?_
  refine z_iconst hx hb dX7_add_44 ?_
  refine z_iadd hx hb dX7_add_45 ?_
  refine z_top (show ((1 + 1) : Int) = 2 from (by decide)) ?_
  refine z_puti hx hb hts (z_memU u7) tyX7 tyX7_ok nmX7 hown hK.1 hS hS0 f7_1 (by decide) (zkd_of (rfl : zcd wC 1 = 1) rfl) (Or.inl (hts _ (z_mem k55))) rfl (z := 2) (by decide +kernel) (zbd_in (rfl : zcd wC 1 = 1) rfl (by decide)) (zms_of (rfl : zcd wC 1 = 1) rfl) dX7_add_46 (fun H locs hS hS0 => ?_)
  obtain ⟨M27, e28⟩ : ∃ M27 : zM, M27 = zup M24 1 1 2 := ⟨_, rfl⟩
  rw [← e28] at hS
  have J29 := hS.2.1
  refine z_iinc (lv' := [(2, .int (iI (16 + (-8)))), (0, .ref (b + 1)), (1, .int (iI v))]) hx hb dX7_add_49 hl (k := 0) rfl (by decide) rfl (fun ls hl => ?_)
  rw [show ((16 + (-8)) : Int) = 8 from by decide] at hl
  refine lv_goto (tgt := 19) hx hb dX7_add_52 (by decide) ?_
  refine lv_iload_n hx hb dX7_add_19 rfl (lv_at hl 0 rfl) ?_
  refine z_if_lt (tgt := 55) hx hb (by decide) dX7_add_20 (by decide) (fun c30 => absurd c30 (by decide)) (fun c30 => ?_)
  refine lv_aload_n hx hb dX7_add_23 rfl (lv_at hl 1 rfl) ?_
  refine z_getr (j2 := 2) hx hb hts (z_memU u7) hown hK.1 hS f7_0 (by decide) (zkd_of (rfl : zcd wC 1 = 1) rfl) (zrf_of (rfl : zcd wC 1 = 1) rfl) (Or.inl (hts _ (z_mem k54))) dX7_add_24 ?_
  refine lv_aload_n hx hb dX7_add_27 rfl (lv_at hl 1 rfl) ?_
  refine z_geti hx hb hts (z_memU u7) hown hK.1 hS f7_1 (by decide) (zkd_of (rfl : zcd wC 1 = 1) rfl) (Or.inl (hts _ (z_mem k55))) dX7_add_28 ?_
  refine z_top (show M27 1 1 = 2 from by rw [e28, zup_s]) ?_
  refine lv_iload_n hx hb dX7_add_31 rfl (lv_at hl 2 rfl) ?_
  refine lv_iload_n hx hb dX7_add_32 rfl (lv_at hl 0 rfl) ?_
  refine z_iushr hx hb dX7_add_33 (fun z31 r32 e33 => ?_)
  refine z_sipush hx hb (by decide) dX7_add_34 ?_
  refine z_iand hx hb dX7_add_37 (fun z34 r35 e36 => ?_)
  have q37 : (0 : Int) ≤ z34 ∧ z34 ≤ 255 := zand_r (by decide) (by decide) r35 e36
  refine z_iast (n := 100) hx hb hK.1 (t0 := 0) rfl hS hS0 (by decide) (zkd_of (rfl : zcd wC 2 = 2) rfl) (zln_of (rfl : zcd wC 2 = 2) rfl) (by decide) (by decide) (by decide) (zbd_in (rfl : zcd wC 2 = 2) rfl ⟨by omega, by omega⟩) (zms_of (rfl : zcd wC 2 = 2) rfl) dX7_add_38 (fun H locs hS hS0 => ?_)
  obtain ⟨M38, e39⟩ : ∃ M38 : zM, M38 = zup M27 2 ((2 : Int).toNat) z34 := ⟨_, rfl⟩
  rw [← e39] at hS
  have J40 := hS.2.1
  refine lv_aload_n hx hb dX7_add_39 rfl (lv_at hl 1 rfl) ?_
  refine lv_dup hx hb dX7_add_40 rfl ?_
  refine z_geti hx hb hts (z_memU u7) hown hK.1 hS f7_1 (by decide) (zkd_of (rfl : zcd wC 1 = 1) rfl) (Or.inl (hts _ (z_mem k55))) dX7_add_41 ?_
  refine z_top (show M38 1 1 = 2 from by rw [e39, zup_n _ _ (by omega), e28, zup_s]) ?_
  refine z_iconst hx hb dX7_add_44 ?_
  refine z_iadd hx hb dX7_add_45 ?_
  refine z_top (show ((2 + 1) : Int) = 3 from (by decide)) ?_
  refine z_puti hx hb hts (z_memU u7) tyX7 tyX7_ok nmX7 hown hK.1 hS hS0 f7_1 (by decide) (zkd_of (rfl : zcd wC 1 = 1) rfl) (Or.inl (hts _ (z_mem k55))) rfl (z := 3) (by decide +kernel) (zbd_in (rfl : zcd wC 1 = 1) rfl (by decide)) (zms_of (rfl : zcd wC 1 = 1) rfl) dX7_add_46 (fun H locs hS hS0 => ?_)
  obtain ⟨M41, e42⟩ : ∃ M41 : zM, M41 = zup M38 1 1 3 := ⟨_, rfl⟩
  rw [← e42] at hS
  have J43 := hS.2.1
  refine z_iinc (lv' := [(2, .int (iI (8 + (-8)))), (0, .ref (b + 1)), (1, .int (iI v))]) hx hb dX7_add_49 hl (k := 0) rfl (by decide) rfl (fun ls hl => ?_)
  rw [show ((8 + (-8)) : Int) = 0 from by decide] at hl
  refine lv_goto (tgt := 19) hx hb dX7_add_52 (by decide) ?_
  refine lv_iload_n hx hb dX7_add_19 rfl (lv_at hl 0 rfl) ?_
  refine z_if_lt (tgt := 55) hx hb (by decide) dX7_add_20 (by decide) (fun c44 => absurd c44 (by decide)) (fun c44 => ?_)
  refine lv_aload_n hx hb dX7_add_23 rfl (lv_at hl 1 rfl) ?_
  refine z_getr (j2 := 2) hx hb hts (z_memU u7) hown hK.1 hS f7_0 (by decide) (zkd_of (rfl : zcd wC 1 = 1) rfl) (zrf_of (rfl : zcd wC 1 = 1) rfl) (Or.inl (hts _ (z_mem k54))) dX7_add_24 ?_
  refine lv_aload_n hx hb dX7_add_27 rfl (lv_at hl 1 rfl) ?_
  refine z_geti hx hb hts (z_memU u7) hown hK.1 hS f7_1 (by decide) (zkd_of (rfl : zcd wC 1 = 1) rfl) (Or.inl (hts _ (z_mem k55))) dX7_add_28 ?_
  refine z_top (show M41 1 1 = 3 from by rw [e42, zup_s]) ?_
  refine lv_iload_n hx hb dX7_add_31 rfl (lv_at hl 2 rfl) ?_
  refine lv_iload_n hx hb dX7_add_32 rfl (lv_at hl 0 rfl) ?_
  refine z_iushr hx hb dX7_add_33 (fun z45 r46 e47 => ?_)
  refine z_sipush hx hb (by decide) dX7_add_34 ?_
  refine z_iand hx hb dX7_add_37 (fun z48 r49 e50 => ?_)
  have q51 : (0 : Int) ≤ z48 ∧ z48 ≤ 255 := zand_r (by decide) (by decide) r49 e50
  refine z_iast (n := 100) hx hb hK.1 (t0 := 0) rfl hS hS0 (by decide) (zkd_of (rfl : zcd wC 2 = 2) rfl) (zln_of (rfl : zcd wC 2 = 2) rfl) (by decide) (by decide) (by decide) (zbd_in (rfl : zcd wC 2 = 2) rfl ⟨by omega, by omega⟩) (zms_of (rfl : zcd wC 2 = 2) rfl) dX7_add_38 (fun H locs hS hS0 => ?_)
  obtain ⟨M52, e53⟩ : ∃ M52 : zM, M52 = zup M41 2 ((3 : Int).toNat) z48 := ⟨_, rfl⟩
  rw [← e53] at hS
  have J54 := hS.2.1
  refine lv_aload_n hx hb dX7_add_39 rfl (lv_at hl 1 rfl) ?_
  refine lv_dup hx hb dX7_add_40 rfl ?_
  refine z_geti hx hb hts (z_memU u7) hown hK.1 hS f7_1 (by decide) (zkd_of (rfl : zcd wC 1 = 1) rfl) (Or.inl (hts _ (z_mem k55))) dX7_add_41 ?_
  refine z_top (show M52 1 1 = 3 from by rw [e53, zup_n _ _ (by omega), e42, zup_s]) ?_
  refine z_iconst hx hb dX7_add_44 ?_
  refine z_iadd hx hb dX7_add_45 ?_
  refine z_top (show ((3 + 1) : Int) = 4 from (by decide)) ?_
  refine z_puti hx hb hts (z_memU u7) tyX7 tyX7_ok nmX7 hown hK.1 hS hS0 f7_1 (by decide) (zkd_of (rfl : zcd wC 1 = 1) rfl) (Or.inl (hts _ (z_mem k55))) rfl (z := 4) (by decide +kernel) (zbd_in (rfl : zcd wC 1 = 1) rfl (by decide)) (zms_of (rfl : zcd wC 1 = 1) rfl) dX7_add_46 (fun H locs hS hS0 => ?_)
  obtain ⟨M55, e56⟩ : ∃ M55 : zM, M55 = zup M52 1 1 4 := ⟨_, rfl⟩
  rw [← e56] at hS
  have J57 := hS.2.1
  refine z_iinc (lv' := [(2, .int (iI (0 + (-8)))), (0, .ref (b + 1)), (1, .int (iI v))]) hx hb dX7_add_49 hl (k := 0) rfl (by decide) rfl (fun ls hl => ?_)
  rw [show ((0 + (-8)) : Int) = (-8) from by decide] at hl
  refine lv_goto (tgt := 19) hx hb dX7_add_52 (by decide) ?_
  refine lv_iload_n hx hb dX7_add_19 rfl (lv_at hl 0 rfl) ?_
  refine z_if_lt (tgt := 55) hx hb (by decide) dX7_add_20 (by decide) (fun c58 => ?_) (fun c58 => absurd c58 (by decide))
  refine lv_aload_n hx hb dX7_add_55 rfl (lv_at hl 1 rfl) ?_
  refine z_geti hx hb hts (z_memU u7) hown hK.1 hS f7_1 (by decide) (zkd_of (rfl : zcd wC 1 = 1) rfl) (Or.inl (hts _ (z_mem k55))) dX7_add_56 ?_
  refine z_top (show M55 1 1 = 4 from by rw [e56, zup_s]) ?_
  exact z_iret hx hb hr hlocks hS hS0 (by decide) (by first | exact trivial | exact ⟨rfl, trivial⟩ | omega | (refine ⟨by omega, trivial⟩)) dX7_add_59

set_option maxHeartbeats 4000000 in
set_option maxRecDepth 100000 in
theorem n_keepFirst (l : Launch) (D : va_G) (dA : Nat → ClassId) (b : Nat) (M : zM) (n : Int) (r_n : R32 n) (g0 : M 1 1 = 0) : Met l yX7_keepFirst (.code yX7_keepFirst cX7_keepFirst 2 (some .boolean) :: zt) (z_rm 0) (va_Pc [.ref (b + 1), .int (iI n)] (zP D dA vwCl (z_tys dA) wC nC b M)) (va_Qi (zQi wC (zms wC [65]) M (fun z M1 => (z = 1 ∧ n = 0) ∨ (z = 0 ∧ n ≠ 0))) (zB D dA vwCl wC nC b) (zA nC b)) 0 0 (zA nC b) := by
  refine Met.ofW (cc := cX7_keepFirst) (maxL := 2) (ret := (some .boolean)) (by decide) rfl ?_
  intro p e s m args below meth c s₁ B hml hv
  obtain ⟨hargs, hR0, hJ, hK⟩ := hv
  have hx := B.exec
  have hb := B.bytes
  have hr := B.returns
  have hts := atoms_spec (ws := .code yX7_keepFirst cX7_keepFirst 2 (some .boolean) :: zt) B.pre
  have hown : s.vm.findClass RX7 = some m.cls := findClass_of_methodNamed B.named
  have hlocks := B.notSynchronized
  have hS : zS D dA vwCl wC nC b (zms wC [65]) M M s.heap := ⟨hR0, hJ, zF_rf _ _⟩
  have hS0 : va_S (zA nC b) s.heap s.heap [] := va_S.rf
  have hl := lv_entry ([.ref (b + 1), .int (iI n)]) (n := 2) (Nat.le_of_ble_eq_true rfl)
  have hent : entryFrame m args 2 = F0 m 0 ((lg_sl ([.ref (b + 1), .int (iI n)]) ++ List.replicate (2 - (lg_sl ([.ref (b + 1), .int (iI n)])).length) Slot.unset).toArray) [] := by rw [hargs]; exact lg_entry_eq m ([.ref (b + 1), .int (iI n)]) 2
  rw [hent]
  generalize (lg_sl ([.ref (b + 1), .int (iI n)]) ++ List.replicate (2 - (lg_sl ([.ref (b + 1), .int (iI n)])).length) Slot.unset).toArray = ls at hl ⊢
  have hl : lv_has ls 2 [(0, .ref (b + 1)), (1, .int (iI n))] := hl
  refine lv_iload_n hx hb dX7_keepFirst_0 rfl (lv_at hl 1 rfl) ?_
  refine z_if_lt (tgt := 12) hx hb r_n dX7_keepFirst_1 (by decide) (fun c1 => ?_) (fun c1 => ?_)
  · skip
    refine z_iconst hx hb dX7_keepFirst_12 ?_
    exact z_zret hx hb hr hlocks hS hS0 (by first | decide | omega) (by first | exact trivial | exact ⟨rfl, trivial⟩ | omega | (refine ⟨by omega, trivial⟩)) dX7_keepFirst_13
  · skip
    refine lv_iload_n hx hb dX7_keepFirst_4 rfl (lv_at hl 1 rfl) ?_
    refine lv_aload_n hx hb dX7_keepFirst_5 rfl (lv_at hl 0 rfl) ?_
    refine z_geti hx hb hts (z_memU u7) hown hK.1 hS f7_1 (by decide) (zkd_of (rfl : zcd wC 1 = 1) rfl) (Or.inl (hts _ (z_mem k55))) dX7_keepFirst_6 ?_
    refine z_top (show M 1 1 = 0 from by rw [g0]) ?_
    refine z_icmp_le (tgt := 14) hx hb r_n (by decide) dX7_keepFirst_9 (by decide) (fun c2 => ?_) (fun c2 => ?_)
    · skip
      refine lv_aload_n hx hb dX7_keepFirst_14 rfl (lv_at hl 0 rfl) ?_
      refine lv_iload_n hx hb dX7_keepFirst_15 rfl (lv_at hl 1 rfl) ?_
      refine z_puti hx hb hts (z_memU u7) tyX7 tyX7_ok nmX7 hown hK.1 hS hS0 f7_1 (by decide) (zkd_of (rfl : zcd wC 1 = 1) rfl) (Or.inl (hts _ (z_mem k55))) rfl (z := n) (by decide +kernel) (zbd_in (rfl : zcd wC 1 = 1) rfl ⟨by omega, by omega⟩) (zms_of (rfl : zcd wC 1 = 1) rfl) dX7_keepFirst_16 (fun H locs hS hS0 => ?_)
      obtain ⟨M3, e4⟩ : ∃ M3 : zM, M3 = zup M 1 1 n := ⟨_, rfl⟩
      rw [← e4] at hS
      have J5 := hS.2.1
      refine z_iconst hx hb dX7_keepFirst_19 ?_
      exact z_zret hx hb hr hlocks hS hS0 (by first | decide | omega) (by first | exact trivial | exact ⟨rfl, trivial⟩ | omega | (refine ⟨by omega, trivial⟩)) dX7_keepFirst_20
    · skip
      refine z_iconst hx hb dX7_keepFirst_12 ?_
      exact z_zret hx hb hr hlocks hS hS0 (by first | decide | omega) (by first | exact trivial | exact ⟨rfl, trivial⟩ | omega | (refine ⟨by omega, trivial⟩)) dX7_keepFirst_13

set_option maxHeartbeats 4000000 in
set_option maxRecDepth 100000 in
theorem n_firstWrong (l : Launch) (D : va_G) (dA : Nat → ClassId) (b : Nat) (M : zM) (g0 : M 1 1 = 0) : Met l yX7_firstWrong (.code yX7_firstWrong cX7_firstWrong 3 (some .int) :: zt) (z_rm 0) (va_Pc [.ref (b + 1)] (zP D dA vwCl (z_tys dA) wC nC b M)) (va_Qi (zQi wC (zms wC [66]) M (fun z M1 => z = 0 ∧ True)) (zB D dA vwCl wC nC b) (zA nC b)) 0 0 (zA nC b) := by
  refine Met.ofW (cc := cX7_firstWrong) (maxL := 3) (ret := (some .int)) (by decide) rfl ?_
  intro p e s m args below meth c s₁ B hml hv
  obtain ⟨hargs, hR0, hJ, hK⟩ := hv
  have hx := B.exec
  have hb := B.bytes
  have hr := B.returns
  have hts := atoms_spec (ws := .code yX7_firstWrong cX7_firstWrong 3 (some .int) :: zt) B.pre
  have hown : s.vm.findClass RX7 = some m.cls := findClass_of_methodNamed B.named
  have hlocks := B.notSynchronized
  have hS : zS D dA vwCl wC nC b (zms wC [66]) M M s.heap := ⟨hR0, hJ, zF_rf _ _⟩
  have hS0 : va_S (zA nC b) s.heap s.heap [] := va_S.rf
  have hl := lv_entry ([.ref (b + 1)]) (n := 3) (Nat.le_of_ble_eq_true rfl)
  have hent : entryFrame m args 3 = F0 m 0 ((lg_sl ([.ref (b + 1)]) ++ List.replicate (3 - (lg_sl ([.ref (b + 1)])).length) Slot.unset).toArray) [] := by rw [hargs]; exact lg_entry_eq m ([.ref (b + 1)]) 3
  rw [hent]
  generalize (lg_sl ([.ref (b + 1)]) ++ List.replicate (3 - (lg_sl ([.ref (b + 1)])).length) Slot.unset).toArray = ls at hl ⊢
  have hl : lv_has ls 3 [(0, .ref (b + 1))] := hl
  refine z_iconst hx hb dX7_firstWrong_0 ?_
  refine lv_istore_n (lv' := [(1, .int (iI 0)), (0, .ref (b + 1))]) hx hb dX7_firstWrong_1 rfl hl (by decide) rfl (fun ls hl => ?_)
  refine lv_aload_n hx hb dX7_firstWrong_2 rfl (lv_at hl 1 rfl) ?_
  refine z_iconst hx hb dX7_firstWrong_3 ?_
  refine z_puti hx hb hts (z_memU u7) tyX7 tyX7_ok nmX7 hown hK.1 hS hS0 f7_2 (by decide) (zkd_of (rfl : zcd wC 1 = 1) rfl) (Or.inl (hts _ (z_mem k57))) rfl (z := 0) (by decide +kernel) (zbd_in (rfl : zcd wC 1 = 1) rfl (by decide)) (zms_of (rfl : zcd wC 1 = 1) rfl) dX7_firstWrong_4 (fun H locs hS hS0 => ?_)
  obtain ⟨M1, e2⟩ : ∃ M1 : zM, M1 = zup M 1 2 0 := ⟨_, rfl⟩
  rw [← e2] at hS
  have J3 := hS.2.1
  refine z_iconst hx hb dX7_firstWrong_7 ?_
  refine lv_istore_n (lv' := [(2, .int (iI 0)), (1, .int (iI 0)), (0, .ref (b + 1))]) hx hb dX7_firstWrong_8 rfl hl (by decide) rfl (fun ls hl => ?_)
  refine lv_iload_n hx hb dX7_firstWrong_9 rfl (lv_at hl 0 rfl) ?_
  refine lv_aload_n hx hb dX7_firstWrong_10 rfl (lv_at hl 2 rfl) ?_
  refine z_geti hx hb hts (z_memU u7) hown hK.1 hS f7_1 (by decide) (zkd_of (rfl : zcd wC 1 = 1) rfl) (Or.inl (hts _ (z_mem k55))) dX7_firstWrong_11 ?_
  refine z_top (show M1 1 1 = 0 from by rw [e2, zup_n _ _ (by omega), g0]) ?_
  refine z_icmp_ge (tgt := 48) hx hb (by decide) (by decide) dX7_firstWrong_14 (by decide) (fun c4 => ?_) (fun c4 => absurd c4 (by decide))
  refine lv_aload_n hx hb dX7_firstWrong_48 rfl (lv_at hl 2 rfl) ?_
  refine z_geti hx hb hts (z_memU u7) hown hK.1 hS f7_1 (by decide) (zkd_of (rfl : zcd wC 1 = 1) rfl) (Or.inl (hts _ (z_mem k55))) dX7_firstWrong_49 ?_
  refine z_top (show M1 1 1 = 0 from by rw [e2, zup_n _ _ (by omega), g0]) ?_
  refine z_bipush hx hb (by decide) dX7_firstWrong_52 ?_
  refine z_icmp_le (tgt := 60) hx hb (by decide) (by decide) dX7_firstWrong_54 (by decide) (fun c5 => ?_) (fun c5 => absurd c5 (by decide))
  refine lv_iload_n hx hb dX7_firstWrong_60 rfl (lv_at hl 1 rfl) ?_
  refine z_iconst hx hb dX7_firstWrong_61 ?_
  refine z_icmp_ne (tgt := 76) hx hb (by decide) (by decide) dX7_firstWrong_62 (by decide) (fun c6 => ?_) (fun c6 => absurd c6 (by decide))
  refine lv_aload_n hx hb dX7_firstWrong_76 rfl (lv_at hl 2 rfl) ?_
  refine z_geti hx hb hts (z_memU u7) hown hK.1 hS f7_1 (by decide) (zkd_of (rfl : zcd wC 1 = 1) rfl) (Or.inl (hts _ (z_mem k55))) dX7_firstWrong_77 ?_
  refine z_top (show M1 1 1 = 0 from by rw [e2, zup_n _ _ (by omega), g0]) ?_
  exact z_iret hx hb hr hlocks hS hS0 (by decide) (by first | exact trivial | exact ⟨rfl, trivial⟩ | omega | (refine ⟨by omega, trivial⟩)) dX7_firstWrong_80

set_option maxHeartbeats 4000000 in
set_option maxRecDepth 100000 in
theorem n_putInto (l : Launch) (D : va_G) (dA : Nat → ClassId) (b : Nat) (M : zM) (g0 : M 1 1 = 0) : Met l yX7_putInto (.code yX7_putInto cX7_putInto 4 (some .int) :: zt) (z_rm 1) (va_Pc [.ref (b + 1), .ref (b + 30)] (zP D dA vwCl (z_tys dA) wC nC b M)) (va_Qi (zQi wC (zms wC [66, 65]) M (fun z M1 => z = -1 ∧ True)) (zB D dA vwCl wC nC b) (zA nC b)) 0 0 (zA nC b) := by
  refine Met.ofW (cc := cX7_putInto) (maxL := 4) (ret := (some .int)) (by decide) rfl ?_
  intro p e s m args below meth c s₁ B hml hv
  obtain ⟨hargs, hR0, hJ, hK⟩ := hv
  have hx := B.exec
  have hb := B.bytes
  have hr := B.returns
  have hts := atoms_spec (ws := .code yX7_putInto cX7_putInto 4 (some .int) :: zt) B.pre
  have hown : s.vm.findClass RX7 = some m.cls := findClass_of_methodNamed B.named
  have hlocks := B.notSynchronized
  have hS : zS D dA vwCl wC nC b (zms wC [66, 65]) M M s.heap := ⟨hR0, hJ, zF_rf _ _⟩
  have hS0 : va_S (zA nC b) s.heap s.heap [] := va_S.rf
  have hl := lv_entry ([.ref (b + 1), .ref (b + 30)]) (n := 4) (Nat.le_of_ble_eq_true rfl)
  have hent : entryFrame m args 4 = F0 m 0 ((lg_sl ([.ref (b + 1), .ref (b + 30)]) ++ List.replicate (4 - (lg_sl ([.ref (b + 1), .ref (b + 30)])).length) Slot.unset).toArray) [] := by rw [hargs]; exact lg_entry_eq m ([.ref (b + 1), .ref (b + 30)]) 4
  rw [hent]
  generalize (lg_sl ([.ref (b + 1), .ref (b + 30)]) ++ List.replicate (4 - (lg_sl ([.ref (b + 1), .ref (b + 30)])).length) Slot.unset).toArray = ls at hl ⊢
  have hl : lv_has ls 4 [(0, .ref (b + 1)), (1, .ref (b + 30))] := hl
  refine lv_aload_n hx hb dX7_putInto_0 rfl (lv_at hl 0 rfl) ?_
  refine z_calli (va_runV (As := []) (rest := []) ⟨hx, hb, hml, hown, hts⟩ (n_firstWrong l D dA b M (by rw [g0])) (cwV 0 hts (z_gV k288 k289 k1354 k2 k290) rfl rfl rfl dm_X7_firstWrong ⟨Nat.le_of_ble_eq_true rfl, Nat.le_of_ble_eq_true rfl⟩) ⟨zP_blind, (z_recv hS hK.1 (by decide) (zkd_of (rfl : zcd wC 1 = 1) rfl) (by decide) (rfl : vwCl[7]? = some (RX7, TX7, 7))), z_pre hS hK⟩ rfl rfl hl.1 rfl (lv_room (Nat.le_of_ble_eq_true rfl)) dX7_putInto_1 ⟨Nat.le_refl _, Nat.le_refl _⟩) hS hS0 (zms_sub rfl) (fun z5 M1 H locs r6 h2 F3 hS hS0 => ?_)
  have J4 := hS.2.1
  have h7 := h2
  obtain ⟨z5e, h7⟩ := h7
  subst z5e
  refine lv_istore_n (lv' := [(2, .int (iI 0)), (0, .ref (b + 1)), (1, .ref (b + 30))]) hx hb dX7_putInto_4 rfl hl (by decide) rfl (fun ls hl => ?_)
  refine lv_iload_n hx hb dX7_putInto_5 rfl (lv_at hl 0 rfl) ?_
  refine z_iconst hx hb dX7_putInto_6 ?_
  refine z_icmp_ne (tgt := 17) hx hb (by decide) (by decide) dX7_putInto_7 (by decide) (fun c8 => ?_) (fun c8 => absurd c8 (by decide))
  refine z_iconst hx hb dX7_putInto_17 ?_
  refine lv_iload_n hx hb dX7_putInto_18 rfl (lv_at hl 0 rfl) ?_
  refine z_isub hx hb dX7_putInto_19 ?_
  refine z_top (show (((-1) - 0) : Int) = (-1) from (by decide)) ?_
  refine lv_istore_n (lv' := [(3, .int (iI (-1))), (2, .int (iI 0)), (0, .ref (b + 1)), (1, .ref (b + 30))]) hx hb dX7_putInto_20 rfl hl (by decide) rfl (fun ls hl => ?_)
  refine lv_aload_n hx hb dX7_putInto_21 rfl (lv_at hl 2 rfl) ?_
  refine z_iconst hx hb dX7_putInto_22 ?_
  refine z_puti hx hb hts (z_memU u7) tyX7 tyX7_ok nmX7 hown hK.1 hS hS0 f7_1 (by decide) (zkd_of (rfl : zcd wC 1 = 1) rfl) (Or.inl (hts _ (z_mem k55))) rfl (z := 0) (by decide +kernel) (zbd_in (rfl : zcd wC 1 = 1) rfl (by decide)) (zms_of (rfl : zcd wC 1 = 1) rfl) dX7_putInto_23 (fun H locs hS hS0 => ?_)
  obtain ⟨M9, e10⟩ : ∃ M9 : zM, M9 = zup M1 1 1 0 := ⟨_, rfl⟩
  rw [← e10] at hS
  have J11 := hS.2.1
  refine lv_iload_n hx hb dX7_putInto_26 rfl (lv_at hl 0 rfl) ?_
  refine z_if_ne (tgt := 45) hx hb (by decide) dX7_putInto_27 (by decide) (fun c12 => ?_) (fun c12 => absurd c12 (by decide))
  refine lv_iload_n hx hb dX7_putInto_45 rfl (lv_at hl 0 rfl) ?_
  exact z_iret hx hb hr hlocks hS hS0 (by decide) (by first | exact trivial | exact ⟨rfl, trivial⟩ | omega | (refine ⟨by omega, trivial⟩)) dX7_putInto_46

set_option maxHeartbeats 4000000 in
set_option maxRecDepth 100000 in
theorem n_at (l : Launch) (D : va_G) (dA : Nat → ClassId) (b : Nat) (M : zM) (i : Int) (r_i : R32 i) (g0 : M 30 1 = 0) : Met l yX8_at (.code yX8_at cX8_at 2 (some .int) :: zt) (z_rm 1) (va_Pc [.ref (b + 30), .int (iI i)] (zP D dA vwCl (z_tys dA) wC nC b M)) (va_Qi (zQi wC (zms wC []) M (fun z M1 => M1 = M ∧ (z = -1 ∧ True))) (zB D dA vwCl wC nC b) (zA nC b)) 0 0 (zA nC b) := by
  refine Met.ofW (cc := cX8_at) (maxL := 2) (ret := (some .int)) (by decide) rfl ?_
  intro p e s m args below meth c s₁ B hml hv
  obtain ⟨hargs, hR0, hJ, hK⟩ := hv
  have hx := B.exec
  have hb := B.bytes
  have hr := B.returns
  have hts := atoms_spec (ws := .code yX8_at cX8_at 2 (some .int) :: zt) B.pre
  have hown : s.vm.findClass RX8 = some m.cls := findClass_of_methodNamed B.named
  have hlocks := B.notSynchronized
  have hS : zS D dA vwCl wC nC b (zms wC []) M M s.heap := ⟨hR0, hJ, zF_rf _ _⟩
  have hS0 : va_S (zA nC b) s.heap s.heap [] := va_S.rf
  have hl := lv_entry ([.ref (b + 30), .int (iI i)]) (n := 2) (Nat.le_of_ble_eq_true rfl)
  have hent : entryFrame m args 2 = F0 m 0 ((lg_sl ([.ref (b + 30), .int (iI i)]) ++ List.replicate (2 - (lg_sl ([.ref (b + 30), .int (iI i)])).length) Slot.unset).toArray) [] := by rw [hargs]; exact lg_entry_eq m ([.ref (b + 30), .int (iI i)]) 2
  rw [hent]
  generalize (lg_sl ([.ref (b + 30), .int (iI i)]) ++ List.replicate (2 - (lg_sl ([.ref (b + 30), .int (iI i)])).length) Slot.unset).toArray = ls at hl ⊢
  have hl : lv_has ls 2 [(0, .ref (b + 30)), (1, .int (iI i))] := hl
  refine lv_aload_n hx hb dX8_at_0 rfl (lv_at hl 0 rfl) ?_
  refine lv_iload_n hx hb dX8_at_1 rfl (lv_at hl 1 rfl) ?_
  refine z_calli (va_runV (As := [.int (iI i)]) (rest := []) ⟨hx, hb, hml, hown, hts⟩ (n_has l D dA b M i r_i (by rw [g0])) (cwV 1 hts (z_gV k326 k327 k328 k3 k329) rfl rfl rfl dm_X8_has ⟨Nat.le_of_ble_eq_true rfl, Nat.le_of_ble_eq_true rfl⟩) ⟨zP_blind, (z_recv hS hK.1 (by decide) (zkd_of (rfl : zcd wC 30 = 6) rfl) (by decide) (rfl : vwCl[8]? = some (RX8, TX8, 2))), z_pre hS hK⟩ rfl rfl hl.1 rfl (lv_room (Nat.le_of_ble_eq_true rfl)) dX8_at_2 ⟨Nat.le_refl _, Nat.le_refl _⟩) hS hS0 (zms_sub rfl) (fun z5 M1 H locs r6 h2 F3 hS hS0 => ?_)
  obtain ⟨h7, h2⟩ := h2
  rw [h7] at hS
  have h8 := h2
  obtain ⟨z5e, h8⟩ := h8
  subst z5e
  refine z_if_eq (tgt := 17) hx hb (by decide) dX8_at_5 (by decide) (fun c9 => ?_) (fun c9 => absurd c9 (by decide))
  refine z_iconst hx hb dX8_at_17 ?_
  exact z_iret hx hb hr hlocks hS hS0 (by decide) (⟨rfl, by first | exact trivial | exact ⟨rfl, trivial⟩ | omega | (refine ⟨by omega, trivial⟩)⟩) dX8_at_18

set_option maxHeartbeats 4000000 in
set_option maxRecDepth 100000 in
theorem n_find (l : Launch) (D : va_G) (dA : Nat → ClassId) (b : Nat) (M : zM) (i : Int) (r_i : R32 i) (g0 : M 32 2 = 0) : Met l yX9_find (.code yX9_find cX9_find 2 (some (.object "TapeRings$Ring")) :: zt) (z_rm 0) (va_Pc [.ref (b + 32), .int (iI i)] (zP D dA vwCl (z_tys dA) wC nC b M)) (va_Qq (zQq wC (zms wC []) M (fun z M1 => M1 = M ∧ (z = none ∧ True))) (zB D dA vwCl wC nC b) (zA nC b)) 0 0 (zA nC b) := by
  refine Met.ofW (cc := cX9_find) (maxL := 2) (ret := (some (.object "TapeRings$Ring"))) (by decide) rfl ?_
  intro p e s m args below meth c s₁ B hml hv
  obtain ⟨hargs, hR0, hJ, hK⟩ := hv
  have hx := B.exec
  have hb := B.bytes
  have hr := B.returns
  have hts := atoms_spec (ws := .code yX9_find cX9_find 2 (some (.object "TapeRings$Ring")) :: zt) B.pre
  have hown : s.vm.findClass RX9 = some m.cls := findClass_of_methodNamed B.named
  have hlocks := B.notSynchronized
  have hS : zS D dA vwCl wC nC b (zms wC []) M M s.heap := ⟨hR0, hJ, zF_rf _ _⟩
  have hS0 : va_S (zA nC b) s.heap s.heap [] := va_S.rf
  have hl := lv_entry ([.ref (b + 32), .int (iI i)]) (n := 2) (Nat.le_of_ble_eq_true rfl)
  have hent : entryFrame m args 2 = F0 m 0 ((lg_sl ([.ref (b + 32), .int (iI i)]) ++ List.replicate (2 - (lg_sl ([.ref (b + 32), .int (iI i)])).length) Slot.unset).toArray) [] := by rw [hargs]; exact lg_entry_eq m ([.ref (b + 32), .int (iI i)]) 2
  rw [hent]
  generalize (lg_sl ([.ref (b + 32), .int (iI i)]) ++ List.replicate (2 - (lg_sl ([.ref (b + 32), .int (iI i)])).length) Slot.unset).toArray = ls at hl ⊢
  have hl : lv_has ls 2 [(0, .ref (b + 32)), (1, .int (iI i))] := hl
  refine lv_iload_n hx hb dX9_find_0 rfl (lv_at hl 1 rfl) ?_
  refine z_if_lt (tgt := 26) hx hb r_i dX9_find_1 (by decide) (fun c1 => ?_) (fun c1 => ?_)
  · skip
    refine lv_null hx hb dX9_find_26 ?_
    exact z_aret (r := none) hx hb hr (Or.inl ⟨_, rfl⟩) hlocks hS hS0 rfl (⟨rfl, by first | exact trivial | exact ⟨rfl, trivial⟩ | omega | (refine ⟨by omega, trivial⟩)⟩) dX9_find_27
  · skip
    refine lv_iload_n hx hb dX9_find_4 rfl (lv_at hl 1 rfl) ?_
    refine lv_aload_n hx hb dX9_find_5 rfl (lv_at hl 0 rfl) ?_
    refine z_geti hx hb hts (z_memU u9) hown hK.1 hS f9_2 (by decide) (zkd_of (rfl : zcd wC 32 = 8) rfl) (Or.inl (hts _ (z_mem k118))) dX9_find_6 ?_
    refine z_top (show M 32 2 = 0 from by rw [g0]) ?_
    refine z_icmp_ge (tgt := 26) hx hb r_i (by decide) dX9_find_9 (by decide) (fun c2 => ?_) (fun c2 => absurd c2 (by omega))
    refine lv_null hx hb dX9_find_26 ?_
    exact z_aret (r := none) hx hb hr (Or.inl ⟨_, rfl⟩) hlocks hS hS0 rfl (⟨rfl, by first | exact trivial | exact ⟨rfl, trivial⟩ | omega | (refine ⟨by omega, trivial⟩)⟩) dX9_find_27

set_option maxHeartbeats 4000000 in
set_option maxRecDepth 100000 in
theorem n_tell35 (l : Launch) (D : va_G) (dA : Nat → ClassId) (b : Nat) (M : zM) (tick : Int) (speed : Int) (r_tick : R32 tick) (r_speed : R32 speed) (g0 : M 35 2 = 0) (p0 : 0 ≤ tick ∧ tick ≤ 5000) (p1 : -9 ≤ speed ∧ speed ≤ 9) : Met l yX2_tell (.code yX2_tell cX2_tell 5 (some .boolean) :: zt) (z_rm 0) (va_Pc [.ref (b + 35), .int (iI tick), .int (iI speed)] (zP D dA vwCl (z_tys dA) wC nC b M)) (va_Qi (zQi wC (zms wC [706, 831, 895]) M (fun z M1 => z = 1 ∧ True)) (zB D dA vwCl wC nC b) (zA nC b)) 0 0 (zA nC b) := by
  refine Met.ofW (cc := cX2_tell) (maxL := 5) (ret := (some .boolean)) (by decide) rfl ?_
  intro p e s m args below meth c s₁ B hml hv
  obtain ⟨hargs, hR0, hJ, hK⟩ := hv
  have hx := B.exec
  have hb := B.bytes
  have hr := B.returns
  have hts := atoms_spec (ws := .code yX2_tell cX2_tell 5 (some .boolean) :: zt) B.pre
  have hown : s.vm.findClass RX2 = some m.cls := findClass_of_methodNamed B.named
  have hlocks := B.notSynchronized
  have hS : zS D dA vwCl wC nC b (zms wC [706, 831, 895]) M M s.heap := ⟨hR0, hJ, zF_rf _ _⟩
  have hS0 : va_S (zA nC b) s.heap s.heap [] := va_S.rf
  have hl := lv_entry ([.ref (b + 35), .int (iI tick), .int (iI speed)]) (n := 5) (Nat.le_of_ble_eq_true rfl)
  have hent : entryFrame m args 5 = F0 m 0 ((lg_sl ([.ref (b + 35), .int (iI tick), .int (iI speed)]) ++ List.replicate (5 - (lg_sl ([.ref (b + 35), .int (iI tick), .int (iI speed)])).length) Slot.unset).toArray) [] := by rw [hargs]; exact lg_entry_eq m ([.ref (b + 35), .int (iI tick), .int (iI speed)]) 5
  rw [hent]
  generalize (lg_sl ([.ref (b + 35), .int (iI tick), .int (iI speed)]) ++ List.replicate (5 - (lg_sl ([.ref (b + 35), .int (iI tick), .int (iI speed)])).length) Slot.unset).toArray = ls at hl ⊢
  have hl : lv_has ls 5 [(0, .ref (b + 35)), (1, .int (iI tick)), (2, .int (iI speed))] := hl
  refine z_iconst hx hb dX2_tell_0 ?_
  refine lv_istore_n (lv' := [(3, .int (iI 0)), (0, .ref (b + 35)), (1, .int (iI tick)), (2, .int (iI speed))]) hx hb dX2_tell_1 rfl hl (by decide) rfl (fun ls hl => ?_)
  refine lv_iload_n hx hb dX2_tell_2 rfl (lv_at hl 0 rfl) ?_
  refine lv_aload_n hx hb dX2_tell_3 rfl (lv_at hl 1 rfl) ?_
  refine z_geti hx hb hts (z_memU u2) hown hK.1 hS f2_2 (by decide) (zkd_of (rfl : zcd wC 35 = 11) rfl) (Or.inl (hts _ (z_mem k84))) dX2_tell_4 ?_
  refine z_top (show M 35 2 = 0 from by rw [g0]) ?_
  refine z_icmp_ge (tgt := 26) hx hb (by decide) (by decide) dX2_tell_7 (by decide) (fun c1 => ?_) (fun c1 => absurd c1 (by decide))
  refine lv_iload_n hx hb dX2_tell_26 rfl (lv_at hl 0 rfl) ?_
  refine lv_aload_n hx hb dX2_tell_27 rfl (lv_at hl 1 rfl) ?_
  refine z_geti hx hb hts (z_memU u2) hown hK.1 hS f2_2 (by decide) (zkd_of (rfl : zcd wC 35 = 11) rfl) (Or.inl (hts _ (z_mem k84))) dX2_tell_28 ?_
  refine z_top (show M 35 2 = 0 from by rw [g0]) ?_
  refine z_icmp_ge (tgt := 53) hx hb (by decide) (by decide) dX2_tell_31 (by decide) (fun c2 => ?_) (fun c2 => absurd c2 (by decide))
  refine lv_aload_n hx hb dX2_tell_53 rfl (lv_at hl 1 rfl) ?_
  refine z_geti hx hb hts (z_memU u2) hown hK.1 hS f2_2 (by decide) (zkd_of (rfl : zcd wC 35 = 11) rfl) (Or.inl (hts _ (z_mem k84))) dX2_tell_54 ?_
  refine z_top (show M 35 2 = 0 from by rw [g0]) ?_
  refine z_bipush hx hb (by decide) dX2_tell_57 ?_
  refine z_icmp_lt (tgt := 64) hx hb (by decide) (by decide) dX2_tell_59 (by decide) (fun c3 => ?_) (fun c3 => absurd c3 (by decide))
  refine lv_aload_n hx hb dX2_tell_64 rfl (lv_at hl 1 rfl) ?_
  refine z_geti hx hb hts (z_memU u2) hown hK.1 hS f2_2 (by decide) (zkd_of (rfl : zcd wC 35 = 11) rfl) (Or.inl (hts _ (z_mem k84))) dX2_tell_65 ?_
  refine z_top (show M 35 2 = 0 from by rw [g0]) ?_
  refine lv_istore (lv' := [(4, .int (iI 0)), (3, .int (iI 0)), (0, .ref (b + 35)), (1, .int (iI tick)), (2, .int (iI speed))]) hx hb dX2_tell_68 hl (by decide) rfl (fun ls hl => ?_)
  refine lv_iload hx hb dX2_tell_70 (lv_at hl 0 rfl) ?_
  refine lv_iload_n hx hb dX2_tell_72 rfl (lv_at hl 1 rfl) ?_
  refine z_icmp_le (tgt := 114) hx hb (by decide) (by decide) dX2_tell_73 (by decide) (fun c4 => ?_) (fun c4 => absurd c4 (by decide))
  refine lv_aload_n hx hb dX2_tell_114 rfl (lv_at hl 2 rfl) ?_
  refine z_getr (j2 := 36) hx hb hts (z_memU u2) hown hK.1 hS f2_0 (by decide) (zkd_of (rfl : zcd wC 35 = 11) rfl) (zrf_of (rfl : zcd wC 35 = 11) rfl) (Or.inl (hts _ (z_mem k82))) dX2_tell_115 ?_
  refine lv_iload_n hx hb dX2_tell_118 rfl (lv_at hl 1 rfl) ?_
  refine lv_iload_n hx hb dX2_tell_119 rfl (lv_at hl 3 rfl) ?_
  refine z_iast (n := 12) hx hb hK.1 (t0 := 0) rfl hS hS0 (by decide) (zkd_of (rfl : zcd wC 36 = 12) rfl) (zln_of (rfl : zcd wC 36 = 12) rfl) (by decide) (by decide) (by decide) (zbd_in (rfl : zcd wC 36 = 12) rfl ⟨by omega, by omega⟩) (zms_of (rfl : zcd wC 36 = 12) rfl) dX2_tell_120 (fun H locs hS hS0 => ?_)
  obtain ⟨M5, e6⟩ : ∃ M5 : zM, M5 = zup M 36 ((0 : Int).toNat) tick := ⟨_, rfl⟩
  rw [← e6] at hS
  have J7 := hS.2.1
  refine lv_aload_n hx hb dX2_tell_121 rfl (lv_at hl 2 rfl) ?_
  refine z_getr (j2 := 37) hx hb hts (z_memU u2) hown hK.1 hS f2_1 (by decide) (zkd_of (rfl : zcd wC 35 = 11) rfl) (zrf_of (rfl : zcd wC 35 = 11) rfl) (Or.inl (hts _ (z_mem k83))) dX2_tell_122 ?_
  refine lv_iload_n hx hb dX2_tell_125 rfl (lv_at hl 1 rfl) ?_
  refine lv_iload_n hx hb dX2_tell_126 rfl (lv_at hl 4 rfl) ?_
  refine z_iast (n := 12) hx hb hK.1 (t0 := 0) rfl hS hS0 (by decide) (zkd_of (rfl : zcd wC 37 = 13) rfl) (zln_of (rfl : zcd wC 37 = 13) rfl) (by decide) (by decide) (by decide) (zbd_in (rfl : zcd wC 37 = 13) rfl ⟨by omega, by omega⟩) (zms_of (rfl : zcd wC 37 = 13) rfl) dX2_tell_127 (fun H locs hS hS0 => ?_)
  obtain ⟨M8, e9⟩ : ∃ M8 : zM, M8 = zup M5 37 ((0 : Int).toNat) speed := ⟨_, rfl⟩
  rw [← e9] at hS
  have J10 := hS.2.1
  refine lv_aload_n hx hb dX2_tell_128 rfl (lv_at hl 2 rfl) ?_
  refine lv_dup hx hb dX2_tell_129 rfl ?_
  refine z_geti hx hb hts (z_memU u2) hown hK.1 hS f2_2 (by decide) (zkd_of (rfl : zcd wC 35 = 11) rfl) (Or.inl (hts _ (z_mem k84))) dX2_tell_130 ?_
  refine z_top (show M8 35 2 = 0 from by rw [e9, zup_n _ _ (by omega), e6, zup_n _ _ (by omega), g0]) ?_
  refine z_iconst hx hb dX2_tell_133 ?_
  refine z_iadd hx hb dX2_tell_134 ?_
  refine z_top (show ((0 + 1) : Int) = 1 from (by decide)) ?_
  refine z_puti hx hb hts (z_memU u2) tyX2 tyX2_ok nmX2 hown hK.1 hS hS0 f2_2 (by decide) (zkd_of (rfl : zcd wC 35 = 11) rfl) (Or.inl (hts _ (z_mem k84))) rfl (z := 1) (by decide +kernel) (zbd_in (rfl : zcd wC 35 = 11) rfl (by decide)) (zms_of (rfl : zcd wC 35 = 11) rfl) dX2_tell_135 (fun H locs hS hS0 => ?_)
  obtain ⟨M11, e12⟩ : ∃ M11 : zM, M11 = zup M8 35 2 1 := ⟨_, rfl⟩
  rw [← e12] at hS
  have J13 := hS.2.1
  refine z_iconst hx hb dX2_tell_138 ?_
  exact z_zret hx hb hr hlocks hS hS0 (by first | decide | omega) (by first | exact trivial | exact ⟨rfl, trivial⟩ | omega | (refine ⟨by omega, trivial⟩)) dX2_tell_139

set_option maxHeartbeats 4000000 in
set_option maxRecDepth 100000 in
theorem n_steady35 (l : Launch) (D : va_G) (dA : Nat → ClassId) (b : Nat) (M : zM) (g0 : M 35 2 = 0) : Met l yX2_steady (.code yX2_steady cX2_steady 1 (some .int) :: zt) (z_rm 0) (va_Pc [.ref (b + 35)] (zP D dA vwCl (z_tys dA) wC nC b M)) (va_Qi (zQi wC (zms wC []) M (fun z M1 => M1 = M ∧ (z = 0 ∧ True))) (zB D dA vwCl wC nC b) (zA nC b)) 0 0 (zA nC b) := by
  refine Met.ofW (cc := cX2_steady) (maxL := 1) (ret := (some .int)) (by decide) rfl ?_
  intro p e s m args below meth c s₁ B hml hv
  obtain ⟨hargs, hR0, hJ, hK⟩ := hv
  have hx := B.exec
  have hb := B.bytes
  have hr := B.returns
  have hts := atoms_spec (ws := .code yX2_steady cX2_steady 1 (some .int) :: zt) B.pre
  have hown : s.vm.findClass RX2 = some m.cls := findClass_of_methodNamed B.named
  have hlocks := B.notSynchronized
  have hS : zS D dA vwCl wC nC b (zms wC []) M M s.heap := ⟨hR0, hJ, zF_rf _ _⟩
  have hS0 : va_S (zA nC b) s.heap s.heap [] := va_S.rf
  have hl := lv_entry ([.ref (b + 35)]) (n := 1) (Nat.le_of_ble_eq_true rfl)
  have hent : entryFrame m args 1 = F0 m 0 ((lg_sl ([.ref (b + 35)]) ++ List.replicate (1 - (lg_sl ([.ref (b + 35)])).length) Slot.unset).toArray) [] := by rw [hargs]; exact lg_entry_eq m ([.ref (b + 35)]) 1
  rw [hent]
  generalize (lg_sl ([.ref (b + 35)]) ++ List.replicate (1 - (lg_sl ([.ref (b + 35)])).length) Slot.unset).toArray = ls at hl ⊢
  have hl : lv_has ls 1 [(0, .ref (b + 35))] := hl
  refine lv_aload_n hx hb dX2_steady_0 rfl (lv_at hl 0 rfl) ?_
  refine z_geti hx hb hts (z_memU u2) hown hK.1 hS f2_2 (by decide) (zkd_of (rfl : zcd wC 35 = 11) rfl) (Or.inl (hts _ (z_mem k84))) dX2_steady_1 ?_
  refine z_top (show M 35 2 = 0 from by rw [g0]) ?_
  refine z_if_ne (tgt := 11) hx hb (by decide) dX2_steady_4 (by decide) (fun c1 => absurd c1 (by decide)) (fun c1 => ?_)
  refine z_iconst hx hb dX2_steady_7 ?_
  refine lv_goto (tgt := 22) hx hb dX2_steady_8 (by decide) ?_
  exact z_iret hx hb hr hlocks hS hS0 (by decide) (⟨rfl, by first | exact trivial | exact ⟨rfl, trivial⟩ | omega | (refine ⟨by omega, trivial⟩)⟩) dX2_steady_22

set_option maxHeartbeats 4000000 in
set_option maxRecDepth 100000 in
theorem n_wayTo35 (l : Launch) (D : va_G) (dA : Nat → ClassId) (b : Nat) (M : zM) (t : Int) (r_t : R64 t) (g0 : M 35 2 = 0) : Met l yX2_wayTo (.code yX2_wayTo cX2_wayTo 9 (some .long) :: zt) (z_rm 0) (va_Pc [.ref (b + 35), .long (iL t)] (zP D dA vwCl (z_tys dA) wC nC b M)) (va_Ql (zQl wC (zms wC []) M (fun z M1 => M1 = M ∧ (z = t ∧ True))) (zB D dA vwCl wC nC b) (zA nC b)) 0 0 (zA nC b) := by
  refine Met.ofW (cc := cX2_wayTo) (maxL := 9) (ret := (some .long)) (by decide) rfl ?_
  intro p e s m args below meth c s₁ B hml hv
  obtain ⟨hargs, hR0, hJ, hK⟩ := hv
  have hx := B.exec
  have hb := B.bytes
  have hr := B.returns
  have hts := atoms_spec (ws := .code yX2_wayTo cX2_wayTo 9 (some .long) :: zt) B.pre
  have hown : s.vm.findClass RX2 = some m.cls := findClass_of_methodNamed B.named
  have hlocks := B.notSynchronized
  have hS : zS D dA vwCl wC nC b (zms wC []) M M s.heap := ⟨hR0, hJ, zF_rf _ _⟩
  have hS0 : va_S (zA nC b) s.heap s.heap [] := va_S.rf
  have hl := lv_entry ([.ref (b + 35), .long (iL t)]) (n := 9) (Nat.le_of_ble_eq_true rfl)
  have hent : entryFrame m args 9 = F0 m 0 ((lg_sl ([.ref (b + 35), .long (iL t)]) ++ List.replicate (9 - (lg_sl ([.ref (b + 35), .long (iL t)])).length) Slot.unset).toArray) [] := by rw [hargs]; exact lg_entry_eq m ([.ref (b + 35), .long (iL t)]) 9
  rw [hent]
  generalize (lg_sl ([.ref (b + 35), .long (iL t)]) ++ List.replicate (9 - (lg_sl ([.ref (b + 35), .long (iL t)])).length) Slot.unset).toArray = ls at hl ⊢
  have hl : lv_has ls 9 [(0, .ref (b + 35)), (1, .long (iL t))] := hl
  refine z_lconst0 hx hb dX2_wayTo_0 ?_
  refine lv_lstore_n (lv' := [(3, .long (iL 0)), (0, .ref (b + 35)), (1, .long (iL t))]) hx hb dX2_wayTo_1 rfl hl (by decide) rfl (fun ls hl => ?_)
  refine z_lconst0 hx hb dX2_wayTo_2 ?_
  refine lv_lstore (lv' := [(5, .long (iL 0)), (3, .long (iL 0)), (0, .ref (b + 35)), (1, .long (iL t))]) hx hb dX2_wayTo_3 hl (by decide) rfl (fun ls hl => ?_)
  refine z_iconst hx hb dX2_wayTo_5 ?_
  refine lv_istore (lv' := [(7, .int (iI 1)), (5, .long (iL 0)), (3, .long (iL 0)), (0, .ref (b + 35)), (1, .long (iL t))]) hx hb dX2_wayTo_6 hl (by decide) rfl (fun ls hl => ?_)
  refine z_iconst hx hb dX2_wayTo_8 ?_
  refine lv_istore (lv' := [(8, .int (iI 0)), (7, .int (iI 1)), (5, .long (iL 0)), (3, .long (iL 0)), (0, .ref (b + 35)), (1, .long (iL t))]) hx hb dX2_wayTo_9 hl (by decide) rfl (fun ls hl => ?_)
  refine lv_iload hx hb dX2_wayTo_11 (lv_at hl 0 rfl) ?_
  refine lv_aload_n hx hb dX2_wayTo_13 rfl (lv_at hl 4 rfl) ?_
  refine z_geti hx hb hts (z_memU u2) hown hK.1 hS f2_2 (by decide) (zkd_of (rfl : zcd wC 35 = 11) rfl) (Or.inl (hts _ (z_mem k84))) dX2_wayTo_14 ?_
  refine z_top (show M 35 2 = 0 from by rw [g0]) ?_
  refine z_icmp_ge (tgt := 76) hx hb (by decide) (by decide) dX2_wayTo_17 (by decide) (fun c1 => ?_) (fun c1 => absurd c1 (by decide))
  refine lv_lload_n hx hb dX2_wayTo_76 rfl (lv_at hl 3 rfl) ?_
  refine lv_lload_n hx hb dX2_wayTo_77 rfl (lv_at hl 5 rfl) ?_
  refine lv_lload hx hb dX2_wayTo_78 (lv_at hl 2 rfl) ?_
  refine z_lsub hx hb dX2_wayTo_80 ?_
  refine lv_iload hx hb dX2_wayTo_81 (lv_at hl 1 rfl) ?_
  refine z_i2l hx hb (by decide) dX2_wayTo_83 ?_
  refine z_lmul hx hb dX2_wayTo_84 ?_
  refine z_ladd hx hb dX2_wayTo_85 ?_
  exact z_lret hx hb hr hlocks hS hS0 ⟨by omega, by omega⟩ (⟨rfl, by first | exact trivial | exact ⟨rfl, trivial⟩ | omega | (refine ⟨by omega, trivial⟩)⟩) dX2_wayTo_86

set_option maxHeartbeats 4000000 in
set_option maxRecDepth 100000 in
theorem n_forget35 (l : Launch) (D : va_G) (dA : Nat → ClassId) (b : Nat) (M : zM)  : Met l yX2_forget (.code yX2_forget cX2_forget 1 none :: zt) (z_rm 0) (va_Pc [.ref (b + 35)] (zP D dA vwCl (z_tys dA) wC nC b M)) (va_Qv (zQv wC (zms wC [706]) M (fun M1 => True)) (zB D dA vwCl wC nC b) (zA nC b)) 0 0 (zA nC b) := by
  refine Met.ofW (cc := cX2_forget) (maxL := 1) (ret := none) (by decide) rfl ?_
  intro p e s m args below meth c s₁ B hml hv
  obtain ⟨hargs, hR0, hJ, hK⟩ := hv
  have hx := B.exec
  have hb := B.bytes
  have hr := B.returns
  have hts := atoms_spec (ws := .code yX2_forget cX2_forget 1 none :: zt) B.pre
  have hown : s.vm.findClass RX2 = some m.cls := findClass_of_methodNamed B.named
  have hlocks := B.notSynchronized
  have hS : zS D dA vwCl wC nC b (zms wC [706]) M M s.heap := ⟨hR0, hJ, zF_rf _ _⟩
  have hS0 : va_S (zA nC b) s.heap s.heap [] := va_S.rf
  have hl := lv_entry ([.ref (b + 35)]) (n := 1) (Nat.le_of_ble_eq_true rfl)
  have hent : entryFrame m args 1 = F0 m 0 ((lg_sl ([.ref (b + 35)]) ++ List.replicate (1 - (lg_sl ([.ref (b + 35)])).length) Slot.unset).toArray) [] := by rw [hargs]; exact lg_entry_eq m ([.ref (b + 35)]) 1
  rw [hent]
  generalize (lg_sl ([.ref (b + 35)]) ++ List.replicate (1 - (lg_sl ([.ref (b + 35)])).length) Slot.unset).toArray = ls at hl ⊢
  have hl : lv_has ls 1 [(0, .ref (b + 35))] := hl
  refine lv_aload_n hx hb dX2_forget_0 rfl (lv_at hl 0 rfl) ?_
  refine z_iconst hx hb dX2_forget_1 ?_
  refine z_puti hx hb hts (z_memU u2) tyX2 tyX2_ok nmX2 hown hK.1 hS hS0 f2_2 (by decide) (zkd_of (rfl : zcd wC 35 = 11) rfl) (Or.inl (hts _ (z_mem k84))) rfl (z := 0) (by decide +kernel) (zbd_in (rfl : zcd wC 35 = 11) rfl (by decide)) (zms_of (rfl : zcd wC 35 = 11) rfl) dX2_forget_2 (fun H locs hS hS0 => ?_)
  obtain ⟨M1, e2⟩ : ∃ M1 : zM, M1 = zup M 35 2 0 := ⟨_, rfl⟩
  rw [← e2] at hS
  have J3 := hS.2.1
  exact z_vret hx hb hr hlocks hS hS0 (by first | exact trivial | exact ⟨rfl, trivial⟩ | omega | (refine ⟨by omega, trivial⟩)) dX2_forget_5

set_option maxHeartbeats 4000000 in
set_option maxRecDepth 100000 in
theorem n_tell38 (l : Launch) (D : va_G) (dA : Nat → ClassId) (b : Nat) (M : zM) (tick : Int) (speed : Int) (r_tick : R32 tick) (r_speed : R32 speed) (g0 : M 38 2 = 0) (p0 : 0 ≤ tick ∧ tick ≤ 5000) (p1 : -9 ≤ speed ∧ speed ≤ 9) : Met l yX2_tell (.code yX2_tell cX2_tell 5 (some .boolean) :: zt) (z_rm 0) (va_Pc [.ref (b + 38), .int (iI tick), .int (iI speed)] (zP D dA vwCl (z_tys dA) wC nC b M)) (va_Qi (zQi wC (zms wC [706, 831, 895]) M (fun z M1 => z = 1 ∧ True)) (zB D dA vwCl wC nC b) (zA nC b)) 0 0 (zA nC b) := by
  refine Met.ofW (cc := cX2_tell) (maxL := 5) (ret := (some .boolean)) (by decide) rfl ?_
  intro p e s m args below meth c s₁ B hml hv
  obtain ⟨hargs, hR0, hJ, hK⟩ := hv
  have hx := B.exec
  have hb := B.bytes
  have hr := B.returns
  have hts := atoms_spec (ws := .code yX2_tell cX2_tell 5 (some .boolean) :: zt) B.pre
  have hown : s.vm.findClass RX2 = some m.cls := findClass_of_methodNamed B.named
  have hlocks := B.notSynchronized
  have hS : zS D dA vwCl wC nC b (zms wC [706, 831, 895]) M M s.heap := ⟨hR0, hJ, zF_rf _ _⟩
  have hS0 : va_S (zA nC b) s.heap s.heap [] := va_S.rf
  have hl := lv_entry ([.ref (b + 38), .int (iI tick), .int (iI speed)]) (n := 5) (Nat.le_of_ble_eq_true rfl)
  have hent : entryFrame m args 5 = F0 m 0 ((lg_sl ([.ref (b + 38), .int (iI tick), .int (iI speed)]) ++ List.replicate (5 - (lg_sl ([.ref (b + 38), .int (iI tick), .int (iI speed)])).length) Slot.unset).toArray) [] := by rw [hargs]; exact lg_entry_eq m ([.ref (b + 38), .int (iI tick), .int (iI speed)]) 5
  rw [hent]
  generalize (lg_sl ([.ref (b + 38), .int (iI tick), .int (iI speed)]) ++ List.replicate (5 - (lg_sl ([.ref (b + 38), .int (iI tick), .int (iI speed)])).length) Slot.unset).toArray = ls at hl ⊢
  have hl : lv_has ls 5 [(0, .ref (b + 38)), (1, .int (iI tick)), (2, .int (iI speed))] := hl
  refine z_iconst hx hb dX2_tell_0 ?_
  refine lv_istore_n (lv' := [(3, .int (iI 0)), (0, .ref (b + 38)), (1, .int (iI tick)), (2, .int (iI speed))]) hx hb dX2_tell_1 rfl hl (by decide) rfl (fun ls hl => ?_)
  refine lv_iload_n hx hb dX2_tell_2 rfl (lv_at hl 0 rfl) ?_
  refine lv_aload_n hx hb dX2_tell_3 rfl (lv_at hl 1 rfl) ?_
  refine z_geti hx hb hts (z_memU u2) hown hK.1 hS f2_2 (by decide) (zkd_of (rfl : zcd wC 38 = 11) rfl) (Or.inl (hts _ (z_mem k84))) dX2_tell_4 ?_
  refine z_top (show M 38 2 = 0 from by rw [g0]) ?_
  refine z_icmp_ge (tgt := 26) hx hb (by decide) (by decide) dX2_tell_7 (by decide) (fun c1 => ?_) (fun c1 => absurd c1 (by decide))
  refine lv_iload_n hx hb dX2_tell_26 rfl (lv_at hl 0 rfl) ?_
  refine lv_aload_n hx hb dX2_tell_27 rfl (lv_at hl 1 rfl) ?_
  refine z_geti hx hb hts (z_memU u2) hown hK.1 hS f2_2 (by decide) (zkd_of (rfl : zcd wC 38 = 11) rfl) (Or.inl (hts _ (z_mem k84))) dX2_tell_28 ?_
  refine z_top (show M 38 2 = 0 from by rw [g0]) ?_
  refine z_icmp_ge (tgt := 53) hx hb (by decide) (by decide) dX2_tell_31 (by decide) (fun c2 => ?_) (fun c2 => absurd c2 (by decide))
  refine lv_aload_n hx hb dX2_tell_53 rfl (lv_at hl 1 rfl) ?_
  refine z_geti hx hb hts (z_memU u2) hown hK.1 hS f2_2 (by decide) (zkd_of (rfl : zcd wC 38 = 11) rfl) (Or.inl (hts _ (z_mem k84))) dX2_tell_54 ?_
  refine z_top (show M 38 2 = 0 from by rw [g0]) ?_
  refine z_bipush hx hb (by decide) dX2_tell_57 ?_
  refine z_icmp_lt (tgt := 64) hx hb (by decide) (by decide) dX2_tell_59 (by decide) (fun c3 => ?_) (fun c3 => absurd c3 (by decide))
  refine lv_aload_n hx hb dX2_tell_64 rfl (lv_at hl 1 rfl) ?_
  refine z_geti hx hb hts (z_memU u2) hown hK.1 hS f2_2 (by decide) (zkd_of (rfl : zcd wC 38 = 11) rfl) (Or.inl (hts _ (z_mem k84))) dX2_tell_65 ?_
  refine z_top (show M 38 2 = 0 from by rw [g0]) ?_
  refine lv_istore (lv' := [(4, .int (iI 0)), (3, .int (iI 0)), (0, .ref (b + 38)), (1, .int (iI tick)), (2, .int (iI speed))]) hx hb dX2_tell_68 hl (by decide) rfl (fun ls hl => ?_)
  refine lv_iload hx hb dX2_tell_70 (lv_at hl 0 rfl) ?_
  refine lv_iload_n hx hb dX2_tell_72 rfl (lv_at hl 1 rfl) ?_
  refine z_icmp_le (tgt := 114) hx hb (by decide) (by decide) dX2_tell_73 (by decide) (fun c4 => ?_) (fun c4 => absurd c4 (by decide))
  refine lv_aload_n hx hb dX2_tell_114 rfl (lv_at hl 2 rfl) ?_
  refine z_getr (j2 := 39) hx hb hts (z_memU u2) hown hK.1 hS f2_0 (by decide) (zkd_of (rfl : zcd wC 38 = 11) rfl) (zrf_of (rfl : zcd wC 38 = 11) rfl) (Or.inl (hts _ (z_mem k82))) dX2_tell_115 ?_
  refine lv_iload_n hx hb dX2_tell_118 rfl (lv_at hl 1 rfl) ?_
  refine lv_iload_n hx hb dX2_tell_119 rfl (lv_at hl 3 rfl) ?_
  refine z_iast (n := 12) hx hb hK.1 (t0 := 0) rfl hS hS0 (by decide) (zkd_of (rfl : zcd wC 39 = 12) rfl) (zln_of (rfl : zcd wC 39 = 12) rfl) (by decide) (by decide) (by decide) (zbd_in (rfl : zcd wC 39 = 12) rfl ⟨by omega, by omega⟩) (zms_of (rfl : zcd wC 39 = 12) rfl) dX2_tell_120 (fun H locs hS hS0 => ?_)
  obtain ⟨M5, e6⟩ : ∃ M5 : zM, M5 = zup M 39 ((0 : Int).toNat) tick := ⟨_, rfl⟩
  rw [← e6] at hS
  have J7 := hS.2.1
  refine lv_aload_n hx hb dX2_tell_121 rfl (lv_at hl 2 rfl) ?_
  refine z_getr (j2 := 40) hx hb hts (z_memU u2) hown hK.1 hS f2_1 (by decide) (zkd_of (rfl : zcd wC 38 = 11) rfl) (zrf_of (rfl : zcd wC 38 = 11) rfl) (Or.inl (hts _ (z_mem k83))) dX2_tell_122 ?_
  refine lv_iload_n hx hb dX2_tell_125 rfl (lv_at hl 1 rfl) ?_
  refine lv_iload_n hx hb dX2_tell_126 rfl (lv_at hl 4 rfl) ?_
  refine z_iast (n := 12) hx hb hK.1 (t0 := 0) rfl hS hS0 (by decide) (zkd_of (rfl : zcd wC 40 = 13) rfl) (zln_of (rfl : zcd wC 40 = 13) rfl) (by decide) (by decide) (by decide) (zbd_in (rfl : zcd wC 40 = 13) rfl ⟨by omega, by omega⟩) (zms_of (rfl : zcd wC 40 = 13) rfl) dX2_tell_127 (fun H locs hS hS0 => ?_)
  obtain ⟨M8, e9⟩ : ∃ M8 : zM, M8 = zup M5 40 ((0 : Int).toNat) speed := ⟨_, rfl⟩
  rw [← e9] at hS
  have J10 := hS.2.1
  refine lv_aload_n hx hb dX2_tell_128 rfl (lv_at hl 2 rfl) ?_
  refine lv_dup hx hb dX2_tell_129 rfl ?_
  refine z_geti hx hb hts (z_memU u2) hown hK.1 hS f2_2 (by decide) (zkd_of (rfl : zcd wC 38 = 11) rfl) (Or.inl (hts _ (z_mem k84))) dX2_tell_130 ?_
  refine z_top (show M8 38 2 = 0 from by rw [e9, zup_n _ _ (by omega), e6, zup_n _ _ (by omega), g0]) ?_
  refine z_iconst hx hb dX2_tell_133 ?_
  refine z_iadd hx hb dX2_tell_134 ?_
  refine z_top (show ((0 + 1) : Int) = 1 from (by decide)) ?_
  refine z_puti hx hb hts (z_memU u2) tyX2 tyX2_ok nmX2 hown hK.1 hS hS0 f2_2 (by decide) (zkd_of (rfl : zcd wC 38 = 11) rfl) (Or.inl (hts _ (z_mem k84))) rfl (z := 1) (by decide +kernel) (zbd_in (rfl : zcd wC 38 = 11) rfl (by decide)) (zms_of (rfl : zcd wC 38 = 11) rfl) dX2_tell_135 (fun H locs hS hS0 => ?_)
  obtain ⟨M11, e12⟩ : ∃ M11 : zM, M11 = zup M8 38 2 1 := ⟨_, rfl⟩
  rw [← e12] at hS
  have J13 := hS.2.1
  refine z_iconst hx hb dX2_tell_138 ?_
  exact z_zret hx hb hr hlocks hS hS0 (by first | decide | omega) (by first | exact trivial | exact ⟨rfl, trivial⟩ | omega | (refine ⟨by omega, trivial⟩)) dX2_tell_139

set_option maxHeartbeats 4000000 in
set_option maxRecDepth 100000 in
theorem n_steady38 (l : Launch) (D : va_G) (dA : Nat → ClassId) (b : Nat) (M : zM) (g0 : M 38 2 = 0) : Met l yX2_steady (.code yX2_steady cX2_steady 1 (some .int) :: zt) (z_rm 0) (va_Pc [.ref (b + 38)] (zP D dA vwCl (z_tys dA) wC nC b M)) (va_Qi (zQi wC (zms wC []) M (fun z M1 => M1 = M ∧ (z = 0 ∧ True))) (zB D dA vwCl wC nC b) (zA nC b)) 0 0 (zA nC b) := by
  refine Met.ofW (cc := cX2_steady) (maxL := 1) (ret := (some .int)) (by decide) rfl ?_
  intro p e s m args below meth c s₁ B hml hv
  obtain ⟨hargs, hR0, hJ, hK⟩ := hv
  have hx := B.exec
  have hb := B.bytes
  have hr := B.returns
  have hts := atoms_spec (ws := .code yX2_steady cX2_steady 1 (some .int) :: zt) B.pre
  have hown : s.vm.findClass RX2 = some m.cls := findClass_of_methodNamed B.named
  have hlocks := B.notSynchronized
  have hS : zS D dA vwCl wC nC b (zms wC []) M M s.heap := ⟨hR0, hJ, zF_rf _ _⟩
  have hS0 : va_S (zA nC b) s.heap s.heap [] := va_S.rf
  have hl := lv_entry ([.ref (b + 38)]) (n := 1) (Nat.le_of_ble_eq_true rfl)
  have hent : entryFrame m args 1 = F0 m 0 ((lg_sl ([.ref (b + 38)]) ++ List.replicate (1 - (lg_sl ([.ref (b + 38)])).length) Slot.unset).toArray) [] := by rw [hargs]; exact lg_entry_eq m ([.ref (b + 38)]) 1
  rw [hent]
  generalize (lg_sl ([.ref (b + 38)]) ++ List.replicate (1 - (lg_sl ([.ref (b + 38)])).length) Slot.unset).toArray = ls at hl ⊢
  have hl : lv_has ls 1 [(0, .ref (b + 38))] := hl
  refine lv_aload_n hx hb dX2_steady_0 rfl (lv_at hl 0 rfl) ?_
  refine z_geti hx hb hts (z_memU u2) hown hK.1 hS f2_2 (by decide) (zkd_of (rfl : zcd wC 38 = 11) rfl) (Or.inl (hts _ (z_mem k84))) dX2_steady_1 ?_
  refine z_top (show M 38 2 = 0 from by rw [g0]) ?_
  refine z_if_ne (tgt := 11) hx hb (by decide) dX2_steady_4 (by decide) (fun c1 => absurd c1 (by decide)) (fun c1 => ?_)
  refine z_iconst hx hb dX2_steady_7 ?_
  refine lv_goto (tgt := 22) hx hb dX2_steady_8 (by decide) ?_
  exact z_iret hx hb hr hlocks hS hS0 (by decide) (⟨rfl, by first | exact trivial | exact ⟨rfl, trivial⟩ | omega | (refine ⟨by omega, trivial⟩)⟩) dX2_steady_22

set_option maxHeartbeats 4000000 in
set_option maxRecDepth 100000 in
theorem n_wayTo38 (l : Launch) (D : va_G) (dA : Nat → ClassId) (b : Nat) (M : zM) (t : Int) (r_t : R64 t) (g0 : M 38 2 = 0) : Met l yX2_wayTo (.code yX2_wayTo cX2_wayTo 9 (some .long) :: zt) (z_rm 0) (va_Pc [.ref (b + 38), .long (iL t)] (zP D dA vwCl (z_tys dA) wC nC b M)) (va_Ql (zQl wC (zms wC []) M (fun z M1 => M1 = M ∧ (z = t ∧ True))) (zB D dA vwCl wC nC b) (zA nC b)) 0 0 (zA nC b) := by
  refine Met.ofW (cc := cX2_wayTo) (maxL := 9) (ret := (some .long)) (by decide) rfl ?_
  intro p e s m args below meth c s₁ B hml hv
  obtain ⟨hargs, hR0, hJ, hK⟩ := hv
  have hx := B.exec
  have hb := B.bytes
  have hr := B.returns
  have hts := atoms_spec (ws := .code yX2_wayTo cX2_wayTo 9 (some .long) :: zt) B.pre
  have hown : s.vm.findClass RX2 = some m.cls := findClass_of_methodNamed B.named
  have hlocks := B.notSynchronized
  have hS : zS D dA vwCl wC nC b (zms wC []) M M s.heap := ⟨hR0, hJ, zF_rf _ _⟩
  have hS0 : va_S (zA nC b) s.heap s.heap [] := va_S.rf
  have hl := lv_entry ([.ref (b + 38), .long (iL t)]) (n := 9) (Nat.le_of_ble_eq_true rfl)
  have hent : entryFrame m args 9 = F0 m 0 ((lg_sl ([.ref (b + 38), .long (iL t)]) ++ List.replicate (9 - (lg_sl ([.ref (b + 38), .long (iL t)])).length) Slot.unset).toArray) [] := by rw [hargs]; exact lg_entry_eq m ([.ref (b + 38), .long (iL t)]) 9
  rw [hent]
  generalize (lg_sl ([.ref (b + 38), .long (iL t)]) ++ List.replicate (9 - (lg_sl ([.ref (b + 38), .long (iL t)])).length) Slot.unset).toArray = ls at hl ⊢
  have hl : lv_has ls 9 [(0, .ref (b + 38)), (1, .long (iL t))] := hl
  refine z_lconst0 hx hb dX2_wayTo_0 ?_
  refine lv_lstore_n (lv' := [(3, .long (iL 0)), (0, .ref (b + 38)), (1, .long (iL t))]) hx hb dX2_wayTo_1 rfl hl (by decide) rfl (fun ls hl => ?_)
  refine z_lconst0 hx hb dX2_wayTo_2 ?_
  refine lv_lstore (lv' := [(5, .long (iL 0)), (3, .long (iL 0)), (0, .ref (b + 38)), (1, .long (iL t))]) hx hb dX2_wayTo_3 hl (by decide) rfl (fun ls hl => ?_)
  refine z_iconst hx hb dX2_wayTo_5 ?_
  refine lv_istore (lv' := [(7, .int (iI 1)), (5, .long (iL 0)), (3, .long (iL 0)), (0, .ref (b + 38)), (1, .long (iL t))]) hx hb dX2_wayTo_6 hl (by decide) rfl (fun ls hl => ?_)
  refine z_iconst hx hb dX2_wayTo_8 ?_
  refine lv_istore (lv' := [(8, .int (iI 0)), (7, .int (iI 1)), (5, .long (iL 0)), (3, .long (iL 0)), (0, .ref (b + 38)), (1, .long (iL t))]) hx hb dX2_wayTo_9 hl (by decide) rfl (fun ls hl => ?_)
  refine lv_iload hx hb dX2_wayTo_11 (lv_at hl 0 rfl) ?_
  refine lv_aload_n hx hb dX2_wayTo_13 rfl (lv_at hl 4 rfl) ?_
  refine z_geti hx hb hts (z_memU u2) hown hK.1 hS f2_2 (by decide) (zkd_of (rfl : zcd wC 38 = 11) rfl) (Or.inl (hts _ (z_mem k84))) dX2_wayTo_14 ?_
  refine z_top (show M 38 2 = 0 from by rw [g0]) ?_
  refine z_icmp_ge (tgt := 76) hx hb (by decide) (by decide) dX2_wayTo_17 (by decide) (fun c1 => ?_) (fun c1 => absurd c1 (by decide))
  refine lv_lload_n hx hb dX2_wayTo_76 rfl (lv_at hl 3 rfl) ?_
  refine lv_lload_n hx hb dX2_wayTo_77 rfl (lv_at hl 5 rfl) ?_
  refine lv_lload hx hb dX2_wayTo_78 (lv_at hl 2 rfl) ?_
  refine z_lsub hx hb dX2_wayTo_80 ?_
  refine lv_iload hx hb dX2_wayTo_81 (lv_at hl 1 rfl) ?_
  refine z_i2l hx hb (by decide) dX2_wayTo_83 ?_
  refine z_lmul hx hb dX2_wayTo_84 ?_
  refine z_ladd hx hb dX2_wayTo_85 ?_
  exact z_lret hx hb hr hlocks hS hS0 ⟨by omega, by omega⟩ (⟨rfl, by first | exact trivial | exact ⟨rfl, trivial⟩ | omega | (refine ⟨by omega, trivial⟩)⟩) dX2_wayTo_86

set_option maxHeartbeats 4000000 in
set_option maxRecDepth 100000 in
theorem n_forget38 (l : Launch) (D : va_G) (dA : Nat → ClassId) (b : Nat) (M : zM)  : Met l yX2_forget (.code yX2_forget cX2_forget 1 none :: zt) (z_rm 0) (va_Pc [.ref (b + 38)] (zP D dA vwCl (z_tys dA) wC nC b M)) (va_Qv (zQv wC (zms wC [706]) M (fun M1 => True)) (zB D dA vwCl wC nC b) (zA nC b)) 0 0 (zA nC b) := by
  refine Met.ofW (cc := cX2_forget) (maxL := 1) (ret := none) (by decide) rfl ?_
  intro p e s m args below meth c s₁ B hml hv
  obtain ⟨hargs, hR0, hJ, hK⟩ := hv
  have hx := B.exec
  have hb := B.bytes
  have hr := B.returns
  have hts := atoms_spec (ws := .code yX2_forget cX2_forget 1 none :: zt) B.pre
  have hown : s.vm.findClass RX2 = some m.cls := findClass_of_methodNamed B.named
  have hlocks := B.notSynchronized
  have hS : zS D dA vwCl wC nC b (zms wC [706]) M M s.heap := ⟨hR0, hJ, zF_rf _ _⟩
  have hS0 : va_S (zA nC b) s.heap s.heap [] := va_S.rf
  have hl := lv_entry ([.ref (b + 38)]) (n := 1) (Nat.le_of_ble_eq_true rfl)
  have hent : entryFrame m args 1 = F0 m 0 ((lg_sl ([.ref (b + 38)]) ++ List.replicate (1 - (lg_sl ([.ref (b + 38)])).length) Slot.unset).toArray) [] := by rw [hargs]; exact lg_entry_eq m ([.ref (b + 38)]) 1
  rw [hent]
  generalize (lg_sl ([.ref (b + 38)]) ++ List.replicate (1 - (lg_sl ([.ref (b + 38)])).length) Slot.unset).toArray = ls at hl ⊢
  have hl : lv_has ls 1 [(0, .ref (b + 38))] := hl
  refine lv_aload_n hx hb dX2_forget_0 rfl (lv_at hl 0 rfl) ?_
  refine z_iconst hx hb dX2_forget_1 ?_
  refine z_puti hx hb hts (z_memU u2) tyX2 tyX2_ok nmX2 hown hK.1 hS hS0 f2_2 (by decide) (zkd_of (rfl : zcd wC 38 = 11) rfl) (Or.inl (hts _ (z_mem k84))) rfl (z := 0) (by decide +kernel) (zbd_in (rfl : zcd wC 38 = 11) rfl (by decide)) (zms_of (rfl : zcd wC 38 = 11) rfl) dX2_forget_2 (fun H locs hS hS0 => ?_)
  obtain ⟨M1, e2⟩ : ∃ M1 : zM, M1 = zup M 38 2 0 := ⟨_, rfl⟩
  rw [← e2] at hS
  have J3 := hS.2.1
  exact z_vret hx hb hr hlocks hS hS0 (by first | exact trivial | exact ⟨rfl, trivial⟩ | omega | (refine ⟨by omega, trivial⟩)) dX2_forget_5

set_option maxHeartbeats 4000000 in
set_option maxRecDepth 100000 in
theorem n_motorOf (l : Launch) (D : va_G) (dA : Nat → ClassId) (b : Nat) (M : zM) (i : Int) (r_i : R32 i) : Met l yX9_motorOf (.code yX9_motorOf cX9_motorOf 2 (some (.object "TapeRings$Motor")) :: zt) (z_rm 0) (va_Pc [.ref (b + 32), .int (iI i)] (zP D dA vwCl (z_tys dA) wC nC b M)) (va_Qq (zQq wC (zms wC []) M (fun z M1 => M1 = M ∧ ((z = some (b + 35) ∧ i = 0) ∨ (z = some (b + 38) ∧ i ≠ 0)))) (zB D dA vwCl wC nC b) (zA nC b)) 0 0 (zA nC b) := by
  refine Met.ofW (cc := cX9_motorOf) (maxL := 2) (ret := (some (.object "TapeRings$Motor"))) (by decide) rfl ?_
  intro p e s m args below meth c s₁ B hml hv
  obtain ⟨hargs, hR0, hJ, hK⟩ := hv
  have hx := B.exec
  have hb := B.bytes
  have hr := B.returns
  have hts := atoms_spec (ws := .code yX9_motorOf cX9_motorOf 2 (some (.object "TapeRings$Motor")) :: zt) B.pre
  have hown : s.vm.findClass RX9 = some m.cls := findClass_of_methodNamed B.named
  have hlocks := B.notSynchronized
  have hS : zS D dA vwCl wC nC b (zms wC []) M M s.heap := ⟨hR0, hJ, zF_rf _ _⟩
  have hS0 : va_S (zA nC b) s.heap s.heap [] := va_S.rf
  have hl := lv_entry ([.ref (b + 32), .int (iI i)]) (n := 2) (Nat.le_of_ble_eq_true rfl)
  have hent : entryFrame m args 2 = F0 m 0 ((lg_sl ([.ref (b + 32), .int (iI i)]) ++ List.replicate (2 - (lg_sl ([.ref (b + 32), .int (iI i)])).length) Slot.unset).toArray) [] := by rw [hargs]; exact lg_entry_eq m ([.ref (b + 32), .int (iI i)]) 2
  rw [hent]
  generalize (lg_sl ([.ref (b + 32), .int (iI i)]) ++ List.replicate (2 - (lg_sl ([.ref (b + 32), .int (iI i)])).length) Slot.unset).toArray = ls at hl ⊢
  have hl : lv_has ls 2 [(0, .ref (b + 32)), (1, .int (iI i))] := hl
  refine lv_aload_n hx hb dX9_motorOf_0 rfl (lv_at hl 0 rfl) ?_
  refine z_getr (j2 := 33) hx hb hts (z_memU u9) hown hK.1 hS f9_0 (by decide) (zkd_of (rfl : zcd wC 32 = 8) rfl) (zrf_of (rfl : zcd wC 32 = 8) rfl) (Or.inl (hts _ (z_mem k116))) dX9_motorOf_1 ?_
  refine lv_iload_n hx hb dX9_motorOf_4 rfl (lv_at hl 1 rfl) ?_
  refine z_if_ne (tgt := 12) hx hb r_i dX9_motorOf_5 (by decide) (fun c1 => ?_) (fun c1 => ?_)
  · skip
    refine z_iconst hx hb dX9_motorOf_12 ?_
    refine z_aald (n := 2) (j2 := 38) hx hb hK.1 (t0 := 5) (r := 5) (by decide) rfl rfl hS (by decide) (zkd_of (rfl : zcd wC 33 = 9) rfl) (zln_of (rfl : zcd wC 33 = 9) rfl) (by decide) (by decide) (by decide) (zrf_of (rfl : zcd wC 33 = 9) rfl) dX9_motorOf_13 ?_
    exact z_aret (r := (some (b + 38))) hx hb hr (Or.inl ⟨_, rfl⟩) hlocks hS hS0 rfl (⟨rfl, Or.inr ⟨rfl, by omega⟩⟩) dX9_motorOf_14
  · skip
    refine z_iconst hx hb dX9_motorOf_8 ?_
    refine lv_goto (tgt := 13) hx hb dX9_motorOf_9 (by decide) ?_
    refine z_aald (n := 2) (j2 := 35) hx hb hK.1 (t0 := 5) (r := 5) (by decide) rfl rfl hS (by decide) (zkd_of (rfl : zcd wC 33 = 9) rfl) (zln_of (rfl : zcd wC 33 = 9) rfl) (by decide) (by decide) (by decide) (zrf_of (rfl : zcd wC 33 = 9) rfl) dX9_motorOf_13 ?_
    exact z_aret (r := (some (b + 35))) hx hb hr (Or.inl ⟨_, rfl⟩) hlocks hS hS0 rfl (⟨rfl, Or.inl ⟨rfl, by omega⟩⟩) dX9_motorOf_14

set_option maxHeartbeats 4000000 in
set_option maxRecDepth 100000 in
theorem n_steady (l : Launch) (D : va_G) (dA : Nat → ClassId) (b : Nat) (M : zM) (g0 : M 35 2 = 0) (g1 : M 38 2 = 0) : Met l yX9_steady (.code yX9_steady cX9_steady 1 (some .int) :: zt) (z_rm 1) (va_Pc [.ref (b + 32)] (zP D dA vwCl (z_tys dA) wC nC b M)) (va_Qi (zQi wC (zms wC []) M (fun z M1 => M1 = M ∧ (z = 0 ∧ True))) (zB D dA vwCl wC nC b) (zA nC b)) 0 0 (zA nC b) := by
  refine Met.ofW (cc := cX9_steady) (maxL := 1) (ret := (some .int)) (by decide) rfl ?_
  intro p e s m args below meth c s₁ B hml hv
  obtain ⟨hargs, hR0, hJ, hK⟩ := hv
  have hx := B.exec
  have hb := B.bytes
  have hr := B.returns
  have hts := atoms_spec (ws := .code yX9_steady cX9_steady 1 (some .int) :: zt) B.pre
  have hown : s.vm.findClass RX9 = some m.cls := findClass_of_methodNamed B.named
  have hlocks := B.notSynchronized
  have hS : zS D dA vwCl wC nC b (zms wC []) M M s.heap := ⟨hR0, hJ, zF_rf _ _⟩
  have hS0 : va_S (zA nC b) s.heap s.heap [] := va_S.rf
  have hl := lv_entry ([.ref (b + 32)]) (n := 1) (Nat.le_of_ble_eq_true rfl)
  have hent : entryFrame m args 1 = F0 m 0 ((lg_sl ([.ref (b + 32)]) ++ List.replicate (1 - (lg_sl ([.ref (b + 32)])).length) Slot.unset).toArray) [] := by rw [hargs]; exact lg_entry_eq m ([.ref (b + 32)]) 1
  rw [hent]
  generalize (lg_sl ([.ref (b + 32)]) ++ List.replicate (1 - (lg_sl ([.ref (b + 32)])).length) Slot.unset).toArray = ls at hl ⊢
  have hl : lv_has ls 1 [(0, .ref (b + 32))] := hl
  refine lv_aload_n hx hb dX9_steady_0 rfl (lv_at hl 0 rfl) ?_
  refine z_getr (j2 := 33) hx hb hts (z_memU u9) hown hK.1 hS f9_0 (by decide) (zkd_of (rfl : zcd wC 32 = 8) rfl) (zrf_of (rfl : zcd wC 32 = 8) rfl) (Or.inl (hts _ (z_mem k116))) dX9_steady_1 ?_
  refine z_iconst hx hb dX9_steady_4 ?_
  refine z_aald (n := 2) (j2 := 35) hx hb hK.1 (t0 := 5) (r := 5) (by decide) rfl rfl hS (by decide) (zkd_of (rfl : zcd wC 33 = 9) rfl) (zln_of (rfl : zcd wC 33 = 9) rfl) (by decide) (by decide) (by decide) (zrf_of (rfl : zcd wC 33 = 9) rfl) dX9_steady_5 ?_
  refine z_calli (va_runV (As := []) (rest := []) ⟨hx, hb, hml, hown, hts⟩ (n_steady35 l D dA b M (by rw [g0])) (cwV 0 hts (z_gV k519 k488 k489 k5 k490) rfl rfl rfl dm_X2_steady ⟨Nat.le_of_ble_eq_true rfl, Nat.le_of_ble_eq_true rfl⟩) ⟨zP_blind, (z_recv hS hK.1 (by decide) (zkd_of (rfl : zcd wC 35 = 11) rfl) (by decide) (rfl : vwCl[2]? = some (RX2, TX2, 3))), z_pre hS hK⟩ rfl rfl hl.1 rfl (lv_room (Nat.le_of_ble_eq_true rfl)) dX9_steady_6 ⟨Nat.le_refl _, Nat.le_refl _⟩) hS hS0 (zms_sub rfl) (fun z5 M1 H locs r6 h2 F3 hS hS0 => ?_)
  obtain ⟨h7, h2⟩ := h2
  rw [h7] at hS
  have h8 := h2
  obtain ⟨z5e, h8⟩ := h8
  subst z5e
  refine lv_aload_n hx hb dX9_steady_9 rfl (lv_at hl 0 rfl) ?_
  refine z_getr (j2 := 33) hx hb hts (z_memU u9) hown hK.1 hS f9_0 (by decide) (zkd_of (rfl : zcd wC 32 = 8) rfl) (zrf_of (rfl : zcd wC 32 = 8) rfl) (Or.inl (hts _ (z_mem k116))) dX9_steady_10 ?_
  refine z_iconst hx hb dX9_steady_13 ?_
  refine z_aald (n := 2) (j2 := 38) hx hb hK.1 (t0 := 5) (r := 5) (by decide) rfl rfl hS (by decide) (zkd_of (rfl : zcd wC 33 = 9) rfl) (zln_of (rfl : zcd wC 33 = 9) rfl) (by decide) (by decide) (by decide) (zrf_of (rfl : zcd wC 33 = 9) rfl) dX9_steady_14 ?_
  refine z_calli (va_runV (As := []) (rest := [.int (iI 0)]) ⟨hx, hb, hml, hown, hts⟩ (n_steady38 l D dA b M (by rw [g1])) (cwV 0 hts (z_gV k519 k488 k489 k5 k490) rfl rfl rfl dm_X2_steady ⟨Nat.le_of_ble_eq_true rfl, Nat.le_of_ble_eq_true rfl⟩) ⟨zP_blind, (z_recv hS hK.1 (by decide) (zkd_of (rfl : zcd wC 38 = 11) rfl) (by decide) (rfl : vwCl[2]? = some (RX2, TX2, 3))), z_pre hS hK⟩ rfl rfl hl.1 rfl (lv_room (Nat.le_of_ble_eq_true rfl)) dX9_steady_15 ⟨Nat.le_refl _, Nat.le_refl _⟩) hS hS0 (zms_sub rfl) (fun z13 M9 H locs r14 h10 F11 hS hS0 => ?_)
  obtain ⟨h15, h10⟩ := h10
  rw [h15] at hS
  have h16 := h10
  obtain ⟨z13e, h16⟩ := h16
  subst z13e
  refine z_mmax hx hb (hml.trans hl.1.symm) hown (hts _ (z_mem k520)) (hts _ (z_mem k341)) (hts _ (z_mem k15)) (hts _ (z_mem k342)) (by exact Nat.le_of_ble_eq_true rfl) (by exact Nat.le_of_ble_eq_true rfl) (by exact Nat.le_refl _) (by exact Nat.le_refl _) (by decide) (by decide) dX9_steady_18 ?_
  refine z_top (show ((max 0 0) : Int) = 0 from by decide) ?_
  exact z_iret hx hb hr hlocks hS hS0 (by decide) (⟨rfl, by first | exact trivial | exact ⟨rfl, trivial⟩ | omega | (refine ⟨by omega, trivial⟩)⟩) dX9_steady_21

set_option maxHeartbeats 4000000 in
set_option maxRecDepth 100000 in
theorem n_empty (l : Launch) (D : va_G) (dA : Nat → ClassId) (b : Nat) (M : zM) (g0 : M 32 2 = 0) : Met l yX9_empty (.code yX9_empty cX9_empty 3 (some .int) :: zt) (z_rm 1) (va_Pc [.ref (b + 32)] (zP D dA vwCl (z_tys dA) wC nC b M)) (va_Qi (zQi wC (zms wC [514, 706]) M (fun z M1 => z = 0 ∧ True)) (zB D dA vwCl wC nC b) (zA nC b)) 0 0 (zA nC b) := by
  refine Met.ofW (cc := cX9_empty) (maxL := 3) (ret := (some .int)) (by decide) rfl ?_
  intro p e s m args below meth c s₁ B hml hv
  obtain ⟨hargs, hR0, hJ, hK⟩ := hv
  have hx := B.exec
  have hb := B.bytes
  have hr := B.returns
  have hts := atoms_spec (ws := .code yX9_empty cX9_empty 3 (some .int) :: zt) B.pre
  have hown : s.vm.findClass RX9 = some m.cls := findClass_of_methodNamed B.named
  have hlocks := B.notSynchronized
  have hS : zS D dA vwCl wC nC b (zms wC [514, 706]) M M s.heap := ⟨hR0, hJ, zF_rf _ _⟩
  have hS0 : va_S (zA nC b) s.heap s.heap [] := va_S.rf
  have hl := lv_entry ([.ref (b + 32)]) (n := 3) (Nat.le_of_ble_eq_true rfl)
  have hent : entryFrame m args 3 = F0 m 0 ((lg_sl ([.ref (b + 32)]) ++ List.replicate (3 - (lg_sl ([.ref (b + 32)])).length) Slot.unset).toArray) [] := by rw [hargs]; exact lg_entry_eq m ([.ref (b + 32)]) 3
  rw [hent]
  generalize (lg_sl ([.ref (b + 32)]) ++ List.replicate (3 - (lg_sl ([.ref (b + 32)])).length) Slot.unset).toArray = ls at hl ⊢
  have hl : lv_has ls 3 [(0, .ref (b + 32))] := hl
  refine lv_aload_n hx hb dX9_empty_0 rfl (lv_at hl 0 rfl) ?_
  refine z_geti hx hb hts (z_memU u9) hown hK.1 hS f9_2 (by decide) (zkd_of (rfl : zcd wC 32 = 8) rfl) (Or.inl (hts _ (z_mem k118))) dX9_empty_1 ?_
  refine z_top (show M 32 2 = 0 from by rw [g0]) ?_
  refine lv_istore_n (lv' := [(1, .int (iI 0)), (0, .ref (b + 32))]) hx hb dX9_empty_4 rfl hl (by decide) rfl (fun ls hl => ?_)
  refine lv_aload_n hx hb dX9_empty_5 rfl (lv_at hl 1 rfl) ?_
  refine z_iconst hx hb dX9_empty_6 ?_
  refine z_puti hx hb hts (z_memU u9) tyX9 tyX9_ok nmX9 hown hK.1 hS hS0 f9_2 (by decide) (zkd_of (rfl : zcd wC 32 = 8) rfl) (Or.inl (hts _ (z_mem k118))) rfl (z := 0) (by decide +kernel) (zbd_in (rfl : zcd wC 32 = 8) rfl (by decide)) (zms_of (rfl : zcd wC 32 = 8) rfl) dX9_empty_7 (fun H locs hS hS0 => ?_)
  obtain ⟨M1, e2⟩ : ∃ M1 : zM, M1 = zup M 32 2 0 := ⟨_, rfl⟩
  rw [← e2] at hS
  have J3 := hS.2.1
  refine z_iconst hx hb dX9_empty_10 ?_
  refine lv_istore_n (lv' := [(2, .int (iI 0)), (1, .int (iI 0)), (0, .ref (b + 32))]) hx hb dX9_empty_11 rfl hl (by decide) rfl (fun ls hl => ?_)
  refine lv_iload_n hx hb dX9_empty_12 rfl (lv_at hl 0 rfl) ?_
  refine z_iconst hx hb dX9_empty_13 ?_
  refine z_icmp_ge (tgt := 32) hx hb (by decide) (by decide) dX9_empty_14 (by decide) (fun c4 => absurd c4 (by decide)) (fun c4 => ?_)
  refine lv_aload_n hx hb dX9_empty_17 rfl (lv_at hl 2 rfl) ?_
  refine z_getr (j2 := 33) hx hb hts (z_memU u9) hown hK.1 hS f9_0 (by decide) (zkd_of (rfl : zcd wC 32 = 8) rfl) (zrf_of (rfl : zcd wC 32 = 8) rfl) (Or.inl (hts _ (z_mem k116))) dX9_empty_18 ?_
  refine lv_iload_n hx hb dX9_empty_21 rfl (lv_at hl 0 rfl) ?_
  refine z_aald (n := 2) (j2 := 35) hx hb hK.1 (t0 := 5) (r := 5) (by decide) rfl rfl hS (by decide) (zkd_of (rfl : zcd wC 33 = 9) rfl) (zln_of (rfl : zcd wC 33 = 9) rfl) (by decide) (by decide) (by decide) (zrf_of (rfl : zcd wC 33 = 9) rfl) dX9_empty_22 ?_
  refine z_callv (va_runV (As := []) (rest := []) ⟨hx, hb, hml, hown, hts⟩ (n_forget35 l D dA b M1) (cwV 0 hts (z_gV k458 k459 k460 k5 k461) rfl rfl rfl dm_X2_forget ⟨Nat.le_of_ble_eq_true rfl, Nat.le_of_ble_eq_true rfl⟩) ⟨zP_blind, (z_recv hS hK.1 (by decide) (zkd_of (rfl : zcd wC 35 = 11) rfl) (by decide) (rfl : vwCl[2]? = some (RX2, TX2, 3))), z_pre hS hK⟩ rfl rfl hl.1 rfl (lv_room (Nat.le_of_ble_eq_true rfl)) dX9_empty_23 ⟨Nat.le_refl _, Nat.le_refl _⟩) hS hS0 (zms_sub rfl) (fun M5 H locs h6 F7 hS hS0 => ?_)
  have J8 := hS.2.1
  refine z_iinc (lv' := [(2, .int (iI (0 + 1))), (1, .int (iI 0)), (0, .ref (b + 32))]) hx hb dX9_empty_26 hl (k := 0) rfl (by decide) rfl (fun ls hl => ?_)
  rw [show ((0 + 1) : Int) = 1 from by decide] at hl
  refine lv_goto (tgt := 12) hx hb dX9_empty_29 (by decide) ?_
  refine lv_iload_n hx hb dX9_empty_12 rfl (lv_at hl 0 rfl) ?_
  refine z_iconst hx hb dX9_empty_13 ?_
  refine z_icmp_ge (tgt := 32) hx hb (by decide) (by decide) dX9_empty_14 (by decide) (fun c9 => absurd c9 (by decide)) (fun c9 => ?_)
  refine lv_aload_n hx hb dX9_empty_17 rfl (lv_at hl 2 rfl) ?_
  refine z_getr (j2 := 33) hx hb hts (z_memU u9) hown hK.1 hS f9_0 (by decide) (zkd_of (rfl : zcd wC 32 = 8) rfl) (zrf_of (rfl : zcd wC 32 = 8) rfl) (Or.inl (hts _ (z_mem k116))) dX9_empty_18 ?_
  refine lv_iload_n hx hb dX9_empty_21 rfl (lv_at hl 0 rfl) ?_
  refine z_aald (n := 2) (j2 := 38) hx hb hK.1 (t0 := 5) (r := 5) (by decide) rfl rfl hS (by decide) (zkd_of (rfl : zcd wC 33 = 9) rfl) (zln_of (rfl : zcd wC 33 = 9) rfl) (by decide) (by decide) (by decide) (zrf_of (rfl : zcd wC 33 = 9) rfl) dX9_empty_22 ?_
  refine z_callv (va_runV (As := []) (rest := []) ⟨hx, hb, hml, hown, hts⟩ (n_forget38 l D dA b M5) (cwV 0 hts (z_gV k458 k459 k460 k5 k461) rfl rfl rfl dm_X2_forget ⟨Nat.le_of_ble_eq_true rfl, Nat.le_of_ble_eq_true rfl⟩) ⟨zP_blind, (z_recv hS hK.1 (by decide) (zkd_of (rfl : zcd wC 38 = 11) rfl) (by decide) (rfl : vwCl[2]? = some (RX2, TX2, 3))), z_pre hS hK⟩ rfl rfl hl.1 rfl (lv_room (Nat.le_of_ble_eq_true rfl)) dX9_empty_23 ⟨Nat.le_refl _, Nat.le_refl _⟩) hS hS0 (zms_sub rfl) (fun M10 H locs h11 F12 hS hS0 => ?_)
  have J13 := hS.2.1
  refine z_iinc (lv' := [(2, .int (iI (1 + 1))), (1, .int (iI 0)), (0, .ref (b + 32))]) hx hb dX9_empty_26 hl (k := 0) rfl (by decide) rfl (fun ls hl => ?_)
  rw [show ((1 + 1) : Int) = 2 from by decide] at hl
  refine lv_goto (tgt := 12) hx hb dX9_empty_29 (by decide) ?_
  refine lv_iload_n hx hb dX9_empty_12 rfl (lv_at hl 0 rfl) ?_
  refine z_iconst hx hb dX9_empty_13 ?_
  refine z_icmp_ge (tgt := 32) hx hb (by decide) (by decide) dX9_empty_14 (by decide) (fun c14 => ?_) (fun c14 => absurd c14 (by decide))
  refine lv_iload_n hx hb dX9_empty_32 rfl (lv_at hl 1 rfl) ?_
  exact z_iret hx hb hr hlocks hS hS0 (by decide) (by first | exact trivial | exact ⟨rfl, trivial⟩ | omega | (refine ⟨by omega, trivial⟩)) dX9_empty_33

set_option maxHeartbeats 4000000 in
set_option maxRecDepth 100000 in
theorem n_heardInAll (l : Launch) (D : va_G) (dA : Nat → ClassId) (b : Nat) (M : zM) (t : Int) (r_t : R64 t) (g0 : M 32 2 = 0) : Met l yX9_heardInAll (.code yX9_heardInAll cX9_heardInAll 5 (some .int) :: zt) (z_rm 0) (va_Pc [.ref (b + 32), .long (iL t)] (zP D dA vwCl (z_tys dA) wC nC b M)) (va_Qi (zQi wC (zms wC []) M (fun z M1 => M1 = M ∧ (z = 0 ∧ True))) (zB D dA vwCl wC nC b) (zA nC b)) 0 0 (zA nC b) := by
  refine Met.ofW (cc := cX9_heardInAll) (maxL := 5) (ret := (some .int)) (by decide) rfl ?_
  intro p e s m args below meth c s₁ B hml hv
  obtain ⟨hargs, hR0, hJ, hK⟩ := hv
  have hx := B.exec
  have hb := B.bytes
  have hr := B.returns
  have hts := atoms_spec (ws := .code yX9_heardInAll cX9_heardInAll 5 (some .int) :: zt) B.pre
  have hown : s.vm.findClass RX9 = some m.cls := findClass_of_methodNamed B.named
  have hlocks := B.notSynchronized
  have hS : zS D dA vwCl wC nC b (zms wC []) M M s.heap := ⟨hR0, hJ, zF_rf _ _⟩
  have hS0 : va_S (zA nC b) s.heap s.heap [] := va_S.rf
  have hl := lv_entry ([.ref (b + 32), .long (iL t)]) (n := 5) (Nat.le_of_ble_eq_true rfl)
  have hent : entryFrame m args 5 = F0 m 0 ((lg_sl ([.ref (b + 32), .long (iL t)]) ++ List.replicate (5 - (lg_sl ([.ref (b + 32), .long (iL t)])).length) Slot.unset).toArray) [] := by rw [hargs]; exact lg_entry_eq m ([.ref (b + 32), .long (iL t)]) 5
  rw [hent]
  generalize (lg_sl ([.ref (b + 32), .long (iL t)]) ++ List.replicate (5 - (lg_sl ([.ref (b + 32), .long (iL t)])).length) Slot.unset).toArray = ls at hl ⊢
  have hl : lv_has ls 5 [(0, .ref (b + 32)), (1, .long (iL t))] := hl
  refine z_iconst hx hb dX9_heardInAll_0 ?_
  refine lv_istore_n (lv' := [(3, .int (iI 0)), (0, .ref (b + 32)), (1, .long (iL t))]) hx hb dX9_heardInAll_1 rfl hl (by decide) rfl (fun ls hl => ?_)
  refine z_iconst hx hb dX9_heardInAll_2 ?_
  refine lv_istore (lv' := [(4, .int (iI 0)), (3, .int (iI 0)), (0, .ref (b + 32)), (1, .long (iL t))]) hx hb dX9_heardInAll_3 hl (by decide) rfl (fun ls hl => ?_)
  refine lv_iload hx hb dX9_heardInAll_5 (lv_at hl 0 rfl) ?_
  refine lv_aload_n hx hb dX9_heardInAll_7 rfl (lv_at hl 2 rfl) ?_
  refine z_geti hx hb hts (z_memU u9) hown hK.1 hS f9_2 (by decide) (zkd_of (rfl : zcd wC 32 = 8) rfl) (Or.inl (hts _ (z_mem k118))) dX9_heardInAll_8 ?_
  refine z_top (show M 32 2 = 0 from by rw [g0]) ?_
  refine z_icmp_ge (tgt := 35) hx hb (by decide) (by decide) dX9_heardInAll_11 (by decide) (fun c1 => ?_) (fun c1 => absurd c1 (by decide))
  refine lv_iload_n hx hb dX9_heardInAll_35 rfl (lv_at hl 1 rfl) ?_
  exact z_iret hx hb hr hlocks hS hS0 (by decide) (⟨rfl, by first | exact trivial | exact ⟨rfl, trivial⟩ | omega | (refine ⟨by omega, trivial⟩)⟩) dX9_heardInAll_36

set_option maxHeartbeats 4000000 in
set_option maxRecDepth 100000 in
theorem n_look (l : Launch) (D : va_G) (dA : Nat → ClassId) (b : Nat) (M : zM) (g0 : M 32 2 = 0) (g1 : M 35 2 = 0) (g2 : M 38 2 = 0) : Met l yX1_look (.code yX1_look cX1_look 4 none :: zt) (z_rm 2) (va_Pc [.ref (b + 57), .ref (b + 32)] (zP D dA vwCl (z_tys dA) wC nC b M)) (va_Qv (zQv wC (zms wC [1024, 1025]) M (fun M1 => (True) ∧ M1 57 0 = 0 ∧ M1 57 1 = 0)) (zB D dA vwCl wC nC b) (zA nC b)) 0 0 (zA nC b) := by
  refine Met.ofW (cc := cX1_look) (maxL := 4) (ret := none) (by decide) rfl ?_
  intro p e s m args below meth c s₁ B hml hv
  obtain ⟨hargs, hR0, hJ, hK⟩ := hv
  have hx := B.exec
  have hb := B.bytes
  have hr := B.returns
  have hts := atoms_spec (ws := .code yX1_look cX1_look 4 none :: zt) B.pre
  have hown : s.vm.findClass RX1 = some m.cls := findClass_of_methodNamed B.named
  have hlocks := B.notSynchronized
  have hS : zS D dA vwCl wC nC b (zms wC [1024, 1025]) M M s.heap := ⟨hR0, hJ, zF_rf _ _⟩
  have hS0 : va_S (zA nC b) s.heap s.heap [] := va_S.rf
  have hl := lv_entry ([.ref (b + 57), .ref (b + 32)]) (n := 4) (Nat.le_of_ble_eq_true rfl)
  have hent : entryFrame m args 4 = F0 m 0 ((lg_sl ([.ref (b + 57), .ref (b + 32)]) ++ List.replicate (4 - (lg_sl ([.ref (b + 57), .ref (b + 32)])).length) Slot.unset).toArray) [] := by rw [hargs]; exact lg_entry_eq m ([.ref (b + 57), .ref (b + 32)]) 4
  rw [hent]
  generalize (lg_sl ([.ref (b + 57), .ref (b + 32)]) ++ List.replicate (4 - (lg_sl ([.ref (b + 57), .ref (b + 32)])).length) Slot.unset).toArray = ls at hl ⊢
  have hl : lv_has ls 4 [(0, .ref (b + 57)), (1, .ref (b + 32))] := hl
  refine lv_aload_n hx hb dX1_look_0 rfl (lv_at hl 0 rfl) ?_
  refine lv_aload_n hx hb dX1_look_1 rfl (lv_at hl 1 rfl) ?_
  refine z_calli (va_runV (As := []) (rest := [.ref (b + 57)]) ⟨hx, hb, hml, hown, hts⟩ (n_steady l D dA b M (by rw [g1]) (by rw [g2])) (cwV 0 hts (z_gV k515 k516 k517 k4 k518) rfl rfl rfl dm_X9_steady ⟨Nat.le_of_ble_eq_true rfl, Nat.le_of_ble_eq_true rfl⟩) ⟨zP_blind, (z_recv hS hK.1 (by decide) (zkd_of (rfl : zcd wC 32 = 8) rfl) (by decide) (rfl : vwCl[9]? = some (RX9, TX9, 3))), z_pre hS hK⟩ rfl rfl hl.1 rfl (lv_room (Nat.le_of_ble_eq_true rfl)) dX1_look_2 ⟨Nat.le_refl _, Nat.le_refl _⟩) hS hS0 (zms_sub rfl) (fun z5 M1 H locs r6 h2 F3 hS hS0 => ?_)
  obtain ⟨h7, h2⟩ := h2
  rw [h7] at hS
  have h8 := h2
  obtain ⟨z5e, h8⟩ := h8
  subst z5e
  refine z_i2l hx hb (by decide) dX1_look_5 ?_
  refine z_putl hx hb hts (z_memU u1) tyX1 tyX1_ok nmX1 hown hK.1 hS hS0 f1_1 (by decide) (zkd_of (rfl : zcd wC 57 = 16) rfl) (Or.inl (hts _ (z_mem k130))) rfl (z := 0) (by decide +kernel) (zbd_in (rfl : zcd wC 57 = 16) rfl (by decide)) (zms_of (rfl : zcd wC 57 = 16) rfl) dX1_look_6 (fun H locs hS hS0 => ?_)
  obtain ⟨M9, e10⟩ : ∃ M9 : zM, M9 = zup M 57 1 0 := ⟨_, rfl⟩
  rw [← e10] at hS
  have J11 := hS.2.1
  refine lv_aload_n hx hb dX1_look_9 rfl (lv_at hl 0 rfl) ?_
  refine z_iconst hx hb dX1_look_10 ?_
  refine z_puti hx hb hts (z_memU u1) tyX1 tyX1_ok nmX1 hown hK.1 hS hS0 f1_0 (by decide) (zkd_of (rfl : zcd wC 57 = 16) rfl) (Or.inl (hts _ (z_mem k129))) rfl (z := 0) (by decide +kernel) (zbd_in (rfl : zcd wC 57 = 16) rfl (by decide)) (zms_of (rfl : zcd wC 57 = 16) rfl) dX1_look_11 (fun H locs hS hS0 => ?_)
  obtain ⟨M12, e13⟩ : ∃ M12 : zM, M12 = zup M9 57 0 0 := ⟨_, rfl⟩
  rw [← e13] at hS
  have J14 := hS.2.1
  refine z_iconst hx hb dX1_look_14 ?_
  refine lv_istore_n (lv' := [(2, .int (iI 0)), (0, .ref (b + 57)), (1, .ref (b + 32))]) hx hb dX1_look_15 rfl hl (by decide) rfl (fun ls hl => ?_)
  refine lv_iload_n hx hb dX1_look_16 rfl (lv_at hl 0 rfl) ?_
  refine z_iconst hx hb dX1_look_17 ?_
  refine z_icmp_ge (tgt := 76) hx hb (by decide) (by decide) dX1_look_18 (by decide) (fun c15 => absurd c15 (by decide)) (fun c15 => ?_)
  refine lv_aload_n hx hb dX1_look_21 rfl (lv_at hl 2 rfl) ?_
  refine lv_iload_n hx hb dX1_look_22 rfl (lv_at hl 0 rfl) ?_
  refine z_callq (va_runV (As := [.int (iI 0)]) (rest := []) ⟨hx, hb, hml, hown, hts⟩ (n_find l D dA b M12 0 (by decide) (by rw [e13, zup_n _ _ (by omega), e10, zup_n _ _ (by omega), g0])) (cwV 1 hts (z_gV k521 k412 k413 k4 k414) rfl rfl rfl dm_X9_find ⟨Nat.le_of_ble_eq_true rfl, Nat.le_of_ble_eq_true rfl⟩) ⟨zP_blind, (z_recv hS hK.1 (by decide) (zkd_of (rfl : zcd wC 32 = 8) rfl) (by decide) (rfl : vwCl[9]? = some (RX9, TX9, 3))), z_pre hS hK⟩ rfl rfl hl.1 rfl (lv_room (Nat.le_of_ble_eq_true rfl)) dX1_look_23 ⟨Nat.le_refl _, Nat.le_refl _⟩) hS hS0 (zms_sub rfl) (fun z20 M16 H locs h17 F18 hS hS0 => ?_)
  obtain ⟨h21, h17⟩ := h17
  rw [h21] at hS
  have h22 := h17
  obtain ⟨z20e, h22⟩ := h22
  subst z20e
  show W _ _ _ _ _ _ _ _ _ _ _ _ _ _ _ (F0 m _ ls (.null :: []))
  refine lv_astore_nN (lv' := [(3, .null), (2, .int (iI 0)), (0, .ref (b + 57)), (1, .ref (b + 32))]) hx hb dX1_look_26 rfl hl (by decide) rfl (fun ls hl => ?_)
  refine lv_aload_nN hx hb dX1_look_27 rfl (lv_at hl 0 rfl) ?_
  refine lv_ifnullN (tgt := 70) hx hb dX1_look_28 (by decide) ?_
  refine z_iinc (lv' := [(2, .int (iI (0 + 1))), (3, .null), (0, .ref (b + 57)), (1, .ref (b + 32))]) hx hb dX1_look_70 hl (k := 1) rfl (by decide) rfl (fun ls hl => ?_)
  rw [show ((0 + 1) : Int) = 1 from by decide] at hl
  refine lv_goto (tgt := 16) hx hb dX1_look_73 (by decide) ?_
  refine lv_iload_n hx hb dX1_look_16 rfl (lv_at hl 0 rfl) ?_
  refine z_iconst hx hb dX1_look_17 ?_
  refine z_icmp_ge (tgt := 76) hx hb (by decide) (by decide) dX1_look_18 (by decide) (fun c23 => absurd c23 (by decide)) (fun c23 => ?_)
  refine lv_aload_n hx hb dX1_look_21 rfl (lv_at hl 3 rfl) ?_
  refine lv_iload_n hx hb dX1_look_22 rfl (lv_at hl 0 rfl) ?_
  refine z_callq (va_runV (As := [.int (iI 1)]) (rest := []) ⟨hx, hb, hml, hown, hts⟩ (n_find l D dA b M12 1 (by decide) (by rw [e13, zup_n _ _ (by omega), e10, zup_n _ _ (by omega), g0])) (cwV 1 hts (z_gV k521 k412 k413 k4 k414) rfl rfl rfl dm_X9_find ⟨Nat.le_of_ble_eq_true rfl, Nat.le_of_ble_eq_true rfl⟩) ⟨zP_blind, (z_recv hS hK.1 (by decide) (zkd_of (rfl : zcd wC 32 = 8) rfl) (by decide) (rfl : vwCl[9]? = some (RX9, TX9, 3))), z_pre hS hK⟩ rfl rfl hl.1 rfl (lv_room (Nat.le_of_ble_eq_true rfl)) dX1_look_23 ⟨Nat.le_refl _, Nat.le_refl _⟩) hS hS0 (zms_sub rfl) (fun z28 M24 H locs h25 F26 hS hS0 => ?_)
  obtain ⟨h29, h25⟩ := h25
  rw [h29] at hS
  have h30 := h25
  obtain ⟨z28e, h30⟩ := h30
  subst z28e
  show W _ _ _ _ _ _ _ _ _ _ _ _ _ _ _ (F0 m _ ls (.null :: []))
  refine lv_astore_nN (lv' := [(3, .null), (2, .int (iI 1)), (0, .ref (b + 57)), (1, .ref (b + 32))]) hx hb dX1_look_26 rfl hl (by decide) rfl (fun ls hl => ?_)
  refine lv_aload_nN hx hb dX1_look_27 rfl (lv_at hl 0 rfl) ?_
  refine lv_ifnullN (tgt := 70) hx hb dX1_look_28 (by decide) ?_
  refine z_iinc (lv' := [(2, .int (iI (1 + 1))), (3, .null), (0, .ref (b + 57)), (1, .ref (b + 32))]) hx hb dX1_look_70 hl (k := 1) rfl (by decide) rfl (fun ls hl => ?_)
  rw [show ((1 + 1) : Int) = 2 from by decide] at hl
  refine lv_goto (tgt := 16) hx hb dX1_look_73 (by decide) ?_
  refine lv_iload_n hx hb dX1_look_16 rfl (lv_at hl 0 rfl) ?_
  refine z_iconst hx hb dX1_look_17 ?_
  refine z_icmp_ge (tgt := 76) hx hb (by decide) (by decide) dX1_look_18 (by decide) (fun c31 => absurd c31 (by decide)) (fun c31 => ?_)
  refine lv_aload_n hx hb dX1_look_21 rfl (lv_at hl 3 rfl) ?_
  refine lv_iload_n hx hb dX1_look_22 rfl (lv_at hl 0 rfl) ?_
  refine z_callq (va_runV (As := [.int (iI 2)]) (rest := []) ⟨hx, hb, hml, hown, hts⟩ (n_find l D dA b M12 2 (by decide) (by rw [e13, zup_n _ _ (by omega), e10, zup_n _ _ (by omega), g0])) (cwV 1 hts (z_gV k521 k412 k413 k4 k414) rfl rfl rfl dm_X9_find ⟨Nat.le_of_ble_eq_true rfl, Nat.le_of_ble_eq_true rfl⟩) ⟨zP_blind, (z_recv hS hK.1 (by decide) (zkd_of (rfl : zcd wC 32 = 8) rfl) (by decide) (rfl : vwCl[9]? = some (RX9, TX9, 3))), z_pre hS hK⟩ rfl rfl hl.1 rfl (lv_room (Nat.le_of_ble_eq_true rfl)) dX1_look_23 ⟨Nat.le_refl _, Nat.le_refl _⟩) hS hS0 (zms_sub rfl) (fun z36 M32 H locs h33 F34 hS hS0 => ?_)
  obtain ⟨h37, h33⟩ := h33
  rw [h37] at hS
  have h38 := h33
  obtain ⟨z36e, h38⟩ := h38
  subst z36e
  show W _ _ _ _ _ _ _ _ _ _ _ _ _ _ _ (F0 m _ ls (.null :: []))
  refine lv_astore_nN (lv' := [(3, .null), (2, .int (iI 2)), (0, .ref (b + 57)), (1, .ref (b + 32))]) hx hb dX1_look_26 rfl hl (by decide) rfl (fun ls hl => ?_)
  refine lv_aload_nN hx hb dX1_look_27 rfl (lv_at hl 0 rfl) ?_
  refine lv_ifnullN (tgt := 70) hx hb dX1_look_28 (by decide) ?_
  refine z_iinc (lv' := [(2, .int (iI (2 + 1))), (3, .null), (0, .ref (b + 57)), (1, .ref (b + 32))]) hx hb dX1_look_70 hl (k := 1) rfl (by decide) rfl (fun ls hl => ?_)
  rw [show ((2 + 1) : Int) = 3 from by decide] at hl
  refine lv_goto (tgt := 16) hx hb dX1_look_73 (by decide) ?_
  refine lv_iload_n hx hb dX1_look_16 rfl (lv_at hl 0 rfl) ?_
  refine z_iconst hx hb dX1_look_17 ?_
  refine z_icmp_ge (tgt := 76) hx hb (by decide) (by decide) dX1_look_18 (by decide) (fun c39 => absurd c39 (by decide)) (fun c39 => ?_)
  refine lv_aload_n hx hb dX1_look_21 rfl (lv_at hl 3 rfl) ?_
  refine lv_iload_n hx hb dX1_look_22 rfl (lv_at hl 0 rfl) ?_
  refine z_callq (va_runV (As := [.int (iI 3)]) (rest := []) ⟨hx, hb, hml, hown, hts⟩ (n_find l D dA b M12 3 (by decide) (by rw [e13, zup_n _ _ (by omega), e10, zup_n _ _ (by omega), g0])) (cwV 1 hts (z_gV k521 k412 k413 k4 k414) rfl rfl rfl dm_X9_find ⟨Nat.le_of_ble_eq_true rfl, Nat.le_of_ble_eq_true rfl⟩) ⟨zP_blind, (z_recv hS hK.1 (by decide) (zkd_of (rfl : zcd wC 32 = 8) rfl) (by decide) (rfl : vwCl[9]? = some (RX9, TX9, 3))), z_pre hS hK⟩ rfl rfl hl.1 rfl (lv_room (Nat.le_of_ble_eq_true rfl)) dX1_look_23 ⟨Nat.le_refl _, Nat.le_refl _⟩) hS hS0 (zms_sub rfl) (fun z44 M40 H locs h41 F42 hS hS0 => ?_)
  obtain ⟨h45, h41⟩ := h41
  rw [h45] at hS
  have h46 := h41
  obtain ⟨z44e, h46⟩ := h46
  subst z44e
  show W _ _ _ _ _ _ _ _ _ _ _ _ _ _ _ (F0 m _ ls (.null :: []))
  refine lv_astore_nN (lv' := [(3, .null), (2, .int (iI 3)), (0, .ref (b + 57)), (1, .ref (b + 32))]) hx hb dX1_look_26 rfl hl (by decide) rfl (fun ls hl => ?_)
  refine lv_aload_nN hx hb dX1_look_27 rfl (lv_at hl 0 rfl) ?_
  refine lv_ifnullN (tgt := 70) hx hb dX1_look_28 (by decide) ?_
  refine z_iinc (lv' := [(2, .int (iI (3 + 1))), (3, .null), (0, .ref (b + 57)), (1, .ref (b + 32))]) hx hb dX1_look_70 hl (k := 1) rfl (by decide) rfl (fun ls hl => ?_)
  rw [show ((3 + 1) : Int) = 4 from by decide] at hl
  refine lv_goto (tgt := 16) hx hb dX1_look_73 (by decide) ?_
  refine lv_iload_n hx hb dX1_look_16 rfl (lv_at hl 0 rfl) ?_
  refine z_iconst hx hb dX1_look_17 ?_
  refine z_icmp_ge (tgt := 76) hx hb (by decide) (by decide) dX1_look_18 (by decide) (fun c47 => ?_) (fun c47 => absurd c47 (by decide))
  exact z_vret hx hb hr hlocks hS hS0 (⟨by first | exact trivial | exact ⟨rfl, trivial⟩ | omega | (refine ⟨by omega, trivial⟩), by rw [e13, zup_s], by rw [e13, zup_n _ _ (by omega), e10, zup_s]⟩) dX1_look_76

set_option maxHeartbeats 4000000 in
set_option maxRecDepth 100000 in
theorem n_allTicks (l : Launch) (D : va_G) (dA : Nat → ClassId) (b : Nat) (M : zM) (g0 : M 57 0 = 0) : Met l yX1_allTicks (.code yX1_allTicks cX1_allTicks 4 (some .long) :: zt) (z_rm 0) (va_Pc [.ref (b + 57)] (zP D dA vwCl (z_tys dA) wC nC b M)) (va_Ql (zQl wC (zms wC []) M (fun z M1 => M1 = M ∧ (z = 1 ∧ True))) (zB D dA vwCl wC nC b) (zA nC b)) 0 0 (zA nC b) := by
  refine Met.ofW (cc := cX1_allTicks) (maxL := 4) (ret := (some .long)) (by decide) rfl ?_
  intro p e s m args below meth c s₁ B hml hv
  obtain ⟨hargs, hR0, hJ, hK⟩ := hv
  have hx := B.exec
  have hb := B.bytes
  have hr := B.returns
  have hts := atoms_spec (ws := .code yX1_allTicks cX1_allTicks 4 (some .long) :: zt) B.pre
  have hown : s.vm.findClass RX1 = some m.cls := findClass_of_methodNamed B.named
  have hlocks := B.notSynchronized
  have hS : zS D dA vwCl wC nC b (zms wC []) M M s.heap := ⟨hR0, hJ, zF_rf _ _⟩
  have hS0 : va_S (zA nC b) s.heap s.heap [] := va_S.rf
  have hl := lv_entry ([.ref (b + 57)]) (n := 4) (Nat.le_of_ble_eq_true rfl)
  have hent : entryFrame m args 4 = F0 m 0 ((lg_sl ([.ref (b + 57)]) ++ List.replicate (4 - (lg_sl ([.ref (b + 57)])).length) Slot.unset).toArray) [] := by rw [hargs]; exact lg_entry_eq m ([.ref (b + 57)]) 4
  rw [hent]
  generalize (lg_sl ([.ref (b + 57)]) ++ List.replicate (4 - (lg_sl ([.ref (b + 57)])).length) Slot.unset).toArray = ls at hl ⊢
  have hl : lv_has ls 4 [(0, .ref (b + 57))] := hl
  refine z_lconst1 hx hb dX1_allTicks_0 ?_
  refine lv_lstore_n (lv' := [(1, .long (iL 1)), (0, .ref (b + 57))]) hx hb dX1_allTicks_1 rfl hl (by decide) rfl (fun ls hl => ?_)
  refine z_iconst hx hb dX1_allTicks_2 ?_
  refine lv_istore_n (lv' := [(3, .int (iI 0)), (1, .long (iL 1)), (0, .ref (b + 57))]) hx hb dX1_allTicks_3 rfl hl (by decide) rfl (fun ls hl => ?_)
  refine lv_iload_n hx hb dX1_allTicks_4 rfl (lv_at hl 0 rfl) ?_
  refine lv_aload_n hx hb dX1_allTicks_5 rfl (lv_at hl 2 rfl) ?_
  refine z_geti hx hb hts (z_memU u1) hown hK.1 hS f1_0 (by decide) (zkd_of (rfl : zcd wC 57 = 16) rfl) (Or.inl (hts _ (z_mem k129))) dX1_allTicks_6 ?_
  refine z_top (show M 57 0 = 0 from by rw [g0]) ?_
  refine z_icmp_ge (tgt := 29) hx hb (by decide) (by decide) dX1_allTicks_9 (by decide) (fun c1 => ?_) (fun c1 => absurd c1 (by decide))
  refine lv_lload_n hx hb dX1_allTicks_29 rfl (lv_at hl 1 rfl) ?_
  exact z_lret hx hb hr hlocks hS hS0 (by decide) (⟨rfl, by first | exact trivial | exact ⟨rfl, trivial⟩ | omega | (refine ⟨by omega, trivial⟩)⟩) dX1_allTicks_30

set_option maxHeartbeats 4000000 in
set_option maxRecDepth 100000 in
theorem n_sharedTicks (l : Launch) (D : va_G) (dA : Nat → ClassId) (b : Nat) (M : zM) (g0 : M 57 0 = 0) : Met l yX1_sharedTicks (.code yX1_sharedTicks cX1_sharedTicks 5 (some .int) :: zt) (z_rm 0) (va_Pc [.ref (b + 57)] (zP D dA vwCl (z_tys dA) wC nC b M)) (va_Qi (zQi wC (zms wC []) M (fun z M1 => M1 = M ∧ (z = 1 ∧ True))) (zB D dA vwCl wC nC b) (zA nC b)) 0 0 (zA nC b) := by
  refine Met.ofW (cc := cX1_sharedTicks) (maxL := 5) (ret := (some .int)) (by decide) rfl ?_
  intro p e s m args below meth c s₁ B hml hv
  obtain ⟨hargs, hR0, hJ, hK⟩ := hv
  have hx := B.exec
  have hb := B.bytes
  have hr := B.returns
  have hts := atoms_spec (ws := .code yX1_sharedTicks cX1_sharedTicks 5 (some .int) :: zt) B.pre
  have hown : s.vm.findClass RX1 = some m.cls := findClass_of_methodNamed B.named
  have hlocks := B.notSynchronized
  have hS : zS D dA vwCl wC nC b (zms wC []) M M s.heap := ⟨hR0, hJ, zF_rf _ _⟩
  have hS0 : va_S (zA nC b) s.heap s.heap [] := va_S.rf
  have hl := lv_entry ([.ref (b + 57)]) (n := 5) (Nat.le_of_ble_eq_true rfl)
  have hent : entryFrame m args 5 = F0 m 0 ((lg_sl ([.ref (b + 57)]) ++ List.replicate (5 - (lg_sl ([.ref (b + 57)])).length) Slot.unset).toArray) [] := by rw [hargs]; exact lg_entry_eq m ([.ref (b + 57)]) 5
  rw [hent]
  generalize (lg_sl ([.ref (b + 57)]) ++ List.replicate (5 - (lg_sl ([.ref (b + 57)])).length) Slot.unset).toArray = ls at hl ⊢
  have hl : lv_has ls 5 [(0, .ref (b + 57))] := hl
  refine z_lconst1 hx hb dX1_sharedTicks_0 ?_
  refine lv_lstore_n (lv' := [(1, .long (iL 1)), (0, .ref (b + 57))]) hx hb dX1_sharedTicks_1 rfl hl (by decide) rfl (fun ls hl => ?_)
  refine z_iconst hx hb dX1_sharedTicks_2 ?_
  refine lv_istore_n (lv' := [(3, .int (iI 0)), (1, .long (iL 1)), (0, .ref (b + 57))]) hx hb dX1_sharedTicks_3 rfl hl (by decide) rfl (fun ls hl => ?_)
  refine lv_iload_n hx hb dX1_sharedTicks_4 rfl (lv_at hl 0 rfl) ?_
  refine lv_aload_n hx hb dX1_sharedTicks_5 rfl (lv_at hl 2 rfl) ?_
  refine z_geti hx hb hts (z_memU u1) hown hK.1 hS f1_0 (by decide) (zkd_of (rfl : zcd wC 57 = 16) rfl) (Or.inl (hts _ (z_mem k129))) dX1_sharedTicks_6 ?_
  refine z_top (show M 57 0 = 0 from by rw [g0]) ?_
  refine z_icmp_ge (tgt := 60) hx hb (by decide) (by decide) dX1_sharedTicks_9 (by decide) (fun c1 => ?_) (fun c1 => absurd c1 (by decide))
  refine lv_lload_n hx hb dX1_sharedTicks_60 rfl (lv_at hl 1 rfl) ?_
  refine z_l2i hx hb dX1_sharedTicks_61 ?_
  exact z_iret hx hb hr hlocks hS hS0 (by decide) (⟨rfl, by first | exact trivial | exact ⟨rfl, trivial⟩ | omega | (refine ⟨by omega, trivial⟩)⟩) dX1_sharedTicks_62

set_option maxHeartbeats 4000000 in
set_option maxRecDepth 100000 in
theorem n_howOften (l : Launch) (D : va_G) (dA : Nat → ClassId) (b : Nat) (M : zM) (g0 : M 57 0 = 0) : Met l yX1_howOften (.code yX1_howOften cX1_howOften 8 (some .long) :: zt) (z_rm 1) (va_Pc [.ref (b + 57)] (zP D dA vwCl (z_tys dA) wC nC b M)) (va_Ql (zQl wC (zms wC []) M (fun z M1 => M1 = M ∧ (z = 1 ∧ True))) (zB D dA vwCl wC nC b) (zA nC b)) 0 0 (zA nC b) := by
  refine Met.ofW (cc := cX1_howOften) (maxL := 8) (ret := (some .long)) (by decide) rfl ?_
  intro p e s m args below meth c s₁ B hml hv
  obtain ⟨hargs, hR0, hJ, hK⟩ := hv
  have hx := B.exec
  have hb := B.bytes
  have hr := B.returns
  have hts := atoms_spec (ws := .code yX1_howOften cX1_howOften 8 (some .long) :: zt) B.pre
  have hown : s.vm.findClass RX1 = some m.cls := findClass_of_methodNamed B.named
  have hlocks := B.notSynchronized
  have hS : zS D dA vwCl wC nC b (zms wC []) M M s.heap := ⟨hR0, hJ, zF_rf _ _⟩
  have hS0 : va_S (zA nC b) s.heap s.heap [] := va_S.rf
  have hl := lv_entry ([.ref (b + 57)]) (n := 8) (Nat.le_of_ble_eq_true rfl)
  have hent : entryFrame m args 8 = F0 m 0 ((lg_sl ([.ref (b + 57)]) ++ List.replicate (8 - (lg_sl ([.ref (b + 57)])).length) Slot.unset).toArray) [] := by rw [hargs]; exact lg_entry_eq m ([.ref (b + 57)]) 8
  rw [hent]
  generalize (lg_sl ([.ref (b + 57)]) ++ List.replicate (8 - (lg_sl ([.ref (b + 57)])).length) Slot.unset).toArray = ls at hl ⊢
  have hl : lv_has ls 8 [(0, .ref (b + 57))] := hl
  refine lv_aload_n hx hb dX1_howOften_0 rfl (lv_at hl 0 rfl) ?_
  refine z_calli (va_runV (As := []) (rest := []) ⟨hx, hb, hml, hown, hts⟩ (n_sharedTicks l D dA b M (by rw [g0])) (cwV 0 hts (z_gV k575 k576 k1370 k7 k577) rfl rfl rfl dm_X1_sharedTicks ⟨Nat.le_of_ble_eq_true rfl, Nat.le_of_ble_eq_true rfl⟩) ⟨zP_blind, (z_recv hS hK.1 (by decide) (zkd_of (rfl : zcd wC 57 = 16) rfl) (by decide) (rfl : vwCl[1]? = some (RX1, TX1, 4))), z_pre hS hK⟩ rfl rfl hl.1 rfl (lv_room (Nat.le_of_ble_eq_true rfl)) dX1_howOften_1 ⟨Nat.le_refl _, Nat.le_refl _⟩) hS hS0 (zms_sub rfl) (fun z5 M1 H locs r6 h2 F3 hS hS0 => ?_)
  obtain ⟨h7, h2⟩ := h2
  rw [h7] at hS
  have h8 := h2
  obtain ⟨z5e, h8⟩ := h8
  subst z5e
  refine lv_istore_n (lv' := [(1, .int (iI 1)), (0, .ref (b + 57))]) hx hb dX1_howOften_4 rfl hl (by decide) rfl (fun ls hl => ?_)
  refine z_lconst0 hx hb dX1_howOften_5 ?_
  refine lv_lstore_n (lv' := [(2, .long (iL 0)), (1, .int (iI 1)), (0, .ref (b + 57))]) hx hb dX1_howOften_6 rfl hl (by decide) rfl (fun ls hl => ?_)
  refine z_iconst hx hb dX1_howOften_7 ?_
  refine lv_istore (lv' := [(4, .int (iI 0)), (2, .long (iL 0)), (1, .int (iI 1)), (0, .ref (b + 57))]) hx hb dX1_howOften_8 hl (by decide) rfl (fun ls hl => ?_)
  refine lv_iload hx hb dX1_howOften_10 (lv_at hl 0 rfl) ?_
  refine lv_iload_n hx hb dX1_howOften_12 rfl (lv_at hl 2 rfl) ?_
  refine z_icmp_ge (tgt := 74) hx hb (by decide) (by decide) dX1_howOften_13 (by decide) (fun c9 => absurd c9 (by decide)) (fun c9 => ?_)
  refine z_lconst1 hx hb dX1_howOften_16 ?_
  refine lv_lstore (lv' := [(5, .long (iL 1)), (4, .int (iI 0)), (2, .long (iL 0)), (1, .int (iI 1)), (0, .ref (b + 57))]) hx hb dX1_howOften_17 hl (by decide) rfl (fun ls hl => ?_)
  refine z_iconst hx hb dX1_howOften_19 ?_
  refine lv_istore (lv' := [(7, .int (iI 0)), (5, .long (iL 1)), (4, .int (iI 0)), (2, .long (iL 0)), (1, .int (iI 1)), (0, .ref (b + 57))]) hx hb dX1_howOften_20 hl (by decide) rfl (fun ls hl => ?_)
  refine lv_iload hx hb dX1_howOften_22 (lv_at hl 0 rfl) ?_
  refine lv_aload_n hx hb dX1_howOften_24 rfl (lv_at hl 5 rfl) ?_
  refine z_geti hx hb hts (z_memU u1) hown hK.1 hS f1_0 (by decide) (zkd_of (rfl : zcd wC 57 = 16) rfl) (Or.inl (hts _ (z_mem k129))) dX1_howOften_25 ?_
  refine z_top (show M 57 0 = 0 from by rw [g0]) ?_
  refine z_icmp_ge (tgt := 63) hx hb (by decide) (by decide) dX1_howOften_28 (by decide) (fun c10 => ?_) (fun c10 => absurd c10 (by decide))
  refine lv_lload_n hx hb dX1_howOften_63 rfl (lv_at hl 3 rfl) ?_
  refine lv_lload hx hb dX1_howOften_64 (lv_at hl 1 rfl) ?_
  refine z_ladd hx hb dX1_howOften_66 ?_
  refine z_topl (show ((0 + 1) : Int) = 1 from (by decide)) ?_
  refine lv_lstore_n (lv' := [(2, .long (iL 1)), (7, .int (iI 0)), (5, .long (iL 1)), (4, .int (iI 0)), (1, .int (iI 1)), (0, .ref (b + 57))]) hx hb dX1_howOften_67 rfl hl (by decide) rfl (fun ls hl => ?_)
  refine z_iinc (lv' := [(4, .int (iI (0 + 1))), (2, .long (iL 1)), (7, .int (iI 0)), (5, .long (iL 1)), (1, .int (iI 1)), (0, .ref (b + 57))]) hx hb dX1_howOften_68 hl (k := 3) rfl (by decide) rfl (fun ls hl => ?_)
  rw [show ((0 + 1) : Int) = 1 from by decide] at hl
  refine lv_goto (tgt := 10) hx hb dX1_howOften_71 (by decide) ?_
  refine lv_iload hx hb dX1_howOften_10 (lv_at hl 0 rfl) ?_
  refine lv_iload_n hx hb dX1_howOften_12 rfl (lv_at hl 4 rfl) ?_
  refine z_icmp_ge (tgt := 74) hx hb (by decide) (by decide) dX1_howOften_13 (by decide) (fun c11 => ?_) (fun c11 => absurd c11 (by decide))
  refine lv_lload_n hx hb dX1_howOften_74 rfl (lv_at hl 1 rfl) ?_
  exact z_lret hx hb hr hlocks hS hS0 (by decide) (⟨rfl, by first | exact trivial | exact ⟨rfl, trivial⟩ | omega | (refine ⟨by omega, trivial⟩)⟩) dX1_howOften_75

set_option maxHeartbeats 4000000 in
set_option maxRecDepth 100000 in
theorem n_firstSteady (l : Launch) (D : va_G) (dA : Nat → ClassId) (b : Nat) (M : zM) (t : Int) (r_t : R64 t) (g0 : M 57 0 = 0) (g1 : M 57 1 = 0) (p0 : 0 ≤ t ∧ t ≤ 1152921504606846976) : Met l yX1_firstSteady (.code yX1_firstSteady cX1_firstSteady 12 (some .long) :: zt) (z_rm 1) (va_Pc [.ref (b + 57), .long (iL t)] (zP D dA vwCl (z_tys dA) wC nC b M)) (va_Ql (zQl wC (zms wC []) M (fun z M1 => M1 = M ∧ (z = t ∧ True))) (zB D dA vwCl wC nC b) (zA nC b)) 0 0 (zA nC b) := by
  refine Met.ofW (cc := cX1_firstSteady) (maxL := 12) (ret := (some .long)) (by decide) rfl ?_
  intro p e s m args below meth c s₁ B hml hv
  obtain ⟨hargs, hR0, hJ, hK⟩ := hv
  have hx := B.exec
  have hb := B.bytes
  have hr := B.returns
  have hts := atoms_spec (ws := .code yX1_firstSteady cX1_firstSteady 12 (some .long) :: zt) B.pre
  have hown : s.vm.findClass RX1 = some m.cls := findClass_of_methodNamed B.named
  have hlocks := B.notSynchronized
  have hS : zS D dA vwCl wC nC b (zms wC []) M M s.heap := ⟨hR0, hJ, zF_rf _ _⟩
  have hS0 : va_S (zA nC b) s.heap s.heap [] := va_S.rf
  have hl := lv_entry ([.ref (b + 57), .long (iL t)]) (n := 12) (Nat.le_of_ble_eq_true rfl)
  have hent : entryFrame m args 12 = F0 m 0 ((lg_sl ([.ref (b + 57), .long (iL t)]) ++ List.replicate (12 - (lg_sl ([.ref (b + 57), .long (iL t)])).length) Slot.unset).toArray) [] := by rw [hargs]; exact lg_entry_eq m ([.ref (b + 57), .long (iL t)]) 12
  rw [hent]
  generalize (lg_sl ([.ref (b + 57), .long (iL t)]) ++ List.replicate (12 - (lg_sl ([.ref (b + 57), .long (iL t)])).length) Slot.unset).toArray = ls at hl ⊢
  have hl : lv_has ls 12 [(0, .ref (b + 57)), (1, .long (iL t))] := hl
  refine lv_aload_n hx hb dX1_firstSteady_0 rfl (lv_at hl 0 rfl) ?_
  refine z_calll (va_runV (As := []) (rest := []) ⟨hx, hb, hml, hown, hts⟩ (n_allTicks l D dA b M (by rw [g0])) (cwV 0 hts (z_gV k587 k543 k544 k7 k545) rfl rfl rfl dm_X1_allTicks ⟨Nat.le_of_ble_eq_true rfl, Nat.le_of_ble_eq_true rfl⟩) ⟨zP_blind, (z_recv hS hK.1 (by decide) (zkd_of (rfl : zcd wC 57 = 16) rfl) (by decide) (rfl : vwCl[1]? = some (RX1, TX1, 4))), z_pre hS hK⟩ rfl rfl hl.1 rfl (lv_room (Nat.le_of_ble_eq_true rfl)) dX1_firstSteady_1 ⟨Nat.le_refl _, Nat.le_refl _⟩) hS hS0 (zms_sub rfl) (fun z5 M1 H locs r6 h2 F3 hS hS0 => ?_)
  obtain ⟨h7, h2⟩ := h2
  rw [h7] at hS
  have h8 := h2
  obtain ⟨z5e, h8⟩ := h8
  subst z5e
  refine lv_lstore_n (lv' := [(3, .long (iL 1)), (0, .ref (b + 57)), (1, .long (iL t))]) hx hb dX1_firstSteady_4 rfl hl (by decide) rfl (fun ls hl => ?_)
  refine lv_lload_n hx hb dX1_firstSteady_5 rfl (lv_at hl 2 rfl) ?_
  refine lv_lstore (lv' := [(5, .long (iL t)), (3, .long (iL 1)), (0, .ref (b + 57)), (1, .long (iL t))]) hx hb dX1_firstSteady_6 hl (by decide) rfl (fun ls hl => ?_)
  refine z_lconst0 hx hb dX1_firstSteady_8 ?_
  refine lv_lstore (lv' := [(7, .long (iL 0)), (5, .long (iL t)), (3, .long (iL 1)), (0, .ref (b + 57)), (1, .long (iL t))]) hx hb dX1_firstSteady_9 hl (by decide) rfl (fun ls hl => ?_)
  refine lv_lload hx hb dX1_firstSteady_11 (lv_at hl 0 rfl) ?_
  refine lv_lload_n hx hb dX1_firstSteady_13 rfl (lv_at hl 2 rfl) ?_
  refine z_lcmp_ge hx hb (by decide) (by decide) dX1_firstSteady_14 dX1_firstSteady_15 (tgt := 102) (by decide) (fun c9 => absurd c9 (by decide)) (fun c9 => ?_)
  refine lv_lload hx hb dX1_firstSteady_18 (lv_at hl 1 rfl) ?_
  refine lv_lload_n hx hb dX1_firstSteady_20 rfl (lv_at hl 4 rfl) ?_
  refine lv_lload_n hx hb dX1_firstSteady_21 rfl (lv_at hl 2 rfl) ?_
  refine z_ladd hx hb dX1_firstSteady_22 ?_
  refine z_lcmp_ge hx hb r_t ⟨by omega, by omega⟩ dX1_firstSteady_23 dX1_firstSteady_24 (tgt := 102) (by decide) (fun c10 => absurd c10 (by omega)) (fun c10 => ?_)
  refine lv_lload hx hb dX1_firstSteady_27 (lv_at hl 1 rfl) ?_
  refine lv_lstore (lv' := [(9, .long (iL t)), (7, .long (iL 0)), (5, .long (iL t)), (3, .long (iL 1)), (0, .ref (b + 57)), (1, .long (iL t))]) hx hb dX1_firstSteady_29 hl (by decide) rfl (fun ls hl => ?_)
  refine z_iconst hx hb dX1_firstSteady_31 ?_
  refine lv_istore (lv' := [(11, .int (iI 0)), (9, .long (iL t)), (7, .long (iL 0)), (5, .long (iL t)), (3, .long (iL 1)), (0, .ref (b + 57)), (1, .long (iL t))]) hx hb dX1_firstSteady_32 hl (by decide) rfl (fun ls hl => ?_)
  refine lv_iload hx hb dX1_firstSteady_34 (lv_at hl 0 rfl) ?_
  refine lv_aload_n hx hb dX1_firstSteady_36 rfl (lv_at hl 5 rfl) ?_
  refine z_geti hx hb hts (z_memU u1) hown hK.1 hS f1_0 (by decide) (zkd_of (rfl : zcd wC 57 = 16) rfl) (Or.inl (hts _ (z_mem k129))) dX1_firstSteady_37 ?_
  refine z_top (show M 57 0 = 0 from by rw [g0]) ?_
  refine z_icmp_ge (tgt := 78) hx hb (by decide) (by decide) dX1_firstSteady_40 (by decide) (fun c11 => ?_) (fun c11 => absurd c11 (by decide))
  refine lv_lload hx hb dX1_firstSteady_78 (lv_at hl 1 rfl) ?_
  refine lv_lload hx hb dX1_firstSteady_80 (lv_at hl 3 rfl) ?_
  refine z_lcmp_ne hx hb r_t r_t dX1_firstSteady_82 dX1_firstSteady_83 (tgt := 89) (by decide) (fun c12 => absurd c12 (by omega)) (fun c12 => ?_)
  refine lv_lload hx hb dX1_firstSteady_86 (lv_at hl 3 rfl) ?_
  exact z_lret hx hb hr hlocks hS hS0 r_t (⟨rfl, by first | exact trivial | exact ⟨rfl, trivial⟩ | omega | (refine ⟨by omega, trivial⟩)⟩) dX1_firstSteady_88

set_option maxHeartbeats 4000000 in
set_option maxRecDepth 100000 in
theorem n_first (l : Launch) (D : va_G) (dA : Nat → ClassId) (b : Nat) (M : zM) (t : Int) (r_t : R64 t) (g0 : M 57 0 = 0) (g1 : M 57 1 = 0) (p0 : 0 ≤ t ∧ t ≤ 1152921504606846976) : Met l yX1_first (.code yX1_first cX1_first 6 (some .long) :: zt) (z_rm 2) (va_Pc [.ref (b + 57), .ref (b + 32), .long (iL t)] (zP D dA vwCl (z_tys dA) wC nC b M)) (va_Ql (zQl wC (zms wC []) M (fun z M1 => M1 = M ∧ (z = t ∧ True))) (zB D dA vwCl wC nC b) (zA nC b)) 0 0 (zA nC b) := by
  refine Met.ofW (cc := cX1_first) (maxL := 6) (ret := (some .long)) (by decide) rfl ?_
  intro p e s m args below meth c s₁ B hml hv
  obtain ⟨hargs, hR0, hJ, hK⟩ := hv
  have hx := B.exec
  have hb := B.bytes
  have hr := B.returns
  have hts := atoms_spec (ws := .code yX1_first cX1_first 6 (some .long) :: zt) B.pre
  have hown : s.vm.findClass RX1 = some m.cls := findClass_of_methodNamed B.named
  have hlocks := B.notSynchronized
  have hS : zS D dA vwCl wC nC b (zms wC []) M M s.heap := ⟨hR0, hJ, zF_rf _ _⟩
  have hS0 : va_S (zA nC b) s.heap s.heap [] := va_S.rf
  have hl := lv_entry ([.ref (b + 57), .ref (b + 32), .long (iL t)]) (n := 6) (Nat.le_of_ble_eq_true rfl)
  have hent : entryFrame m args 6 = F0 m 0 ((lg_sl ([.ref (b + 57), .ref (b + 32), .long (iL t)]) ++ List.replicate (6 - (lg_sl ([.ref (b + 57), .ref (b + 32), .long (iL t)])).length) Slot.unset).toArray) [] := by rw [hargs]; exact lg_entry_eq m ([.ref (b + 57), .ref (b + 32), .long (iL t)]) 6
  rw [hent]
  generalize (lg_sl ([.ref (b + 57), .ref (b + 32), .long (iL t)]) ++ List.replicate (6 - (lg_sl ([.ref (b + 57), .ref (b + 32), .long (iL t)])).length) Slot.unset).toArray = ls at hl ⊢
  have hl : lv_has ls 6 [(0, .ref (b + 57)), (1, .ref (b + 32)), (2, .long (iL t))] := hl
  refine lv_lload_n hx hb dX1_first_0 rfl (lv_at hl 2 rfl) ?_
  refine lv_lstore (lv' := [(4, .long (iL t)), (0, .ref (b + 57)), (1, .ref (b + 32)), (2, .long (iL t))]) hx hb dX1_first_1 hl (by decide) rfl (fun ls hl => ?_)
  refine lv_lload hx hb dX1_first_3 (lv_at hl 0 rfl) ?_
  refine lv_aload_n hx hb dX1_first_5 rfl (lv_at hl 1 rfl) ?_
  refine z_getl hx hb hts (z_memU u1) hown hK.1 hS f1_1 (by decide) (zkd_of (rfl : zcd wC 57 = 16) rfl) (Or.inl (hts _ (z_mem k130))) dX1_first_6 ?_
  refine z_topl (show M 57 1 = 0 from by rw [g1]) ?_
  refine z_lcmp_ge hx hb r_t (by decide) dX1_first_9 dX1_first_10 (tgt := 34) (by decide) (fun c1 => ?_) (fun c1 => absurd c1 (by omega))
  refine lv_aload_n hx hb dX1_first_34 rfl (lv_at hl 1 rfl) ?_
  refine z_calll (va_runV (As := []) (rest := []) ⟨hx, hb, hml, hown, hts⟩ (n_howOften l D dA b M (by rw [g0])) (cwV 0 hts (z_gV k571 k572 k573 k7 k574) rfl rfl rfl dm_X1_howOften ⟨Nat.le_of_ble_eq_true rfl, Nat.le_of_ble_eq_true rfl⟩) ⟨zP_blind, (z_recv hS hK.1 (by decide) (zkd_of (rfl : zcd wC 57 = 16) rfl) (by decide) (rfl : vwCl[1]? = some (RX1, TX1, 4))), z_pre hS hK⟩ rfl rfl hl.1 rfl (lv_room (Nat.le_of_ble_eq_true rfl)) dX1_first_35 ⟨Nat.le_refl _, Nat.le_refl _⟩) hS hS0 (zms_sub rfl) (fun z6 M2 H locs r7 h3 F4 hS hS0 => ?_)
  obtain ⟨h8, h3⟩ := h3
  rw [h8] at hS
  have h9 := h3
  obtain ⟨z6e, h9⟩ := h9
  subst z6e
  refine z_lconst0 hx hb dX1_first_38 ?_
  refine z_lcmp_ne hx hb (by decide) (by decide) dX1_first_39 dX1_first_40 (tgt := 49) (by decide) (fun c10 => ?_) (fun c10 => absurd c10 (by decide))
  refine lv_aload_n hx hb dX1_first_49 rfl (lv_at hl 1 rfl) ?_
  refine lv_lload_n hx hb dX1_first_50 rfl (lv_at hl 3 rfl) ?_
  refine lv_aload_n hx hb dX1_first_51 rfl (lv_at hl 1 rfl) ?_
  refine z_getl hx hb hts (z_memU u1) hown hK.1 hS f1_1 (by decide) (zkd_of (rfl : zcd wC 57 = 16) rfl) (Or.inl (hts _ (z_mem k130))) dX1_first_52 ?_
  refine z_topl (show M 57 1 = 0 from by rw [g1]) ?_
  refine z_mmaxl hx hb (hml.trans hl.1.symm) hown (hts _ (z_mem k583)) (hts _ (z_mem k492)) (hts _ (z_mem k15)) (hts _ (z_mem k493)) (by exact Nat.le_of_ble_eq_true rfl) (by exact Nat.le_of_ble_eq_true rfl) (by exact Nat.le_refl _) (by exact Nat.le_refl _) r_t (by decide) dX1_first_55 ?_
  refine z_topl (show ((max t 0) : Int) = t from by omega) ?_
  refine z_calll (va_runV (As := [.long (iL t)]) (rest := []) ⟨hx, hb, hml, hown, hts⟩ (n_firstSteady l D dA b M t r_t (by rw [g0]) (by rw [g1]) (by omega)) (cwV 1 hts (z_gV k584 k585 k1372 k7 k586) rfl rfl rfl dm_X1_firstSteady ⟨Nat.le_of_ble_eq_true rfl, Nat.le_of_ble_eq_true rfl⟩) ⟨zP_blind, (z_recv hS hK.1 (by decide) (zkd_of (rfl : zcd wC 57 = 16) rfl) (by decide) (rfl : vwCl[1]? = some (RX1, TX1, 4))), z_pre hS hK⟩ rfl rfl hl.1 rfl (lv_room (Nat.le_of_ble_eq_true rfl)) dX1_first_58 ⟨Nat.le_refl _, Nat.le_refl _⟩) hS hS0 (zms_sub rfl) (fun z17 M13 H locs r18 h14 F15 hS hS0 => ?_)
  obtain ⟨h19, h14⟩ := h14
  rw [h19] at hS
  have h20 := h14
  obtain ⟨z17e, h20⟩ := h20
  subst z17e
  exact z_lret hx hb hr hlocks hS hS0 r_t (⟨rfl, by first | exact trivial | exact ⟨rfl, trivial⟩ | omega | (refine ⟨by omega, trivial⟩)⟩) dX1_first_61
