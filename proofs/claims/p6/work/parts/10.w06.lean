/-! the W layer, 6 -/
theorem dX11_meets_0 : decode cX11_meets 0 = .ok (.lload_n 1, 1) := by decide +kernel
theorem dX11_meets_1 : decode cX11_meets 1 = .ok (.lconst 0, 1) := by decide +kernel
theorem dX11_meets_10 : decode cX11_meets 10 = .ok (.lcmp, 1) := by decide +kernel
theorem dX11_meets_11 : decode cX11_meets 11 = .ok (.ifCond .le 7, 3) := by decide +kernel
theorem dX11_meets_14 : decode cX11_meets 14 = .ok (.ldc2_w 195, 3) := by decide +kernel
theorem dX11_meets_17 : decode cX11_meets 17 = .ok (.lreturn, 1) := by decide +kernel
theorem dX11_meets_18 : decode cX11_meets 18 = .ok (.aload_n 0, 1) := by decide +kernel
theorem dX11_meets_19 : decode cX11_meets 19 = .ok (.getfield 33, 3) := by decide +kernel
theorem dX11_meets_2 : decode cX11_meets 2 = .ok (.lcmp, 1) := by decide +kernel
theorem dX11_meets_22 : decode cX11_meets 22 = .ok (.aload_n 0, 1) := by decide +kernel
theorem dX11_meets_23 : decode cX11_meets 23 = .ok (.getfield 26, 3) := by decide +kernel
theorem dX11_meets_26 : decode cX11_meets 26 = .ok (.invokevirtual 182, 3) := by decide +kernel
theorem dX11_meets_29 : decode cX11_meets 29 = .ok (.aload_n 0, 1) := by decide +kernel
theorem dX11_meets_3 : decode cX11_meets 3 = .ok (.ifCond .lt 11, 3) := by decide +kernel
theorem dX11_meets_30 : decode cX11_meets 30 = .ok (.getfield 33, 3) := by decide +kernel
theorem dX11_meets_33 : decode cX11_meets 33 = .ok (.aload_n 0, 1) := by decide +kernel
theorem dX11_meets_34 : decode cX11_meets 34 = .ok (.getfield 26, 3) := by decide +kernel
theorem dX11_meets_37 : decode cX11_meets 37 = .ok (.lload_n 1, 1) := by decide +kernel
theorem dX11_meets_38 : decode cX11_meets 38 = .ok (.invokevirtual 197, 3) := by decide +kernel
theorem dX11_meets_41 : decode cX11_meets 41 = .ok (.lreturn, 1) := by decide +kernel
theorem dX11_meets_6 : decode cX11_meets 6 = .ok (.lload_n 1, 1) := by decide +kernel
theorem dX11_meets_7 : decode cX11_meets 7 = .ok (.ldc2_w 193, 3) := by decide +kernel
theorem dX11_wish_0 : decode cX11_wish 0 = .ok (.aload_n 0, 1) := by decide +kernel
theorem dX11_wish_1 : decode cX11_wish 1 = .ok (.getfield 26, 3) := by decide +kernel
theorem dX11_wish_10 : decode cX11_wish 10 = .ok (.ifnull 10, 3) := by decide +kernel
theorem dX11_wish_13 : decode cX11_wish 13 = .ok (.iload_n 2, 1) := by decide +kernel
theorem dX11_wish_14 : decode cX11_wish 14 = .ok (.invokestatic 190, 3) := by decide +kernel
theorem dX11_wish_17 : decode cX11_wish 17 = .ok (.ifCond .ne 5, 3) := by decide +kernel
theorem dX11_wish_20 : decode cX11_wish 20 = .ok (.iconst 0, 1) := by decide +kernel
theorem dX11_wish_21 : decode cX11_wish 21 = .ok (.ireturn, 1) := by decide +kernel
theorem dX11_wish_22 : decode cX11_wish 22 = .ok (.aload_n 3, 1) := by decide +kernel
theorem dX11_wish_23 : decode cX11_wish 23 = .ok (.iload_n 2, 1) := by decide +kernel
theorem dX11_wish_24 : decode cX11_wish 24 = .ok (.putfield 166, 3) := by decide +kernel
theorem dX11_wish_27 : decode cX11_wish 27 = .ok (.iconst 1, 1) := by decide +kernel
theorem dX11_wish_28 : decode cX11_wish 28 = .ok (.ireturn, 1) := by decide +kernel
theorem dX11_wish_4 : decode cX11_wish 4 = .ok (.iload_n 1, 1) := by decide +kernel
theorem dX11_wish_5 : decode cX11_wish 5 = .ok (.invokevirtual 104, 3) := by decide +kernel
theorem dX11_wish_8 : decode cX11_wish 8 = .ok (.astore_n 3, 1) := by decide +kernel
theorem dX11_wish_9 : decode cX11_wish 9 = .ok (.aload_n 3, 1) := by decide +kernel
theorem dX1_firstSteady_0 : decode cX1_firstSteady 0 = .ok (.aload_n 0, 1) := by decide +kernel
theorem dX1_firstSteady_1 : decode cX1_firstSteady 1 = .ok (.invokevirtual 89, 3) := by decide +kernel
theorem dX1_firstSteady_102 : decode cX1_firstSteady 102 = .ok (.ldc2_w 80, 3) := by decide +kernel
theorem dX1_firstSteady_105 : decode cX1_firstSteady 105 = .ok (.lreturn, 1) := by decide +kernel
theorem dX1_firstSteady_11 : decode cX1_firstSteady 11 = .ok (.lload 7, 2) := by decide +kernel
theorem dX1_firstSteady_13 : decode cX1_firstSteady 13 = .ok (.lload_n 3, 1) := by decide +kernel
theorem dX1_firstSteady_14 : decode cX1_firstSteady 14 = .ok (.lcmp, 1) := by decide +kernel
theorem dX1_firstSteady_15 : decode cX1_firstSteady 15 = .ok (.ifCond .ge 87, 3) := by decide +kernel
theorem dX1_firstSteady_18 : decode cX1_firstSteady 18 = .ok (.lload 5, 2) := by decide +kernel
theorem dX1_firstSteady_20 : decode cX1_firstSteady 20 = .ok (.lload_n 1, 1) := by decide +kernel
theorem dX1_firstSteady_21 : decode cX1_firstSteady 21 = .ok (.lload_n 3, 1) := by decide +kernel
theorem dX1_firstSteady_22 : decode cX1_firstSteady 22 = .ok (.ladd, 1) := by decide +kernel
theorem dX1_firstSteady_23 : decode cX1_firstSteady 23 = .ok (.lcmp, 1) := by decide +kernel
theorem dX1_firstSteady_24 : decode cX1_firstSteady 24 = .ok (.ifCond .ge 78, 3) := by decide +kernel
theorem dX1_firstSteady_27 : decode cX1_firstSteady 27 = .ok (.lload 5, 2) := by decide +kernel
theorem dX1_firstSteady_29 : decode cX1_firstSteady 29 = .ok (.lstore 9, 2) := by decide +kernel
theorem dX1_firstSteady_31 : decode cX1_firstSteady 31 = .ok (.iconst 0, 1) := by decide +kernel
theorem dX1_firstSteady_32 : decode cX1_firstSteady 32 = .ok (.istore 11, 2) := by decide +kernel
theorem dX1_firstSteady_34 : decode cX1_firstSteady 34 = .ok (.iload 11, 2) := by decide +kernel
theorem dX1_firstSteady_36 : decode cX1_firstSteady 36 = .ok (.aload_n 0, 1) := by decide +kernel
theorem dX1_firstSteady_37 : decode cX1_firstSteady 37 = .ok (.getfield 9, 3) := by decide +kernel
theorem dX1_firstSteady_4 : decode cX1_firstSteady 4 = .ok (.lstore_n 3, 1) := by decide +kernel
theorem dX1_firstSteady_40 : decode cX1_firstSteady 40 = .ok (.if_icmp .ge 38, 3) := by decide +kernel
theorem dX1_firstSteady_43 : decode cX1_firstSteady 43 = .ok (.lload 9, 2) := by decide +kernel
theorem dX1_firstSteady_45 : decode cX1_firstSteady 45 = .ok (.aload_n 0, 1) := by decide +kernel
theorem dX1_firstSteady_46 : decode cX1_firstSteady 46 = .ok (.iload 11, 2) := by decide +kernel
theorem dX1_firstSteady_48 : decode cX1_firstSteady 48 = .ok (.lload 9, 2) := by decide +kernel
theorem dX1_firstSteady_5 : decode cX1_firstSteady 5 = .ok (.lload_n 1, 1) := by decide +kernel
theorem dX1_firstSteady_50 : decode cX1_firstSteady 50 = .ok (.aload_n 0, 1) := by decide +kernel
theorem dX1_firstSteady_51 : decode cX1_firstSteady 51 = .ok (.getfield 15, 3) := by decide +kernel
theorem dX1_firstSteady_54 : decode cX1_firstSteady 54 = .ok (.lsub, 1) := by decide +kernel
theorem dX1_firstSteady_55 : decode cX1_firstSteady 55 = .ok (.aload_n 0, 1) := by decide +kernel
theorem dX1_firstSteady_56 : decode cX1_firstSteady 56 = .ok (.getfield 19, 3) := by decide +kernel
theorem dX1_firstSteady_59 : decode cX1_firstSteady 59 = .ok (.iload 11, 2) := by decide +kernel
theorem dX1_firstSteady_6 : decode cX1_firstSteady 6 = .ok (.lstore 5, 2) := by decide +kernel
theorem dX1_firstSteady_61 : decode cX1_firstSteady 61 = .ok (.iaload, 1) := by decide +kernel
theorem dX1_firstSteady_62 : decode cX1_firstSteady 62 = .ok (.invokestatic 62, 3) := by decide +kernel
theorem dX1_firstSteady_65 : decode cX1_firstSteady 65 = .ok (.invokevirtual 92, 3) := by decide +kernel
theorem dX1_firstSteady_68 : decode cX1_firstSteady 68 = .ok (.i2l, 1) := by decide +kernel
theorem dX1_firstSteady_69 : decode cX1_firstSteady 69 = .ok (.ladd, 1) := by decide +kernel
theorem dX1_firstSteady_70 : decode cX1_firstSteady 70 = .ok (.lstore 9, 2) := by decide +kernel
theorem dX1_firstSteady_72 : decode cX1_firstSteady 72 = .ok (.iinc 11 1, 3) := by decide +kernel
theorem dX1_firstSteady_75 : decode cX1_firstSteady 75 = .ok (.goto (-41), 3) := by decide +kernel
theorem dX1_firstSteady_78 : decode cX1_firstSteady 78 = .ok (.lload 9, 2) := by decide +kernel
theorem dX1_firstSteady_8 : decode cX1_firstSteady 8 = .ok (.lconst 0, 1) := by decide +kernel
theorem dX1_firstSteady_80 : decode cX1_firstSteady 80 = .ok (.lload 5, 2) := by decide +kernel
theorem dX1_firstSteady_82 : decode cX1_firstSteady 82 = .ok (.lcmp, 1) := by decide +kernel
theorem dX1_firstSteady_83 : decode cX1_firstSteady 83 = .ok (.ifCond .ne 6, 3) := by decide +kernel
theorem dX1_firstSteady_86 : decode cX1_firstSteady 86 = .ok (.lload 5, 2) := by decide +kernel
theorem dX1_firstSteady_88 : decode cX1_firstSteady 88 = .ok (.lreturn, 1) := by decide +kernel
theorem dX1_firstSteady_89 : decode cX1_firstSteady 89 = .ok (.lload 9, 2) := by decide +kernel
theorem dX1_firstSteady_9 : decode cX1_firstSteady 9 = .ok (.lstore 7, 2) := by decide +kernel
theorem dX1_firstSteady_91 : decode cX1_firstSteady 91 = .ok (.lstore 5, 2) := by decide +kernel
theorem dX1_firstSteady_93 : decode cX1_firstSteady 93 = .ok (.lload 7, 2) := by decide +kernel
theorem dX1_firstSteady_95 : decode cX1_firstSteady 95 = .ok (.lconst 1, 1) := by decide +kernel
theorem dX1_firstSteady_96 : decode cX1_firstSteady 96 = .ok (.ladd, 1) := by decide +kernel
theorem dX1_firstSteady_97 : decode cX1_firstSteady 97 = .ok (.lstore 7, 2) := by decide +kernel
theorem dX1_firstSteady_99 : decode cX1_firstSteady 99 = .ok (.goto (-88), 3) := by decide +kernel
theorem dX1_first_0 : decode cX1_first 0 = .ok (.lload_n 2, 1) := by decide +kernel
theorem dX1_first_1 : decode cX1_first 1 = .ok (.lstore 4, 2) := by decide +kernel
theorem dX1_first_10 : decode cX1_first 10 = .ok (.ifCond .ge 24, 3) := by decide +kernel
theorem dX1_first_13 : decode cX1_first 13 = .ok (.aload_n 1, 1) := by decide +kernel
theorem dX1_first_14 : decode cX1_first 14 = .ok (.lload 4, 2) := by decide +kernel
theorem dX1_first_16 : decode cX1_first 16 = .ok (.invokevirtual 72, 3) := by decide +kernel
theorem dX1_first_19 : decode cX1_first 19 = .ok (.ifCond .eq 6, 3) := by decide +kernel
theorem dX1_first_22 : decode cX1_first 22 = .ok (.lload 4, 2) := by decide +kernel
theorem dX1_first_24 : decode cX1_first 24 = .ok (.lreturn, 1) := by decide +kernel
theorem dX1_first_25 : decode cX1_first 25 = .ok (.lload 4, 2) := by decide +kernel
theorem dX1_first_27 : decode cX1_first 27 = .ok (.lconst 1, 1) := by decide +kernel
theorem dX1_first_28 : decode cX1_first 28 = .ok (.ladd, 1) := by decide +kernel
theorem dX1_first_29 : decode cX1_first 29 = .ok (.lstore 4, 2) := by decide +kernel
theorem dX1_first_3 : decode cX1_first 3 = .ok (.lload 4, 2) := by decide +kernel
theorem dX1_first_31 : decode cX1_first 31 = .ok (.goto (-28), 3) := by decide +kernel
theorem dX1_first_34 : decode cX1_first 34 = .ok (.aload_n 0, 1) := by decide +kernel
theorem dX1_first_35 : decode cX1_first 35 = .ok (.invokevirtual 76, 3) := by decide +kernel
theorem dX1_first_38 : decode cX1_first 38 = .ok (.lconst 0, 1) := by decide +kernel
theorem dX1_first_39 : decode cX1_first 39 = .ok (.lcmp, 1) := by decide +kernel
theorem dX1_first_40 : decode cX1_first 40 = .ok (.ifCond .ne 9, 3) := by decide +kernel
theorem dX1_first_43 : decode cX1_first 43 = .ok (.ldc2_w 80, 3) := by decide +kernel
theorem dX1_first_46 : decode cX1_first 46 = .ok (.goto 15, 3) := by decide +kernel
theorem dX1_first_49 : decode cX1_first 49 = .ok (.aload_n 0, 1) := by decide +kernel
theorem dX1_first_5 : decode cX1_first 5 = .ok (.aload_n 0, 1) := by decide +kernel
theorem dX1_first_50 : decode cX1_first 50 = .ok (.lload_n 2, 1) := by decide +kernel
theorem dX1_first_51 : decode cX1_first 51 = .ok (.aload_n 0, 1) := by decide +kernel
theorem dX1_first_52 : decode cX1_first 52 = .ok (.getfield 15, 3) := by decide +kernel
theorem dX1_first_55 : decode cX1_first 55 = .ok (.invokestatic 82, 3) := by decide +kernel
theorem dX1_first_58 : decode cX1_first 58 = .ok (.invokevirtual 85, 3) := by decide +kernel
theorem dX1_first_6 : decode cX1_first 6 = .ok (.getfield 15, 3) := by decide +kernel
theorem dX1_first_61 : decode cX1_first 61 = .ok (.lreturn, 1) := by decide +kernel
theorem dX1_first_9 : decode cX1_first 9 = .ok (.lcmp, 1) := by decide +kernel
theorem dX1_howOften_0 : decode cX1_howOften 0 = .ok (.aload_n 0, 1) := by decide +kernel
theorem dX1_howOften_1 : decode cX1_howOften 1 = .ok (.invokevirtual 51, 3) := by decide +kernel
theorem dX1_howOften_10 : decode cX1_howOften 10 = .ok (.iload 4, 2) := by decide +kernel
theorem dX1_howOften_12 : decode cX1_howOften 12 = .ok (.iload_n 1, 1) := by decide +kernel
theorem dX1_howOften_13 : decode cX1_howOften 13 = .ok (.if_icmp .ge 61, 3) := by decide +kernel
theorem dX1_howOften_16 : decode cX1_howOften 16 = .ok (.lconst 1, 1) := by decide +kernel
theorem dX1_howOften_17 : decode cX1_howOften 17 = .ok (.lstore 5, 2) := by decide +kernel
theorem dX1_howOften_19 : decode cX1_howOften 19 = .ok (.iconst 0, 1) := by decide +kernel
theorem dX1_howOften_20 : decode cX1_howOften 20 = .ok (.istore 7, 2) := by decide +kernel
theorem dX1_howOften_22 : decode cX1_howOften 22 = .ok (.iload 7, 2) := by decide +kernel
theorem dX1_howOften_24 : decode cX1_howOften 24 = .ok (.aload_n 0, 1) := by decide +kernel
theorem dX1_howOften_25 : decode cX1_howOften 25 = .ok (.getfield 9, 3) := by decide +kernel
theorem dX1_howOften_28 : decode cX1_howOften 28 = .ok (.if_icmp .ge 35, 3) := by decide +kernel
theorem dX1_howOften_31 : decode cX1_howOften 31 = .ok (.lload 5, 2) := by decide +kernel
theorem dX1_howOften_33 : decode cX1_howOften 33 = .ok (.aload_n 0, 1) := by decide +kernel
theorem dX1_howOften_34 : decode cX1_howOften 34 = .ok (.iload 7, 2) := by decide +kernel
theorem dX1_howOften_36 : decode cX1_howOften 36 = .ok (.iload 4, 2) := by decide +kernel
theorem dX1_howOften_38 : decode cX1_howOften 38 = .ok (.aload_n 0, 1) := by decide +kernel
theorem dX1_howOften_39 : decode cX1_howOften 39 = .ok (.getfield 19, 3) := by decide +kernel
theorem dX1_howOften_4 : decode cX1_howOften 4 = .ok (.istore_n 1, 1) := by decide +kernel
theorem dX1_howOften_42 : decode cX1_howOften 42 = .ok (.iload 7, 2) := by decide +kernel
theorem dX1_howOften_44 : decode cX1_howOften 44 = .ok (.iaload, 1) := by decide +kernel
theorem dX1_howOften_45 : decode cX1_howOften 45 = .ok (.iload_n 1, 1) := by decide +kernel
theorem dX1_howOften_46 : decode cX1_howOften 46 = .ok (.i2l, 1) := by decide +kernel
theorem dX1_howOften_47 : decode cX1_howOften 47 = .ok (.invokestatic 54, 3) := by decide +kernel
theorem dX1_howOften_5 : decode cX1_howOften 5 = .ok (.lconst 0, 1) := by decide +kernel
theorem dX1_howOften_50 : decode cX1_howOften 50 = .ok (.invokevirtual 58, 3) := by decide +kernel
theorem dX1_howOften_53 : decode cX1_howOften 53 = .ok (.i2l, 1) := by decide +kernel
theorem dX1_howOften_54 : decode cX1_howOften 54 = .ok (.lmul, 1) := by decide +kernel
theorem dX1_howOften_55 : decode cX1_howOften 55 = .ok (.lstore 5, 2) := by decide +kernel
theorem dX1_howOften_57 : decode cX1_howOften 57 = .ok (.iinc 7 1, 3) := by decide +kernel
theorem dX1_howOften_6 : decode cX1_howOften 6 = .ok (.lstore_n 2, 1) := by decide +kernel
theorem dX1_howOften_60 : decode cX1_howOften 60 = .ok (.goto (-38), 3) := by decide +kernel
theorem dX1_howOften_63 : decode cX1_howOften 63 = .ok (.lload_n 2, 1) := by decide +kernel
theorem dX1_howOften_64 : decode cX1_howOften 64 = .ok (.lload 5, 2) := by decide +kernel
theorem dX1_howOften_66 : decode cX1_howOften 66 = .ok (.ladd, 1) := by decide +kernel
theorem dX1_howOften_67 : decode cX1_howOften 67 = .ok (.lstore_n 2, 1) := by decide +kernel
theorem dX1_howOften_68 : decode cX1_howOften 68 = .ok (.iinc 4 1, 3) := by decide +kernel
theorem dX1_howOften_7 : decode cX1_howOften 7 = .ok (.iconst 0, 1) := by decide +kernel
theorem dX1_howOften_71 : decode cX1_howOften 71 = .ok (.goto (-61), 3) := by decide +kernel
theorem dX1_howOften_74 : decode cX1_howOften 74 = .ok (.lload_n 2, 1) := by decide +kernel
theorem dX1_howOften_75 : decode cX1_howOften 75 = .ok (.lreturn, 1) := by decide +kernel
theorem dX1_howOften_8 : decode cX1_howOften 8 = .ok (.istore 4, 2) := by decide +kernel
theorem dX1_sharedTicks_0 : decode cX1_sharedTicks 0 = .ok (.lconst 1, 1) := by decide +kernel
theorem dX1_sharedTicks_1 : decode cX1_sharedTicks 1 = .ok (.lstore_n 1, 1) := by decide +kernel
theorem dX1_sharedTicks_12 : decode cX1_sharedTicks 12 = .ok (.iload_n 3, 1) := by decide +kernel
theorem dX1_sharedTicks_13 : decode cX1_sharedTicks 13 = .ok (.iconst 1, 1) := by decide +kernel
theorem dX1_sharedTicks_14 : decode cX1_sharedTicks 14 = .ok (.iadd, 1) := by decide +kernel
theorem dX1_sharedTicks_15 : decode cX1_sharedTicks 15 = .ok (.istore 4, 2) := by decide +kernel
theorem dX1_sharedTicks_17 : decode cX1_sharedTicks 17 = .ok (.iload 4, 2) := by decide +kernel
theorem dX1_sharedTicks_19 : decode cX1_sharedTicks 19 = .ok (.aload_n 0, 1) := by decide +kernel
theorem dX1_sharedTicks_2 : decode cX1_sharedTicks 2 = .ok (.iconst 0, 1) := by decide +kernel
theorem dX1_sharedTicks_20 : decode cX1_sharedTicks 20 = .ok (.getfield 9, 3) := by decide +kernel
theorem dX1_sharedTicks_23 : decode cX1_sharedTicks 23 = .ok (.if_icmp .ge 31, 3) := by decide +kernel
theorem dX1_sharedTicks_26 : decode cX1_sharedTicks 26 = .ok (.lload_n 1, 1) := by decide +kernel
theorem dX1_sharedTicks_27 : decode cX1_sharedTicks 27 = .ok (.aload_n 0, 1) := by decide +kernel
theorem dX1_sharedTicks_28 : decode cX1_sharedTicks 28 = .ok (.getfield 19, 3) := by decide +kernel
theorem dX1_sharedTicks_3 : decode cX1_sharedTicks 3 = .ok (.istore_n 3, 1) := by decide +kernel
theorem dX1_sharedTicks_31 : decode cX1_sharedTicks 31 = .ok (.iload_n 3, 1) := by decide +kernel
theorem dX1_sharedTicks_32 : decode cX1_sharedTicks 32 = .ok (.iaload, 1) := by decide +kernel
theorem dX1_sharedTicks_33 : decode cX1_sharedTicks 33 = .ok (.aload_n 0, 1) := by decide +kernel
theorem dX1_sharedTicks_34 : decode cX1_sharedTicks 34 = .ok (.getfield 19, 3) := by decide +kernel
theorem dX1_sharedTicks_37 : decode cX1_sharedTicks 37 = .ok (.iload 4, 2) := by decide +kernel
theorem dX1_sharedTicks_39 : decode cX1_sharedTicks 39 = .ok (.iaload, 1) := by decide +kernel
theorem dX1_sharedTicks_4 : decode cX1_sharedTicks 4 = .ok (.iload_n 3, 1) := by decide +kernel
theorem dX1_sharedTicks_40 : decode cX1_sharedTicks 40 = .ok (.i2l, 1) := by decide +kernel
theorem dX1_sharedTicks_41 : decode cX1_sharedTicks 41 = .ok (.invokestatic 54, 3) := by decide +kernel
theorem dX1_sharedTicks_44 : decode cX1_sharedTicks 44 = .ok (.invokestatic 47, 3) := by decide +kernel
theorem dX1_sharedTicks_47 : decode cX1_sharedTicks 47 = .ok (.lstore_n 1, 1) := by decide +kernel
theorem dX1_sharedTicks_48 : decode cX1_sharedTicks 48 = .ok (.iinc 4 1, 3) := by decide +kernel
theorem dX1_sharedTicks_5 : decode cX1_sharedTicks 5 = .ok (.aload_n 0, 1) := by decide +kernel
theorem dX1_sharedTicks_51 : decode cX1_sharedTicks 51 = .ok (.goto (-34), 3) := by decide +kernel
theorem dX1_sharedTicks_54 : decode cX1_sharedTicks 54 = .ok (.iinc 3 1, 3) := by decide +kernel
theorem dX1_sharedTicks_57 : decode cX1_sharedTicks 57 = .ok (.goto (-53), 3) := by decide +kernel
theorem dX1_sharedTicks_6 : decode cX1_sharedTicks 6 = .ok (.getfield 9, 3) := by decide +kernel
theorem dX1_sharedTicks_60 : decode cX1_sharedTicks 60 = .ok (.lload_n 1, 1) := by decide +kernel
theorem dX1_sharedTicks_61 : decode cX1_sharedTicks 61 = .ok (.l2i, 1) := by decide +kernel
theorem dX1_sharedTicks_62 : decode cX1_sharedTicks 62 = .ok (.ireturn, 1) := by decide +kernel
theorem dX1_sharedTicks_9 : decode cX1_sharedTicks 9 = .ok (.if_icmp .ge 51, 3) := by decide +kernel
theorem dX1_ticksToTurn_0 : decode cX1_ticksToTurn 0 = .ok (.aload_n 0, 1) := by decide +kernel
theorem dX1_ticksToTurn_1 : decode cX1_ticksToTurn 1 = .ok (.getfield 19, 3) := by decide +kernel
theorem dX1_ticksToTurn_10 : decode cX1_ticksToTurn 10 = .ok (.iload 4, 2) := by decide +kernel
theorem dX1_ticksToTurn_12 : decode cX1_ticksToTurn 12 = .ok (.iload_n 3, 1) := by decide +kernel
theorem dX1_ticksToTurn_13 : decode cX1_ticksToTurn 13 = .ok (.if_icmp .ge 33, 3) := by decide +kernel
theorem dX1_ticksToTurn_16 : decode cX1_ticksToTurn 16 = .ok (.aload_n 0, 1) := by decide +kernel
theorem dX1_ticksToTurn_17 : decode cX1_ticksToTurn 17 = .ok (.getfield 23, 3) := by decide +kernel
theorem dX1_ticksToTurn_20 : decode cX1_ticksToTurn 20 = .ok (.iload_n 1, 1) := by decide +kernel
theorem dX1_ticksToTurn_21 : decode cX1_ticksToTurn 21 = .ok (.iaload, 1) := by decide +kernel
theorem dX1_ticksToTurn_22 : decode cX1_ticksToTurn 22 = .ok (.iload_n 2, 1) := by decide +kernel
theorem dX1_ticksToTurn_23 : decode cX1_ticksToTurn 23 = .ok (.iload 4, 2) := by decide +kernel
theorem dX1_ticksToTurn_25 : decode cX1_ticksToTurn 25 = .ok (.iadd, 1) := by decide +kernel
theorem dX1_ticksToTurn_26 : decode cX1_ticksToTurn 26 = .ok (.i2l, 1) := by decide +kernel
theorem dX1_ticksToTurn_27 : decode cX1_ticksToTurn 27 = .ok (.iload_n 3, 1) := by decide +kernel
theorem dX1_ticksToTurn_28 : decode cX1_ticksToTurn 28 = .ok (.invokestatic 62, 3) := by decide +kernel
theorem dX1_ticksToTurn_31 : decode cX1_ticksToTurn 31 = .ok (.ishr, 1) := by decide +kernel
theorem dX1_ticksToTurn_32 : decode cX1_ticksToTurn 32 = .ok (.iconst 1, 1) := by decide +kernel
theorem dX1_ticksToTurn_33 : decode cX1_ticksToTurn 33 = .ok (.iand, 1) := by decide +kernel
theorem dX1_ticksToTurn_34 : decode cX1_ticksToTurn 34 = .ok (.ifCond .eq 6, 3) := by decide +kernel
theorem dX1_ticksToTurn_37 : decode cX1_ticksToTurn 37 = .ok (.iload 4, 2) := by decide +kernel
theorem dX1_ticksToTurn_39 : decode cX1_ticksToTurn 39 = .ok (.ireturn, 1) := by decide +kernel
theorem dX1_ticksToTurn_4 : decode cX1_ticksToTurn 4 = .ok (.iload_n 1, 1) := by decide +kernel
theorem dX1_ticksToTurn_40 : decode cX1_ticksToTurn 40 = .ok (.iinc 4 1, 3) := by decide +kernel
theorem dX1_ticksToTurn_43 : decode cX1_ticksToTurn 43 = .ok (.goto (-33), 3) := by decide +kernel
theorem dX1_ticksToTurn_46 : decode cX1_ticksToTurn 46 = .ok (.iload_n 3, 1) := by decide +kernel
theorem dX1_ticksToTurn_47 : decode cX1_ticksToTurn 47 = .ok (.ireturn, 1) := by decide +kernel
theorem dX1_ticksToTurn_5 : decode cX1_ticksToTurn 5 = .ok (.iaload, 1) := by decide +kernel
theorem dX1_ticksToTurn_6 : decode cX1_ticksToTurn 6 = .ok (.istore_n 3, 1) := by decide +kernel
theorem dX1_ticksToTurn_7 : decode cX1_ticksToTurn 7 = .ok (.iconst 0, 1) := by decide +kernel
theorem dX1_ticksToTurn_8 : decode cX1_ticksToTurn 8 = .ok (.istore 4, 2) := by decide +kernel
theorem dX1_turnsAlike_0 : decode cX1_turnsAlike 0 = .ok (.iconst 0, 1) := by decide +kernel
theorem dX1_turnsAlike_1 : decode cX1_turnsAlike 1 = .ok (.istore 4, 2) := by decide +kernel
theorem dX1_turnsAlike_11 : decode cX1_turnsAlike 11 = .ok (.iload 5, 2) := by decide +kernel
theorem dX1_turnsAlike_13 : decode cX1_turnsAlike 13 = .ok (.aload_n 0, 1) := by decide +kernel
theorem dX1_turnsAlike_14 : decode cX1_turnsAlike 14 = .ok (.getfield 19, 3) := by decide +kernel
theorem dX1_turnsAlike_17 : decode cX1_turnsAlike 17 = .ok (.iload_n 1, 1) := by decide +kernel
theorem dX1_turnsAlike_18 : decode cX1_turnsAlike 18 = .ok (.iaload, 1) := by decide +kernel
theorem dX1_turnsAlike_19 : decode cX1_turnsAlike 19 = .ok (.if_icmp .ge 32, 3) := by decide +kernel
theorem dX1_turnsAlike_22 : decode cX1_turnsAlike 22 = .ok (.iload 4, 2) := by decide +kernel
theorem dX1_turnsAlike_24 : decode cX1_turnsAlike 24 = .ok (.aload_n 0, 1) := by decide +kernel
theorem dX1_turnsAlike_25 : decode cX1_turnsAlike 25 = .ok (.getfield 23, 3) := by decide +kernel
theorem dX1_turnsAlike_28 : decode cX1_turnsAlike 28 = .ok (.iload_n 1, 1) := by decide +kernel
theorem dX1_turnsAlike_29 : decode cX1_turnsAlike 29 = .ok (.iaload, 1) := by decide +kernel
theorem dX1_turnsAlike_3 : decode cX1_turnsAlike 3 = .ok (.iload_n 2, 1) := by decide +kernel
theorem dX1_turnsAlike_30 : decode cX1_turnsAlike 30 = .ok (.iload 5, 2) := by decide +kernel
theorem dX1_turnsAlike_32 : decode cX1_turnsAlike 32 = .ok (.ishr, 1) := by decide +kernel
theorem dX1_turnsAlike_33 : decode cX1_turnsAlike 33 = .ok (.iconst 1, 1) := by decide +kernel
theorem dX1_turnsAlike_34 : decode cX1_turnsAlike 34 = .ok (.iand, 1) := by decide +kernel
theorem dX1_turnsAlike_35 : decode cX1_turnsAlike 35 = .ok (.iadd, 1) := by decide +kernel
theorem dX1_turnsAlike_36 : decode cX1_turnsAlike 36 = .ok (.istore 4, 2) := by decide +kernel
theorem dX1_turnsAlike_38 : decode cX1_turnsAlike 38 = .ok (.iload 5, 2) := by decide +kernel
theorem dX1_turnsAlike_4 : decode cX1_turnsAlike 4 = .ok (.i2l, 1) := by decide +kernel
theorem dX1_turnsAlike_40 : decode cX1_turnsAlike 40 = .ok (.iconst 1, 1) := by decide +kernel
theorem dX1_turnsAlike_41 : decode cX1_turnsAlike 41 = .ok (.iload_n 3, 1) := by decide +kernel
theorem dX1_turnsAlike_42 : decode cX1_turnsAlike 42 = .ok (.invokestatic 66, 3) := by decide +kernel
theorem dX1_turnsAlike_45 : decode cX1_turnsAlike 45 = .ok (.iadd, 1) := by decide +kernel
theorem dX1_turnsAlike_46 : decode cX1_turnsAlike 46 = .ok (.istore 5, 2) := by decide +kernel
theorem dX1_turnsAlike_48 : decode cX1_turnsAlike 48 = .ok (.goto (-37), 3) := by decide +kernel
theorem dX1_turnsAlike_5 : decode cX1_turnsAlike 5 = .ok (.iload_n 3, 1) := by decide +kernel
theorem dX1_turnsAlike_51 : decode cX1_turnsAlike 51 = .ok (.iload 4, 2) := by decide +kernel
theorem dX1_turnsAlike_53 : decode cX1_turnsAlike 53 = .ok (.ireturn, 1) := by decide +kernel
theorem dX1_turnsAlike_6 : decode cX1_turnsAlike 6 = .ok (.invokestatic 62, 3) := by decide +kernel
theorem dX1_turnsAlike_9 : decode cX1_turnsAlike 9 = .ok (.istore 5, 2) := by decide +kernel
theorem dX9_meetsAt_0 : decode cX9_meetsAt 0 = .ok (.iconst 0, 1) := by decide +kernel
theorem dX9_meetsAt_1 : decode cX9_meetsAt 1 = .ok (.istore_n 3, 1) := by decide +kernel
theorem dX9_meetsAt_10 : decode cX9_meetsAt 10 = .ok (.aload_n 0, 1) := by decide +kernel
theorem dX9_meetsAt_11 : decode cX9_meetsAt 11 = .ok (.aload_n 0, 1) := by decide +kernel
theorem dX9_meetsAt_12 : decode cX9_meetsAt 12 = .ok (.getfield 19, 3) := by decide +kernel
theorem dX9_meetsAt_15 : decode cX9_meetsAt 15 = .ok (.iload_n 3, 1) := by decide +kernel
theorem dX9_meetsAt_16 : decode cX9_meetsAt 16 = .ok (.aaload, 1) := by decide +kernel
theorem dX9_meetsAt_17 : decode cX9_meetsAt 17 = .ok (.lload_n 1, 1) := by decide +kernel
theorem dX9_meetsAt_18 : decode cX9_meetsAt 18 = .ok (.invokevirtual 80, 3) := by decide +kernel
theorem dX9_meetsAt_2 : decode cX9_meetsAt 2 = .ok (.iload_n 3, 1) := by decide +kernel
theorem dX9_meetsAt_21 : decode cX9_meetsAt 21 = .ok (.ifCond .ne 5, 3) := by decide +kernel
theorem dX9_meetsAt_24 : decode cX9_meetsAt 24 = .ok (.iconst 0, 1) := by decide +kernel
theorem dX9_meetsAt_25 : decode cX9_meetsAt 25 = .ok (.ireturn, 1) := by decide +kernel
theorem dX9_meetsAt_26 : decode cX9_meetsAt 26 = .ok (.iinc 3 1, 3) := by decide +kernel
theorem dX9_meetsAt_29 : decode cX9_meetsAt 29 = .ok (.goto (-27), 3) := by decide +kernel
theorem dX9_meetsAt_3 : decode cX9_meetsAt 3 = .ok (.aload_n 0, 1) := by decide +kernel
theorem dX9_meetsAt_32 : decode cX9_meetsAt 32 = .ok (.iconst 1, 1) := by decide +kernel
theorem dX9_meetsAt_33 : decode cX9_meetsAt 33 = .ok (.ireturn, 1) := by decide +kernel
theorem dX9_meetsAt_4 : decode cX9_meetsAt 4 = .ok (.getfield 23, 3) := by decide +kernel
theorem dX9_meetsAt_7 : decode cX9_meetsAt 7 = .ok (.if_icmp .ge 25, 3) := by decide +kernel
theorem dm_X11_isSounds : yX11_isSounds.cls = RX11 ∧ yX11_isSounds.cls ≠ "java/lang/invoke/MethodHandle" ∧ yX11_isSounds.cls ≠ "java/lang/invoke/VarHandle" ∧ (parseMethodDescriptor yX11_isSounds.desc).map (fun d => d.parameters.length) = some 1 := by decide +kernel
theorem dm_X1_sharedTicks : yX1_sharedTicks.cls = RX1 ∧ yX1_sharedTicks.cls ≠ "java/lang/invoke/MethodHandle" ∧ yX1_sharedTicks.cls ≠ "java/lang/invoke/VarHandle" ∧ (parseMethodDescriptor yX1_sharedTicks.desc).map (fun d => d.parameters.length) = some 0 := by decide +kernel
theorem dm_X1_turnsAlike : yX1_turnsAlike.cls = RX1 ∧ yX1_turnsAlike.cls ≠ "java/lang/invoke/MethodHandle" ∧ yX1_turnsAlike.cls ≠ "java/lang/invoke/VarHandle" ∧ (parseMethodDescriptor yX1_turnsAlike.desc).map (fun d => d.parameters.length) = some 3 := by decide +kernel
theorem dm_X1_ticksToTurn : yX1_ticksToTurn.cls = RX1 ∧ yX1_ticksToTurn.cls ≠ "java/lang/invoke/MethodHandle" ∧ yX1_ticksToTurn.cls ≠ "java/lang/invoke/VarHandle" ∧ (parseMethodDescriptor yX1_ticksToTurn.desc).map (fun d => d.parameters.length) = some 2 := by decide +kernel
theorem dm_X1_howOften : yX1_howOften.cls = RX1 ∧ yX1_howOften.cls ≠ "java/lang/invoke/MethodHandle" ∧ yX1_howOften.cls ≠ "java/lang/invoke/VarHandle" ∧ (parseMethodDescriptor yX1_howOften.desc).map (fun d => d.parameters.length) = some 0 := by decide +kernel
theorem dm_X1_firstSteady : yX1_firstSteady.cls = RX1 ∧ yX1_firstSteady.cls ≠ "java/lang/invoke/MethodHandle" ∧ yX1_firstSteady.cls ≠ "java/lang/invoke/VarHandle" ∧ (parseMethodDescriptor yX1_firstSteady.desc).map (fun d => d.parameters.length) = some 1 := by decide +kernel
theorem dm_X9_meetsAt : yX9_meetsAt.cls = RX9 ∧ yX9_meetsAt.cls ≠ "java/lang/invoke/MethodHandle" ∧ yX9_meetsAt.cls ≠ "java/lang/invoke/VarHandle" ∧ (parseMethodDescriptor yX9_meetsAt.desc).map (fun d => d.parameters.length) = some 1 := by decide +kernel
theorem dm_X1_first : yX1_first.cls = RX1 ∧ yX1_first.cls ≠ "java/lang/invoke/MethodHandle" ∧ yX1_first.cls ≠ "java/lang/invoke/VarHandle" ∧ (parseMethodDescriptor yX1_first.desc).map (fun d => d.parameters.length) = some 2 := by decide +kernel
set_option maxRecDepth 100000 in
def wC_wish (a0 : Int) (a1 : Int) (M : zM) (Q : Int → zM → Prop) : Prop := wC_Studio_find a0 M (fun z2 => (z2 = none → Q 0 M) ∧ (∀ q4, z2 = some q4 → (q4 < nC ∧ zcd wC q4 = 14) ∧ (wC_isSounds a1 M (fun z14 => (z14 ≠ 0 → (∀ M18 : zM, M18 = zup M q4 4 a1 → Q 1 M18)) ∧ (z14 = 0 → Q 0 M)))))
set_option maxHeartbeats 4000000 in
set_option maxRecDepth 100000 in
theorem cC_wish (l : Launch) (D : va_G) (dA : Nat → ClassId) (b : Nat) (M : zM) (a0 : Int) (a1 : Int)  (Q : Int → zM → Prop) (h : wC_wish a0 a1 M Q) : Met l yX11_wish (.code yX11_wish cX11_wish 4 (some .boolean) :: zt) (z_rm 1) (va_Pc [.ref (b + 0), .int (iI a0), .int (iI a1)] (wPre D dA vwCl (z_tys dA) wC nC b M)) (va_Qi (wQz Q) (zB D dA vwCl wC nC b) (zA nC b)) 0 0 (zA nC b) := by
  unfold wC_wish at h
  refine Met.ofW (cc := cX11_wish) (maxL := 4) (ret := (some .boolean)) (by decide) rfl ?_
  intro p e s m args below meth c s₁ B hml hv
  obtain ⟨hargs, hS, hK⟩ := hv
  have hx := B.exec
  have hb := B.bytes
  have hr := B.returns
  have hts := atoms_spec (ws := .code yX11_wish cX11_wish 4 (some .boolean) :: zt) B.pre
  have hown : s.vm.findClass RX11 = some m.cls := findClass_of_methodNamed B.named
  have hlocks := B.notSynchronized
  have hS0 : va_S (zA nC b) s.heap s.heap [] := va_S.rf
  have hl := lv_entry ([.ref (b + 0), .int (iI a0), .int (iI a1)]) (n := 4) (Nat.le_of_ble_eq_true rfl)
  have hent : entryFrame m args 4 = F0 m 0 ((lg_sl ([.ref (b + 0), .int (iI a0), .int (iI a1)]) ++ List.replicate (4 - (lg_sl ([.ref (b + 0), .int (iI a0), .int (iI a1)])).length) Slot.unset).toArray) [] := by rw [hargs]; exact lg_entry_eq m ([.ref (b + 0), .int (iI a0), .int (iI a1)]) 4
  rw [hent]
  generalize (lg_sl ([.ref (b + 0), .int (iI a0), .int (iI a1)]) ++ List.replicate (4 - (lg_sl ([.ref (b + 0), .int (iI a0), .int (iI a1)])).length) Slot.unset).toArray = ls at hl ⊢
  have hl : lv_has ls 4 [(0, .ref (b + 0)), (1, .int (iI a0)), (2, .int (iI a1))] := hl
  refine lv_aload_n hx hb dX11_wish_0 rfl (lv_at hl 0 rfl) ?_
  refine w_getr (j2 := 32) hx hb hts (z_memU u11) hown hK.1 hS f11_2 (by decide) (zkd_of (rfl : zcd wC 0 = 0) rfl) (zrf_of (rfl : zcd wC 0 = 0) rfl) (Or.inl (hts _ (z_mem k244))) dX11_wish_1 ?_
  refine lv_iload_n hx hb dX11_wish_4 rfl (lv_at hl 1 rfl) ?_
  refine w_callq (va_runV (As := [.int (iI a0)]) (rest := []) ⟨hx, hb, hml, hown, hts⟩ (cC_Studio_find l D dA b M a0 _ h) (cwV 1 hts (z_gV k411 k412 k413 k4 k414) rfl rfl rfl dm_X9_find ⟨Nat.le_of_ble_eq_true rfl, Nat.le_of_ble_eq_true rfl⟩) ⟨wPre_blind, (w_recv hS hK.1 (by decide) (zkd_of (rfl : zcd wC 32 = 8) rfl) (by decide) (rfl : vwCl[9]? = some (RX9, TX9, 3))), w_pre hS hK⟩ rfl rfl hl.1 rfl (lv_room (Nat.le_of_ble_eq_true rfl)) dX11_wish_5 ⟨Nat.le_refl _, Nat.le_refl _⟩) hS0 (fun z2 M1 H locs h hS hS0 => ?_)
  obtain ⟨e3, h⟩ := h
  rw [e3] at hS
  rcases z2 with _ | q4
  · skip
    have h := h.1 rfl
    refine lv_astore_nN (lv' := [(3, .null), (0, .ref (b + 0)), (1, .int (iI a0)), (2, .int (iI a1))]) hx hb dX11_wish_8 rfl hl (by decide) rfl (fun ls hl => ?_)
    refine lv_aload_nN hx hb dX11_wish_9 rfl (lv_at hl 0 rfl) ?_
    refine lv_ifnullN (tgt := 20) hx hb dX11_wish_10 (by decide) ?_
    refine z_iconst hx hb dX11_wish_20 ?_
    exact w_zret hx hb hr hlocks hS hS0 (sI_of (by decide)) (by decide) h dX11_wish_21
  · skip
    obtain ⟨⟨lt5, cd6⟩, h⟩ := h.2 q4 rfl
    obtain ⟨lt7, cd8, lt9, cd10, lt11, cd12⟩ := nx_ring q4 lt5 cd6
    refine lv_astore_n (lv' := [(3, .ref (b + q4)), (0, .ref (b + 0)), (1, .int (iI a0)), (2, .int (iI a1))]) hx hb dX11_wish_8 rfl hl (by decide) rfl (fun ls hl => ?_)
    refine lv_aload_n hx hb dX11_wish_9 rfl (lv_at hl 0 rfl) ?_
    refine lv_ifnull hx hb dX11_wish_10 ?_
    refine lv_iload_n hx hb dX11_wish_13 rfl (lv_at hl 3 rfl) ?_
    refine w_callz (va_runS (As := [.int (iI a1)]) (rest := []) ⟨hx, hb, hml, hown, hts⟩ (cC_isSounds l D dA b M a1 _ h) (va_cwS 1 hts (z_gS k553 k554 k1 k555) rfl rfl rfl dm_X11_isSounds.2 ⟨Nat.le_of_ble_eq_true rfl, Nat.le_of_ble_eq_true rfl⟩) ⟨wPre_blind, w_pre hS hK⟩ rfl rfl hl.1 rfl (lv_room (Nat.le_of_ble_eq_true rfl)) dX11_wish_14 ⟨Nat.le_refl _, Nat.le_refl _⟩) hS0 (fun z14 M13 H locs r15 h hS hS0 => ?_)
    obtain ⟨e16, h⟩ := h
    rw [e16] at hS
    refine w_if_ne (tgt := 22) hx hb (sI_01 r15) dX11_wish_17 (by decide) (fun c17 => ?_) (fun c17 => ?_)
    · skip
      have h := h.1 c17
      refine lv_aload_n hx hb dX11_wish_22 rfl (lv_at hl 0 rfl) ?_
      refine lv_iload_n hx hb dX11_wish_23 rfl (lv_at hl 3 rfl) ?_
      refine w_puti hx hb hts (z_memU u6) tyX6 tyX6_ok nmX6 hown hK.1 hS hS0 f6_4 lt5 (zkd_of cd6 rfl) (Or.inl (hts _ (z_mem k108))) rfl (z := a1) (by decide +kernel) dX11_wish_24 (fun H locs hS hS0 => ?_)
      obtain ⟨M18, e19⟩ : ∃ M18 : zM, M18 = zup M q4 4 a1 := ⟨_, rfl⟩
      rw [← e19] at hS
      have h := h M18 e19
      refine z_iconst hx hb dX11_wish_27 ?_
      exact w_zret hx hb hr hlocks hS hS0 (sI_of (by decide)) (by decide) h dX11_wish_28
    · skip
      have h := h.2 c17
      refine z_iconst hx hb dX11_wish_20 ?_
      exact w_zret hx hb hr hlocks hS hS0 (sI_of (by decide)) (by decide) h dX11_wish_21

set_option maxRecDepth 100000 in
def wC_Studio_meetsAt (a0 : Int) (M : zM) (Q : Int → Prop) : Prop := pL1 (fun K2 x1 => ((sI (M 32 2)) ≤ (sI x1) → Q 1) ∧ ((sI x1) < (sI (M 32 2)) → ((0 ≤ (sI x1) ∧ (sI x1) < 4) ∧ wC_Studio_grants (41 + 4 * (sI x1).toNat) a0 M (fun z20 => (z20 ≠ 0 → K2 (x1 + 1)) ∧ (z20 = 0 → Q 0))))) 0
set_option maxHeartbeats 4000000 in
set_option maxRecDepth 100000 in
theorem cC_Studio_meetsAt (l : Launch) (D : va_G) (dA : Nat → ClassId) (b : Nat) (M : zM) (a0 : Int)  (Q : Int → Prop) (h : wC_Studio_meetsAt a0 M Q) : Met l yX9_meetsAt (.code yX9_meetsAt cX9_meetsAt 4 (some .boolean) :: zt) (z_rm 4) (va_Pc [.ref (b + 32), .long (iL a0)] (wPre D dA vwCl (z_tys dA) wC nC b M)) (va_Qi (wQz (fun z9 u9 => u9 = M ∧ Q z9)) (zB D dA vwCl wC nC b) (zA nC b)) 0 0 (zA nC b) := by
  unfold wC_Studio_meetsAt at h
  refine Met.ofW (cc := cX9_meetsAt) (maxL := 4) (ret := (some .boolean)) (by decide) rfl ?_
  intro p e s m args below meth c s₁ B hml hv
  obtain ⟨hargs, hS, hK⟩ := hv
  have hx := B.exec
  have hb := B.bytes
  have hr := B.returns
  have hts := atoms_spec (ws := .code yX9_meetsAt cX9_meetsAt 4 (some .boolean) :: zt) B.pre
  have hown : s.vm.findClass RX9 = some m.cls := findClass_of_methodNamed B.named
  have hlocks := B.notSynchronized
  have hS0 : va_S (zA nC b) s.heap s.heap [] := va_S.rf
  have hl := lv_entry ([.ref (b + 32), .long (iL a0)]) (n := 4) (Nat.le_of_ble_eq_true rfl)
  have hent : entryFrame m args 4 = F0 m 0 ((lg_sl ([.ref (b + 32), .long (iL a0)]) ++ List.replicate (4 - (lg_sl ([.ref (b + 32), .long (iL a0)])).length) Slot.unset).toArray) [] := by rw [hargs]; exact lg_entry_eq m ([.ref (b + 32), .long (iL a0)]) 4
  rw [hent]
  generalize (lg_sl ([.ref (b + 32), .long (iL a0)]) ++ List.replicate (4 - (lg_sl ([.ref (b + 32), .long (iL a0)])).length) Slot.unset).toArray = ls at hl ⊢
  have hl : lv_has ls 4 [(0, .ref (b + 32)), (1, .long (iL a0))] := hl
  refine z_iconst hx hb dX9_meetsAt_0 ?_
  refine lv_istore_n (lv' := [(3, .int (iI 0)), (0, .ref (b + 32)), (1, .long (iL a0))]) hx hb dX9_meetsAt_1 rfl hl (by decide) rfl (fun ls hl => ?_)
  obtain ⟨I2, ⟨n3, h4⟩, h5⟩ := h
  have L6 : ∀ (n7 : Nat) (x1 : Int) (H : Heap) (locs : List Loc) (ls : Array Slot), I2 n7 x1 → zR D dA vwCl wC nC b M H → va_S (zA nC b) s.heap H locs → lv_has ls 4 [(0, .ref (b + 32)), (1, .long (iL a0)), (3, .int (iI x1))] → W p l e (headSpec (.code yX9_meetsAt cX9_meetsAt 4 (some .boolean) :: zt) (z_rm 4)).room s m args below meth c H locs 0 0 (MQ below (va_Qi (wQz (fun z9 u9 => u9 = M ∧ Q z9)) (zB D dA vwCl wC nC b) (zA nC b)) args s 0 0 (zA nC b)) (F0 m 2 ls []) := by
    intro n7
    induction n7 using Nat.strongRecOn with
    | ind n7 i8 =>
      intro x1 H locs ls h hS hS0 hl
      have h := h5 n7 x1 h
      refine lv_iload_n hx hb dX9_meetsAt_2 rfl (lv_at hl 2 rfl) ?_
      refine lv_aload_n hx hb dX9_meetsAt_3 rfl (lv_at hl 0 rfl) ?_
      refine w_geti hx hb hts (z_memU u9) hown hK.1 hS f9_2 (by decide) (zkd_of (rfl : zcd wC 32 = 8) rfl) (Or.inl (hts _ (z_mem k118))) dX9_meetsAt_4 ?_
      refine w_icmp_ge (tgt := 32) hx hb rfl rfl dX9_meetsAt_7 (by decide) (fun c9 => ?_) (fun c9 => ?_)
      · skip
        have h := h.1 c9
        refine z_iconst hx hb dX9_meetsAt_32 ?_
        exact w_zret hx hb hr hlocks hS hS0 (sI_of (by decide)) (by decide) ⟨rfl, h⟩ dX9_meetsAt_33
      · skip
        have h := h.2 c9
        refine lv_aload_n hx hb dX9_meetsAt_10 rfl (lv_at hl 0 rfl) ?_
        refine lv_aload_n hx hb dX9_meetsAt_11 rfl (lv_at hl 0 rfl) ?_
        refine w_getr (j2 := 34) hx hb hts (z_memU u9) hown hK.1 hS f9_1 (by decide) (zkd_of (rfl : zcd wC 32 = 8) rfl) (zrf_of (rfl : zcd wC 32 = 8) rfl) (Or.inl (hts _ (z_mem k117))) dX9_meetsAt_12 ?_
        refine lv_iload_n hx hb dX9_meetsAt_15 rfl (lv_at hl 2 rfl) ?_
        obtain ⟨o10, h⟩ := h
        refine w_aald (n := 4) (i := (sI x1)) (j2 := (41 + 4 * (sI x1).toNat)) hx hb hK.1 (t0 := 6) (r := 6) (by decide) rfl rfl hS (by decide) (zkd_of (rfl : zcd wC 34 = 10) rfl) (zln_of (rfl : zcd wC 34 = 10) rfl) rfl o10.1 o10.2 (by decide) (zrf_of (rfl : zcd wC 34 = 10) rfl) dX9_meetsAt_16 ?_
        obtain ⟨lt11, cd12⟩ : (41 + 4 * (sI x1).toNat) < nC ∧ zcd wC (41 + 4 * (sI x1).toNat) = 14 := (by decide : ∀ k : Nat, k < 4 → (41 + 4 * k) < nC ∧ zcd wC (41 + 4 * k) = 14) (sI x1).toNat (by clear h; have h0 := o10.1; have h1 := o10.2; omega)
        obtain ⟨lt13, cd14, lt15, cd16, lt17, cd18⟩ := nx_ring (41 + 4 * (sI x1).toNat) lt11 cd12
        refine lv_lload_n hx hb dX9_meetsAt_17 rfl (lv_at hl 1 rfl) ?_
        refine w_callz (va_runV (As := [.ref (b + (41 + 4 * (sI x1).toNat)), .long (iL a0)]) (rest := []) ⟨hx, hb, hml, hown, hts⟩ (cC_Studio_grants l D dA b M (41 + 4 * (sI x1).toNat) a0 lt11 cd12 _ h) (cwV 2 hts (z_gV k570 k539 k540 k4 k541) rfl rfl rfl dm_X9_grants ⟨Nat.le_of_ble_eq_true rfl, Nat.le_of_ble_eq_true rfl⟩) ⟨wPre_blind, (w_recv hS hK.1 (by decide) (zkd_of (rfl : zcd wC 32 = 8) rfl) (by decide) (rfl : vwCl[9]? = some (RX9, TX9, 3))), w_pre hS hK⟩ rfl rfl hl.1 rfl (lv_room (Nat.le_of_ble_eq_true rfl)) dX9_meetsAt_18 ⟨Nat.le_refl _, Nat.le_refl _⟩) hS0 (fun z20 M19 H locs r21 h hS hS0 => ?_)
        obtain ⟨e22, h⟩ := h
        rw [e22] at hS
        refine w_if_ne (tgt := 26) hx hb (sI_01 r21) dX9_meetsAt_21 (by decide) (fun c23 => ?_) (fun c23 => ?_)
        · skip
          have h := h.1 c23
          refine z_iinc (lv' := [(3, .int (iI (x1 + 1))), (0, .ref (b + 32)), (1, .long (iL a0))]) hx hb dX9_meetsAt_26 hl (k := 2) rfl (by decide) rfl (fun ls hl => ?_)
          refine lv_goto (tgt := 2) hx hb dX9_meetsAt_29 (by decide) ?_
          obtain ⟨n24, h25, h⟩ := h
          exact i8 n24 h25 (x1 + 1) _ _ _ h hS hS0 (lv_sub hl [1, 2, 0] rfl)
        · skip
          have h := h.2 c23
          refine z_iconst hx hb dX9_meetsAt_24 ?_
          exact w_zret hx hb hr hlocks hS hS0 (sI_of (by decide)) (by decide) ⟨rfl, h⟩ dX9_meetsAt_25
  exact L6 n3 0 _ _ _ h4 hS hS0 (lv_sub hl [1, 2, 0] rfl)

set_option maxRecDepth 100000 in
def wC_Meeting_sharedTicks  (M : zM) (Q : Int → Prop) : Prop := pL2 (fun K4 x1 x2 => ((sI (M 57 0)) ≤ (sI x2) → Q (sI x1)) ∧ ((sI x2) < (sI (M 57 0)) → pL2 (fun K17 x11 x12 => ((sI (M 57 0)) ≤ (sI x12) → K4 x11 (x2 + 1)) ∧ ((sI x12) < (sI (M 57 0)) → ((0 ≤ (sI x2) ∧ (sI x2) < 4) ∧ ((0 ≤ (sI x12) ∧ (sI x12) < 4) ∧ wC_greatestDivisor (M 58 (sI x2).toNat) (sI (M 58 (sI x12).toNat)) M (fun z26 => wC_leastMultiple x11 z26 M (fun z30 => K17 z30 (x12 + 1))))))) x1 (x2 + 1))) 1 0
set_option maxHeartbeats 4000000 in
set_option maxRecDepth 100000 in
theorem cC_Meeting_sharedTicks (l : Launch) (D : va_G) (dA : Nat → ClassId) (b : Nat) (M : zM)   (Q : Int → Prop) (h : wC_Meeting_sharedTicks  M Q) : Met l yX1_sharedTicks (.code yX1_sharedTicks cX1_sharedTicks 5 (some .int) :: zt) (z_rm 3) (va_Pc [.ref (b + 57)] (wPre D dA vwCl (z_tys dA) wC nC b M)) (va_Qi (wQi (fun z9 u9 => u9 = M ∧ Q z9)) (zB D dA vwCl wC nC b) (zA nC b)) 0 0 (zA nC b) := by
  unfold wC_Meeting_sharedTicks at h
  refine Met.ofW (cc := cX1_sharedTicks) (maxL := 5) (ret := (some .int)) (by decide) rfl ?_
  intro p e s m args below meth c s₁ B hml hv
  obtain ⟨hargs, hS, hK⟩ := hv
  have hx := B.exec
  have hb := B.bytes
  have hr := B.returns
  have hts := atoms_spec (ws := .code yX1_sharedTicks cX1_sharedTicks 5 (some .int) :: zt) B.pre
  have hown : s.vm.findClass RX1 = some m.cls := findClass_of_methodNamed B.named
  have hlocks := B.notSynchronized
  have hS0 : va_S (zA nC b) s.heap s.heap [] := va_S.rf
  have hl := lv_entry ([.ref (b + 57)]) (n := 5) (Nat.le_of_ble_eq_true rfl)
  have hent : entryFrame m args 5 = F0 m 0 ((lg_sl ([.ref (b + 57)]) ++ List.replicate (5 - (lg_sl ([.ref (b + 57)])).length) Slot.unset).toArray) [] := by rw [hargs]; exact lg_entry_eq m ([.ref (b + 57)]) 5
  rw [hent]
  generalize (lg_sl ([.ref (b + 57)]) ++ List.replicate (5 - (lg_sl ([.ref (b + 57)])).length) Slot.unset).toArray = ls at hl ⊢
  have hl : lv_has ls 5 [(0, .ref (b + 57))] := hl
  refine z_lconst1 hx hb dX1_sharedTicks_0 ?_
  refine lv_lstore_n (lv' := [(1, .long (iL 1)), (0, .ref (b + 57))]) hx hb dX1_sharedTicks_1 rfl hl (by decide) rfl (fun ls hl => ?_)
  refine z_iconst hx hb dX1_sharedTicks_2 ?_
  refine lv_istore_n (lv' := [(3, .int (iI 0)), (1, .long (iL 1)), (0, .ref (b + 57))]) hx hb dX1_sharedTicks_3 rfl hl (by decide) rfl (fun ls hl => ?_)
  obtain ⟨I3, ⟨n4, h5⟩, h6⟩ := h
  have L7 : ∀ (n8 : Nat) (x1 x2 : Int) (H : Heap) (locs : List Loc) (ls : Array Slot), I3 n8 x1 x2 → zR D dA vwCl wC nC b M H → va_S (zA nC b) s.heap H locs → lv_has ls 5 [(0, .ref (b + 57)), (1, .long (iL x1)), (3, .int (iI x2))] → W p l e (headSpec (.code yX1_sharedTicks cX1_sharedTicks 5 (some .int) :: zt) (z_rm 3)).room s m args below meth c H locs 0 0 (MQ below (va_Qi (wQi (fun z9 u9 => u9 = M ∧ Q z9)) (zB D dA vwCl wC nC b) (zA nC b)) args s 0 0 (zA nC b)) (F0 m 4 ls []) := by
    intro n8
    induction n8 using Nat.strongRecOn with
    | ind n8 i9 =>
      intro x1 x2 H locs ls h hS hS0 hl
      have h := h6 n8 x1 x2 h
      refine lv_iload_n hx hb dX1_sharedTicks_4 rfl (lv_at hl 2 rfl) ?_
      refine lv_aload_n hx hb dX1_sharedTicks_5 rfl (lv_at hl 0 rfl) ?_
      refine w_geti hx hb hts (z_memU u1) hown hK.1 hS f1_0 (by decide) (zkd_of (rfl : zcd wC 57 = 16) rfl) (Or.inl (hts _ (z_mem k129))) dX1_sharedTicks_6 ?_
      refine w_icmp_ge (tgt := 60) hx hb rfl rfl dX1_sharedTicks_9 (by decide) (fun c10 => ?_) (fun c10 => ?_)
      · skip
        have h := h.1 c10
        refine lv_lload_n hx hb dX1_sharedTicks_60 rfl (lv_at hl 1 rfl) ?_
        refine z_l2i hx hb dX1_sharedTicks_61 ?_
        exact w_iret hx hb hr hlocks hS hS0 rfl ⟨rfl, h⟩ dX1_sharedTicks_62
      · skip
        have h := h.2 c10
        refine lv_iload_n hx hb dX1_sharedTicks_12 rfl (lv_at hl 2 rfl) ?_
        refine z_iconst hx hb dX1_sharedTicks_13 ?_
        refine z_iadd hx hb dX1_sharedTicks_14 ?_
        refine lv_istore (lv' := [(4, .int (iI (x2 + 1))), (0, .ref (b + 57)), (1, .long (iL x1)), (3, .int (iI x2))]) hx hb dX1_sharedTicks_15 hl (by decide) rfl (fun ls hl => ?_)
        obtain ⟨I13, ⟨n14, h15⟩, h16⟩ := h
        have L17 : ∀ (n18 : Nat) (x11 x12 : Int) (H : Heap) (locs : List Loc) (ls : Array Slot), I13 n18 x11 x12 → zR D dA vwCl wC nC b M H → va_S (zA nC b) s.heap H locs → lv_has ls 5 [(0, .ref (b + 57)), (1, .long (iL x11)), (3, .int (iI x2)), (4, .int (iI x12))] → W p l e (headSpec (.code yX1_sharedTicks cX1_sharedTicks 5 (some .int) :: zt) (z_rm 3)).room s m args below meth c H locs 0 0 (MQ below (va_Qi (wQi (fun z9 u9 => u9 = M ∧ Q z9)) (zB D dA vwCl wC nC b) (zA nC b)) args s 0 0 (zA nC b)) (F0 m 17 ls []) := by
          intro n18
          induction n18 using Nat.strongRecOn with
          | ind n18 i19 =>
            intro x11 x12 H locs ls h hS hS0 hl
            have h := h16 n18 x11 x12 h
            refine lv_iload hx hb dX1_sharedTicks_17 (lv_at hl 3 rfl) ?_
            refine lv_aload_n hx hb dX1_sharedTicks_19 rfl (lv_at hl 0 rfl) ?_
            refine w_geti hx hb hts (z_memU u1) hown hK.1 hS f1_0 (by decide) (zkd_of (rfl : zcd wC 57 = 16) rfl) (Or.inl (hts _ (z_mem k129))) dX1_sharedTicks_20 ?_
            refine w_icmp_ge (tgt := 54) hx hb rfl rfl dX1_sharedTicks_23 (by decide) (fun c20 => ?_) (fun c20 => ?_)
            · skip
              have h := h.1 c20
              refine z_iinc (lv' := [(3, .int (iI (x2 + 1))), (0, .ref (b + 57)), (1, .long (iL x11)), (4, .int (iI x12))]) hx hb dX1_sharedTicks_54 hl (k := 2) rfl (by decide) rfl (fun ls hl => ?_)
              refine lv_goto (tgt := 4) hx hb dX1_sharedTicks_57 (by decide) ?_
              obtain ⟨n21, h22, h⟩ := h
              exact i9 n21 h22 x11 (x2 + 1) _ _ _ h hS hS0 (lv_sub hl [1, 2, 0] rfl)
            · skip
              have h := h.2 c20
              refine lv_lload_n hx hb dX1_sharedTicks_26 rfl (lv_at hl 1 rfl) ?_
              refine lv_aload_n hx hb dX1_sharedTicks_27 rfl (lv_at hl 0 rfl) ?_
              refine w_getr (j2 := 58) hx hb hts (z_memU u1) hown hK.1 hS f1_2 (by decide) (zkd_of (rfl : zcd wC 57 = 16) rfl) (zrf_of (rfl : zcd wC 57 = 16) rfl) (Or.inl (hts _ (z_mem k131))) dX1_sharedTicks_28 ?_
              refine lv_iload_n hx hb dX1_sharedTicks_31 rfl (lv_at hl 2 rfl) ?_
              obtain ⟨o23, h⟩ := h
              refine w_iald (n := 4) (i := (sI x2)) hx hb hK.1 (t0 := 0) rfl hS (by decide) (zkd_of (rfl : zcd wC 58 = 17) rfl) (zln_of (rfl : zcd wC 58 = 17) rfl) rfl o23.1 o23.2 (by decide) dX1_sharedTicks_32 ?_
              refine lv_aload_n hx hb dX1_sharedTicks_33 rfl (lv_at hl 0 rfl) ?_
              refine w_getr (j2 := 58) hx hb hts (z_memU u1) hown hK.1 hS f1_2 (by decide) (zkd_of (rfl : zcd wC 57 = 16) rfl) (zrf_of (rfl : zcd wC 57 = 16) rfl) (Or.inl (hts _ (z_mem k131))) dX1_sharedTicks_34 ?_
              refine lv_iload hx hb dX1_sharedTicks_37 (lv_at hl 3 rfl) ?_
              obtain ⟨o24, h⟩ := h
              refine w_iald (n := 4) (i := (sI x12)) hx hb hK.1 (t0 := 0) rfl hS (by decide) (zkd_of (rfl : zcd wC 58 = 17) rfl) (zln_of (rfl : zcd wC 58 = 17) rfl) rfl o24.1 o24.2 (by decide) dX1_sharedTicks_39 ?_
              refine w_i2l hx hb rfl dX1_sharedTicks_40 ?_
              refine w_calli (va_runSN (As := [.int (iI (M 58 (sI x2).toNat)), .long (iL (sI (M 58 (sI x12).toNat)))]) (rest := [.long (iL x11)]) ⟨hx, hb, hml, hown, hts⟩ (cC_greatestDivisor l D dA b M (M 58 (sI x2).toNat) (sI (M 58 (sI x12).toNat)) _ h) ⟨va_cnB 2 hts (z_gN k534) rfl rfl rfl (hK.2 (RX1, 54, yX11_greatestDivisor, RX11) (List.mem_of_getElem? (i := 14) rfl)) (hts _ (z_mem k1)) dm_X11_greatestDivisor.2 ⟨Nat.le_of_ble_eq_true rfl, Nat.le_of_ble_eq_true rfl⟩, (hts _ (z_mem k533)), trivial⟩ ⟨wPre_blind, w_pre hS hK⟩ rfl rfl hl.1 rfl (lv_room (Nat.le_of_ble_eq_true rfl)) dX1_sharedTicks_41 ⟨Nat.le_refl _, Nat.le_refl _⟩) hS0 (fun z26 M25 H locs r27 h hS hS0 => ?_)
              obtain ⟨e28, h⟩ := h
              rw [e28] at hS
              refine w_calll (va_runSN (As := [.long (iL x11), .int (iI z26)]) (rest := []) ⟨hx, hb, hml, hown, hts⟩ (cC_leastMultiple l D dA b M x11 z26 _ h) ⟨va_cnB 2 hts (z_gN k547) rfl rfl rfl (hK.2 (RX1, 47, yX11_leastMultiple, RX11) (List.mem_of_getElem? (i := 13) rfl)) (hts _ (z_mem k1)) dm_X11_leastMultiple.2 ⟨Nat.le_of_ble_eq_true rfl, Nat.le_of_ble_eq_true rfl⟩, (hts _ (z_mem k546)), trivial⟩ ⟨wPre_blind, w_pre hS hK⟩ rfl rfl hl.1 rfl (lv_room (Nat.le_of_ble_eq_true rfl)) dX1_sharedTicks_44 ⟨Nat.le_refl _, Nat.le_refl _⟩) hS0 (fun z30 M29 H locs r31 h hS hS0 => ?_)
              obtain ⟨e32, h⟩ := h
              rw [e32] at hS
              refine lv_lstore_n (lv' := [(1, .long (iL z30)), (0, .ref (b + 57)), (3, .int (iI x2)), (4, .int (iI x12))]) hx hb dX1_sharedTicks_47 rfl hl (by decide) rfl (fun ls hl => ?_)
              refine z_iinc (lv' := [(4, .int (iI (x12 + 1))), (1, .long (iL z30)), (0, .ref (b + 57)), (3, .int (iI x2))]) hx hb dX1_sharedTicks_48 hl (k := 3) rfl (by decide) rfl (fun ls hl => ?_)
              refine lv_goto (tgt := 17) hx hb dX1_sharedTicks_51 (by decide) ?_
              obtain ⟨n33, h34, h⟩ := h
              exact i19 n33 h34 z30 (x12 + 1) _ _ _ h hS hS0 (lv_sub hl [2, 1, 3, 0] rfl)
        exact L17 n14 x1 (x2 + 1) _ _ _ h15 hS hS0 (lv_sub hl [1, 2, 3, 0] rfl)
  exact L7 n4 1 0 _ _ _ h5 hS hS0 (lv_sub hl [2, 1, 0] rfl)

set_option maxRecDepth 100000 in
def wC_Meeting_turnsAlike (a0 : Int) (a1 : Int) (a2 : Int) (M : zM) (Q : Int → Prop) : Prop := wC_by (sI a1) a2 M (fun z2 => pL2 (fun K11 x5 x6 => ((0 ≤ (sI a0) ∧ (sI a0) < 4) ∧ ((sI (M 58 (sI a0).toNat)) ≤ (sI x6) → Q (sI x5)) ∧ ((sI x6) < (sI (M 58 (sI a0).toNat)) → ((0 ≤ (sI a0) ∧ (sI a0) < 4) ∧ (∀ t17 : Int, t17 = (x5 + (andI (shrI (M 59 (sI a0).toNat) x6) 1)) → K11 t17 (x6 + (max 1 (sI a2)))))))) 0 z2)
set_option maxHeartbeats 4000000 in
set_option maxRecDepth 100000 in
theorem cC_Meeting_turnsAlike (l : Launch) (D : va_G) (dA : Nat → ClassId) (b : Nat) (M : zM) (a0 : Int) (a1 : Int) (a2 : Int)  (Q : Int → Prop) (h : wC_Meeting_turnsAlike a0 a1 a2 M Q) : Met l yX1_turnsAlike (.code yX1_turnsAlike cX1_turnsAlike 6 (some .int) :: zt) (z_rm 1) (va_Pc [.ref (b + 57), .int (iI a0), .int (iI a1), .int (iI a2)] (wPre D dA vwCl (z_tys dA) wC nC b M)) (va_Qi (wQi (fun z9 u9 => u9 = M ∧ Q z9)) (zB D dA vwCl wC nC b) (zA nC b)) 0 0 (zA nC b) := by
  unfold wC_Meeting_turnsAlike at h
  refine Met.ofW (cc := cX1_turnsAlike) (maxL := 6) (ret := (some .int)) (by decide) rfl ?_
  intro p e s m args below meth c s₁ B hml hv
  obtain ⟨hargs, hS, hK⟩ := hv
  have hx := B.exec
  have hb := B.bytes
  have hr := B.returns
  have hts := atoms_spec (ws := .code yX1_turnsAlike cX1_turnsAlike 6 (some .int) :: zt) B.pre
  have hown : s.vm.findClass RX1 = some m.cls := findClass_of_methodNamed B.named
  have hlocks := B.notSynchronized
  have hS0 : va_S (zA nC b) s.heap s.heap [] := va_S.rf
  have hl := lv_entry ([.ref (b + 57), .int (iI a0), .int (iI a1), .int (iI a2)]) (n := 6) (Nat.le_of_ble_eq_true rfl)
  have hent : entryFrame m args 6 = F0 m 0 ((lg_sl ([.ref (b + 57), .int (iI a0), .int (iI a1), .int (iI a2)]) ++ List.replicate (6 - (lg_sl ([.ref (b + 57), .int (iI a0), .int (iI a1), .int (iI a2)])).length) Slot.unset).toArray) [] := by rw [hargs]; exact lg_entry_eq m ([.ref (b + 57), .int (iI a0), .int (iI a1), .int (iI a2)]) 6
  rw [hent]
  generalize (lg_sl ([.ref (b + 57), .int (iI a0), .int (iI a1), .int (iI a2)]) ++ List.replicate (6 - (lg_sl ([.ref (b + 57), .int (iI a0), .int (iI a1), .int (iI a2)])).length) Slot.unset).toArray = ls at hl ⊢
  have hl : lv_has ls 6 [(0, .ref (b + 57)), (1, .int (iI a0)), (2, .int (iI a1)), (3, .int (iI a2))] := hl
  refine z_iconst hx hb dX1_turnsAlike_0 ?_
  refine lv_istore (lv' := [(4, .int (iI 0)), (0, .ref (b + 57)), (1, .int (iI a0)), (2, .int (iI a1)), (3, .int (iI a2))]) hx hb dX1_turnsAlike_1 hl (by decide) rfl (fun ls hl => ?_)
  refine lv_iload_n hx hb dX1_turnsAlike_3 rfl (lv_at hl 3 rfl) ?_
  refine w_i2l hx hb rfl dX1_turnsAlike_4 ?_
  refine lv_iload_n hx hb dX1_turnsAlike_5 rfl (lv_at hl 4 rfl) ?_
  refine w_calli (va_runSN (As := [.long (iL (sI a1)), .int (iI a2)]) (rest := []) ⟨hx, hb, hml, hown, hts⟩ (cC_by l D dA b M (sI a1) a2 _ h) ⟨va_cnB 2 hts (z_gN k406) rfl rfl rfl (hK.2 (RX1, 62, yX11_by, RX11) (List.mem_of_getElem? (i := 15) rfl)) (hts _ (z_mem k1)) dm_X11_by.2 ⟨Nat.le_of_ble_eq_true rfl, Nat.le_of_ble_eq_true rfl⟩, (hts _ (z_mem k405)), trivial⟩ ⟨wPre_blind, w_pre hS hK⟩ rfl rfl hl.1 rfl (lv_room (Nat.le_of_ble_eq_true rfl)) dX1_turnsAlike_6 ⟨Nat.le_refl _, Nat.le_refl _⟩) hS0 (fun z2 M1 H locs r3 h hS hS0 => ?_)
  obtain ⟨e4, h⟩ := h
  rw [e4] at hS
  refine lv_istore (lv' := [(5, .int (iI z2)), (4, .int (iI 0)), (0, .ref (b + 57)), (1, .int (iI a0)), (2, .int (iI a1)), (3, .int (iI a2))]) hx hb dX1_turnsAlike_9 hl (by decide) rfl (fun ls hl => ?_)
  obtain ⟨I7, ⟨n8, h9⟩, h10⟩ := h
  have L11 : ∀ (n12 : Nat) (x5 x6 : Int) (H : Heap) (locs : List Loc) (ls : Array Slot), I7 n12 x5 x6 → zR D dA vwCl wC nC b M H → va_S (zA nC b) s.heap H locs → lv_has ls 6 [(0, .ref (b + 57)), (1, .int (iI a0)), (3, .int (iI a2)), (4, .int (iI x5)), (5, .int (iI x6))] → W p l e (headSpec (.code yX1_turnsAlike cX1_turnsAlike 6 (some .int) :: zt) (z_rm 1)).room s m args below meth c H locs 0 0 (MQ below (va_Qi (wQi (fun z9 u9 => u9 = M ∧ Q z9)) (zB D dA vwCl wC nC b) (zA nC b)) args s 0 0 (zA nC b)) (F0 m 11 ls []) := by
    intro n12
    induction n12 using Nat.strongRecOn with
    | ind n12 i13 =>
      intro x5 x6 H locs ls h hS hS0 hl
      have h := h10 n12 x5 x6 h
      refine lv_iload hx hb dX1_turnsAlike_11 (lv_at hl 4 rfl) ?_
      refine lv_aload_n hx hb dX1_turnsAlike_13 rfl (lv_at hl 0 rfl) ?_
      refine w_getr (j2 := 58) hx hb hts (z_memU u1) hown hK.1 hS f1_2 (by decide) (zkd_of (rfl : zcd wC 57 = 16) rfl) (zrf_of (rfl : zcd wC 57 = 16) rfl) (Or.inl (hts _ (z_mem k131))) dX1_turnsAlike_14 ?_
      refine lv_iload_n hx hb dX1_turnsAlike_17 rfl (lv_at hl 1 rfl) ?_
      obtain ⟨o14, h⟩ := h
      refine w_iald (n := 4) (i := (sI a0)) hx hb hK.1 (t0 := 0) rfl hS (by decide) (zkd_of (rfl : zcd wC 58 = 17) rfl) (zln_of (rfl : zcd wC 58 = 17) rfl) rfl o14.1 o14.2 (by decide) dX1_turnsAlike_18 ?_
      refine w_icmp_ge (tgt := 51) hx hb rfl rfl dX1_turnsAlike_19 (by decide) (fun c15 => ?_) (fun c15 => ?_)
      · skip
        have h := h.1 c15
        refine lv_iload hx hb dX1_turnsAlike_51 (lv_at hl 3 rfl) ?_
        exact w_iret hx hb hr hlocks hS hS0 rfl ⟨rfl, h⟩ dX1_turnsAlike_53
      · skip
        have h := h.2 c15
        refine lv_iload hx hb dX1_turnsAlike_22 (lv_at hl 3 rfl) ?_
        refine lv_aload_n hx hb dX1_turnsAlike_24 rfl (lv_at hl 0 rfl) ?_
        refine w_getr (j2 := 59) hx hb hts (z_memU u1) hown hK.1 hS f1_3 (by decide) (zkd_of (rfl : zcd wC 57 = 16) rfl) (zrf_of (rfl : zcd wC 57 = 16) rfl) (Or.inl (hts _ (z_mem k132))) dX1_turnsAlike_25 ?_
        refine lv_iload_n hx hb dX1_turnsAlike_28 rfl (lv_at hl 1 rfl) ?_
        obtain ⟨o16, h⟩ := h
        refine w_iald (n := 4) (i := (sI a0)) hx hb hK.1 (t0 := 0) rfl hS (by decide) (zkd_of (rfl : zcd wC 59 = 18) rfl) (zln_of (rfl : zcd wC 59 = 18) rfl) rfl o16.1 o16.2 (by decide) dX1_turnsAlike_29 ?_
        refine lv_iload hx hb dX1_turnsAlike_30 (lv_at hl 4 rfl) ?_
        refine w_ishr hx hb dX1_turnsAlike_32 ?_
        refine z_iconst hx hb dX1_turnsAlike_33 ?_
        refine w_iand hx hb dX1_turnsAlike_34 ?_
        refine z_iadd hx hb dX1_turnsAlike_35 ?_
        obtain ⟨t17, e18⟩ : ∃ t17 : Int, t17 = (x5 + (andI (shrI (M 59 (sI a0).toNat) x6) 1)) := ⟨_, rfl⟩
        refine z_top (y := t17) e18.symm ?_
        have h := h t17 e18
        refine lv_istore (lv' := [(4, .int (iI t17)), (0, .ref (b + 57)), (1, .int (iI a0)), (3, .int (iI a2)), (5, .int (iI x6))]) hx hb dX1_turnsAlike_36 hl (by decide) rfl (fun ls hl => ?_)
        refine lv_iload hx hb dX1_turnsAlike_38 (lv_at hl 4 rfl) ?_
        refine z_iconst hx hb dX1_turnsAlike_40 ?_
        refine lv_iload_n hx hb dX1_turnsAlike_41 rfl (lv_at hl 3 rfl) ?_
        refine w_mmax hx hb (hml.trans hl.1.symm) hown (hts _ (z_mem k581)) (hts _ (z_mem k341)) (hts _ (z_mem k15)) (hts _ (z_mem k342)) (by exact Nat.le_of_ble_eq_true rfl) (by exact Nat.le_of_ble_eq_true rfl) (by exact Nat.le_refl _) (by exact Nat.le_refl _) (sI_of (by decide)) rfl dX1_turnsAlike_42 ?_
        refine z_iadd hx hb dX1_turnsAlike_45 ?_
        refine lv_istore (lv' := [(5, .int (iI (x6 + (max 1 (sI a2))))), (4, .int (iI t17)), (0, .ref (b + 57)), (1, .int (iI a0)), (3, .int (iI a2))]) hx hb dX1_turnsAlike_46 hl (by decide) rfl (fun ls hl => ?_)
        refine lv_goto (tgt := 11) hx hb dX1_turnsAlike_48 (by decide) ?_
        obtain ⟨n19, h20, h⟩ := h
        exact i13 n19 h20 t17 (x6 + (max 1 (sI a2))) _ _ _ h hS hS0 (lv_sub hl [2, 3, 4, 1, 0] rfl)
  exact L11 n8 0 z2 _ _ _ h9 hS hS0 (lv_sub hl [2, 3, 5, 1, 0] rfl)

set_option maxRecDepth 100000 in
def wC_Meeting_howOften  (M : zM) (Q : Int → Prop) : Prop := wC_Meeting_sharedTicks  M (fun z2 => pL2 (fun K10 x5 x6 => (z2 ≤ (sI x6) → Q (sL x5)) ∧ ((sI x6) < z2 → pL2 (fun K22 x15 x16 => ((sI (M 57 0)) ≤ (sI x16) → K10 (x5 + x15) (x6 + 1)) ∧ ((sI x16) < (sI (M 57 0)) → ((0 ≤ (sI x16) ∧ (sI x16) < 4) ∧ wC_greatestDivisor (M 58 (sI x16).toNat) z2 M (fun z29 => wC_Meeting_turnsAlike x16 x6 z29 M (fun z33 => K22 (x15 * z33) (x16 + 1)))))) 1 0)) 0 0)
set_option maxHeartbeats 4000000 in
set_option maxRecDepth 100000 in
theorem cC_Meeting_howOften (l : Launch) (D : va_G) (dA : Nat → ClassId) (b : Nat) (M : zM)   (Q : Int → Prop) (h : wC_Meeting_howOften  M Q) : Met l yX1_howOften (.code yX1_howOften cX1_howOften 8 (some .long) :: zt) (z_rm 4) (va_Pc [.ref (b + 57)] (wPre D dA vwCl (z_tys dA) wC nC b M)) (va_Ql (wQl (fun z9 u9 => u9 = M ∧ Q z9)) (zB D dA vwCl wC nC b) (zA nC b)) 0 0 (zA nC b) := by
  unfold wC_Meeting_howOften at h
  refine Met.ofW (cc := cX1_howOften) (maxL := 8) (ret := (some .long)) (by decide) rfl ?_
  intro p e s m args below meth c s₁ B hml hv
  obtain ⟨hargs, hS, hK⟩ := hv
  have hx := B.exec
  have hb := B.bytes
  have hr := B.returns
  have hts := atoms_spec (ws := .code yX1_howOften cX1_howOften 8 (some .long) :: zt) B.pre
  have hown : s.vm.findClass RX1 = some m.cls := findClass_of_methodNamed B.named
  have hlocks := B.notSynchronized
  have hS0 : va_S (zA nC b) s.heap s.heap [] := va_S.rf
  have hl := lv_entry ([.ref (b + 57)]) (n := 8) (Nat.le_of_ble_eq_true rfl)
  have hent : entryFrame m args 8 = F0 m 0 ((lg_sl ([.ref (b + 57)]) ++ List.replicate (8 - (lg_sl ([.ref (b + 57)])).length) Slot.unset).toArray) [] := by rw [hargs]; exact lg_entry_eq m ([.ref (b + 57)]) 8
  rw [hent]
  generalize (lg_sl ([.ref (b + 57)]) ++ List.replicate (8 - (lg_sl ([.ref (b + 57)])).length) Slot.unset).toArray = ls at hl ⊢
  have hl : lv_has ls 8 [(0, .ref (b + 57))] := hl
  refine lv_aload_n hx hb dX1_howOften_0 rfl (lv_at hl 0 rfl) ?_
  refine w_calli (va_runV (As := []) (rest := []) ⟨hx, hb, hml, hown, hts⟩ (cC_Meeting_sharedTicks l D dA b M  _ h) (cwV 0 hts (z_gV k575 k576 k1366 k7 k577) rfl rfl rfl dm_X1_sharedTicks ⟨Nat.le_of_ble_eq_true rfl, Nat.le_of_ble_eq_true rfl⟩) ⟨wPre_blind, (w_recv hS hK.1 (by decide) (zkd_of (rfl : zcd wC 57 = 16) rfl) (by decide) (rfl : vwCl[1]? = some (RX1, TX1, 4))), w_pre hS hK⟩ rfl rfl hl.1 rfl (lv_room (Nat.le_of_ble_eq_true rfl)) dX1_howOften_1 ⟨Nat.le_refl _, Nat.le_refl _⟩) hS0 (fun z2 M1 H locs r3 h hS hS0 => ?_)
  obtain ⟨e4, h⟩ := h
  rw [e4] at hS
  refine lv_istore_n (lv' := [(1, .int (iI z2)), (0, .ref (b + 57))]) hx hb dX1_howOften_4 rfl hl (by decide) rfl (fun ls hl => ?_)
  refine z_lconst0 hx hb dX1_howOften_5 ?_
  refine lv_lstore_n (lv' := [(2, .long (iL 0)), (1, .int (iI z2)), (0, .ref (b + 57))]) hx hb dX1_howOften_6 rfl hl (by decide) rfl (fun ls hl => ?_)
  refine z_iconst hx hb dX1_howOften_7 ?_
  refine lv_istore (lv' := [(4, .int (iI 0)), (2, .long (iL 0)), (1, .int (iI z2)), (0, .ref (b + 57))]) hx hb dX1_howOften_8 hl (by decide) rfl (fun ls hl => ?_)
  obtain ⟨I7, ⟨n8, h9⟩, h10⟩ := h
  have L11 : ∀ (n12 : Nat) (x5 x6 : Int) (H : Heap) (locs : List Loc) (ls : Array Slot), I7 n12 x5 x6 → zR D dA vwCl wC nC b M H → va_S (zA nC b) s.heap H locs → lv_has ls 8 [(0, .ref (b + 57)), (1, .int (iI z2)), (2, .long (iL x5)), (4, .int (iI x6))] → W p l e (headSpec (.code yX1_howOften cX1_howOften 8 (some .long) :: zt) (z_rm 4)).room s m args below meth c H locs 0 0 (MQ below (va_Ql (wQl (fun z9 u9 => u9 = M ∧ Q z9)) (zB D dA vwCl wC nC b) (zA nC b)) args s 0 0 (zA nC b)) (F0 m 10 ls []) := by
    intro n12
    induction n12 using Nat.strongRecOn with
    | ind n12 i13 =>
      intro x5 x6 H locs ls h hS hS0 hl
      have h := h10 n12 x5 x6 h
      refine lv_iload hx hb dX1_howOften_10 (lv_at hl 3 rfl) ?_
      refine lv_iload_n hx hb dX1_howOften_12 rfl (lv_at hl 1 rfl) ?_
      refine w_icmp_ge (tgt := 74) hx hb rfl (sI_of r3) dX1_howOften_13 (by decide) (fun c14 => ?_) (fun c14 => ?_)
      · skip
        have h := h.1 c14
        refine lv_lload_n hx hb dX1_howOften_74 rfl (lv_at hl 2 rfl) ?_
        exact w_lret hx hb hr hlocks hS hS0 rfl ⟨rfl, h⟩ dX1_howOften_75
      · skip
        have h := h.2 c14
        refine z_lconst1 hx hb dX1_howOften_16 ?_
        refine lv_lstore (lv' := [(5, .long (iL 1)), (0, .ref (b + 57)), (1, .int (iI z2)), (2, .long (iL x5)), (4, .int (iI x6))]) hx hb dX1_howOften_17 hl (by decide) rfl (fun ls hl => ?_)
        refine z_iconst hx hb dX1_howOften_19 ?_
        refine lv_istore (lv' := [(7, .int (iI 0)), (5, .long (iL 1)), (0, .ref (b + 57)), (1, .int (iI z2)), (2, .long (iL x5)), (4, .int (iI x6))]) hx hb dX1_howOften_20 hl (by decide) rfl (fun ls hl => ?_)
        obtain ⟨I17, ⟨n18, h19⟩, h20⟩ := h
        have L21 : ∀ (n22 : Nat) (x15 x16 : Int) (H : Heap) (locs : List Loc) (ls : Array Slot), I17 n22 x15 x16 → zR D dA vwCl wC nC b M H → va_S (zA nC b) s.heap H locs → lv_has ls 8 [(0, .ref (b + 57)), (1, .int (iI z2)), (2, .long (iL x5)), (4, .int (iI x6)), (5, .long (iL x15)), (7, .int (iI x16))] → W p l e (headSpec (.code yX1_howOften cX1_howOften 8 (some .long) :: zt) (z_rm 4)).room s m args below meth c H locs 0 0 (MQ below (va_Ql (wQl (fun z9 u9 => u9 = M ∧ Q z9)) (zB D dA vwCl wC nC b) (zA nC b)) args s 0 0 (zA nC b)) (F0 m 22 ls []) := by
          intro n22
          induction n22 using Nat.strongRecOn with
          | ind n22 i23 =>
            intro x15 x16 H locs ls h hS hS0 hl
            have h := h20 n22 x15 x16 h
            refine lv_iload hx hb dX1_howOften_22 (lv_at hl 5 rfl) ?_
            refine lv_aload_n hx hb dX1_howOften_24 rfl (lv_at hl 0 rfl) ?_
            refine w_geti hx hb hts (z_memU u1) hown hK.1 hS f1_0 (by decide) (zkd_of (rfl : zcd wC 57 = 16) rfl) (Or.inl (hts _ (z_mem k129))) dX1_howOften_25 ?_
            refine w_icmp_ge (tgt := 63) hx hb rfl rfl dX1_howOften_28 (by decide) (fun c24 => ?_) (fun c24 => ?_)
            · skip
              have h := h.1 c24
              refine lv_lload_n hx hb dX1_howOften_63 rfl (lv_at hl 2 rfl) ?_
              refine lv_lload hx hb dX1_howOften_64 (lv_at hl 4 rfl) ?_
              refine z_ladd hx hb dX1_howOften_66 ?_
              refine lv_lstore_n (lv' := [(2, .long (iL (x5 + x15))), (0, .ref (b + 57)), (1, .int (iI z2)), (4, .int (iI x6)), (5, .long (iL x15)), (7, .int (iI x16))]) hx hb dX1_howOften_67 rfl hl (by decide) rfl (fun ls hl => ?_)
              refine z_iinc (lv' := [(4, .int (iI (x6 + 1))), (2, .long (iL (x5 + x15))), (0, .ref (b + 57)), (1, .int (iI z2)), (5, .long (iL x15)), (7, .int (iI x16))]) hx hb dX1_howOften_68 hl (k := 3) rfl (by decide) rfl (fun ls hl => ?_)
              refine lv_goto (tgt := 10) hx hb dX1_howOften_71 (by decide) ?_
              obtain ⟨n25, h26, h⟩ := h
              exact i13 n25 h26 (x5 + x15) (x6 + 1) _ _ _ h hS hS0 (lv_sub hl [2, 3, 1, 0] rfl)
            · skip
              have h := h.2 c24
              refine lv_lload hx hb dX1_howOften_31 (lv_at hl 4 rfl) ?_
              refine lv_aload_n hx hb dX1_howOften_33 rfl (lv_at hl 0 rfl) ?_
              refine lv_iload hx hb dX1_howOften_34 (lv_at hl 5 rfl) ?_
              refine lv_iload hx hb dX1_howOften_36 (lv_at hl 3 rfl) ?_
              refine lv_aload_n hx hb dX1_howOften_38 rfl (lv_at hl 0 rfl) ?_
              refine w_getr (j2 := 58) hx hb hts (z_memU u1) hown hK.1 hS f1_2 (by decide) (zkd_of (rfl : zcd wC 57 = 16) rfl) (zrf_of (rfl : zcd wC 57 = 16) rfl) (Or.inl (hts _ (z_mem k131))) dX1_howOften_39 ?_
              refine lv_iload hx hb dX1_howOften_42 (lv_at hl 5 rfl) ?_
              obtain ⟨o27, h⟩ := h
              refine w_iald (n := 4) (i := (sI x16)) hx hb hK.1 (t0 := 0) rfl hS (by decide) (zkd_of (rfl : zcd wC 58 = 17) rfl) (zln_of (rfl : zcd wC 58 = 17) rfl) rfl o27.1 o27.2 (by decide) dX1_howOften_44 ?_
              refine lv_iload_n hx hb dX1_howOften_45 rfl (lv_at hl 1 rfl) ?_
              refine w_i2l hx hb (sI_of r3) dX1_howOften_46 ?_
              refine w_calli (va_runSN (As := [.int (iI (M 58 (sI x16).toNat)), .long (iL z2)]) (rest := [.int (iI x6), .int (iI x16), .ref (b + 57), .long (iL x15)]) ⟨hx, hb, hml, hown, hts⟩ (cC_greatestDivisor l D dA b M (M 58 (sI x16).toNat) z2 _ h) ⟨va_cnB 2 hts (z_gN k534) rfl rfl rfl (hK.2 (RX1, 54, yX11_greatestDivisor, RX11) (List.mem_of_getElem? (i := 14) rfl)) (hts _ (z_mem k1)) dm_X11_greatestDivisor.2 ⟨Nat.le_of_ble_eq_true rfl, Nat.le_of_ble_eq_true rfl⟩, (hts _ (z_mem k533)), trivial⟩ ⟨wPre_blind, w_pre hS hK⟩ rfl rfl hl.1 rfl (lv_room (Nat.le_of_ble_eq_true rfl)) dX1_howOften_47 ⟨Nat.le_refl _, Nat.le_refl _⟩) hS0 (fun z29 M28 H locs r30 h hS hS0 => ?_)
              obtain ⟨e31, h⟩ := h
              rw [e31] at hS
              refine w_calli (va_runV (As := [.int (iI x16), .int (iI x6), .int (iI z29)]) (rest := [.long (iL x15)]) ⟨hx, hb, hml, hown, hts⟩ (cC_Meeting_turnsAlike l D dA b M x16 x6 z29 _ h) (cwV 3 hts (z_gV k578 k579 k1367 k7 k580) rfl rfl rfl dm_X1_turnsAlike ⟨Nat.le_of_ble_eq_true rfl, Nat.le_of_ble_eq_true rfl⟩) ⟨wPre_blind, (w_recv hS hK.1 (by decide) (zkd_of (rfl : zcd wC 57 = 16) rfl) (by decide) (rfl : vwCl[1]? = some (RX1, TX1, 4))), w_pre hS hK⟩ rfl rfl hl.1 rfl (lv_room (Nat.le_of_ble_eq_true rfl)) dX1_howOften_50 ⟨Nat.le_refl _, Nat.le_refl _⟩) hS0 (fun z33 M32 H locs r34 h hS hS0 => ?_)
              obtain ⟨e35, h⟩ := h
              rw [e35] at hS
              refine w_i2l hx hb (sI_of r34) dX1_howOften_53 ?_
              refine z_lmul hx hb dX1_howOften_54 ?_
              refine lv_lstore (lv' := [(5, .long (iL (x15 * z33))), (0, .ref (b + 57)), (1, .int (iI z2)), (2, .long (iL x5)), (4, .int (iI x6)), (7, .int (iI x16))]) hx hb dX1_howOften_55 hl (by decide) rfl (fun ls hl => ?_)
              refine z_iinc (lv' := [(7, .int (iI (x16 + 1))), (5, .long (iL (x15 * z33))), (0, .ref (b + 57)), (1, .int (iI z2)), (2, .long (iL x5)), (4, .int (iI x6))]) hx hb dX1_howOften_57 hl (k := 5) rfl (by decide) rfl (fun ls hl => ?_)
              refine lv_goto (tgt := 22) hx hb dX1_howOften_60 (by decide) ?_
              obtain ⟨n36, h37, h⟩ := h
              exact i23 n36 h37 (x15 * z33) (x16 + 1) _ _ _ h hS hS0 (lv_sub hl [2, 3, 4, 5, 1, 0] rfl)
        exact L21 n18 1 0 _ _ _ h19 hS hS0 (lv_sub hl [2, 3, 4, 5, 1, 0] rfl)
  exact L11 n8 0 0 _ _ _ h9 hS hS0 (lv_sub hl [3, 2, 1, 0] rfl)

set_option maxRecDepth 100000 in
def wC_Meeting_ticksToTurn (a0 : Int) (a1 : Int) (M : zM) (Q : Int → Prop) : Prop := ((0 ≤ (sI a0) ∧ (sI a0) < 4) ∧ pL1 (fun K10 x2 => ((sI (M 58 (sI a0).toNat)) ≤ (sI x2) → Q (sI (M 58 (sI a0).toNat))) ∧ ((sI x2) < (sI (M 58 (sI a0).toNat)) → ((0 ≤ (sI a0) ∧ (sI a0) < 4) ∧ wC_by (sI (a1 + x2)) (M 58 (sI a0).toNat) M (fun z13 => ((andI (shrI (M 59 (sI a0).toNat) z13) 1) = 0 → K10 (x2 + 1)) ∧ ((andI (shrI (M 59 (sI a0).toNat) z13) 1) ≠ 0 → Q (sI x2)))))) 0)
set_option maxHeartbeats 4000000 in
set_option maxRecDepth 100000 in
theorem cC_Meeting_ticksToTurn (l : Launch) (D : va_G) (dA : Nat → ClassId) (b : Nat) (M : zM) (a0 : Int) (a1 : Int)  (Q : Int → Prop) (h : wC_Meeting_ticksToTurn a0 a1 M Q) : Met l yX1_ticksToTurn (.code yX1_ticksToTurn cX1_ticksToTurn 5 (some .int) :: zt) (z_rm 1) (va_Pc [.ref (b + 57), .int (iI a0), .int (iI a1)] (wPre D dA vwCl (z_tys dA) wC nC b M)) (va_Qi (wQi (fun z9 u9 => u9 = M ∧ Q z9)) (zB D dA vwCl wC nC b) (zA nC b)) 0 0 (zA nC b) := by
  unfold wC_Meeting_ticksToTurn at h
  refine Met.ofW (cc := cX1_ticksToTurn) (maxL := 5) (ret := (some .int)) (by decide) rfl ?_
  intro p e s m args below meth c s₁ B hml hv
  obtain ⟨hargs, hS, hK⟩ := hv
  have hx := B.exec
  have hb := B.bytes
  have hr := B.returns
  have hts := atoms_spec (ws := .code yX1_ticksToTurn cX1_ticksToTurn 5 (some .int) :: zt) B.pre
  have hown : s.vm.findClass RX1 = some m.cls := findClass_of_methodNamed B.named
  have hlocks := B.notSynchronized
  have hS0 : va_S (zA nC b) s.heap s.heap [] := va_S.rf
  have hl := lv_entry ([.ref (b + 57), .int (iI a0), .int (iI a1)]) (n := 5) (Nat.le_of_ble_eq_true rfl)
  have hent : entryFrame m args 5 = F0 m 0 ((lg_sl ([.ref (b + 57), .int (iI a0), .int (iI a1)]) ++ List.replicate (5 - (lg_sl ([.ref (b + 57), .int (iI a0), .int (iI a1)])).length) Slot.unset).toArray) [] := by rw [hargs]; exact lg_entry_eq m ([.ref (b + 57), .int (iI a0), .int (iI a1)]) 5
  rw [hent]
  generalize (lg_sl ([.ref (b + 57), .int (iI a0), .int (iI a1)]) ++ List.replicate (5 - (lg_sl ([.ref (b + 57), .int (iI a0), .int (iI a1)])).length) Slot.unset).toArray = ls at hl ⊢
  have hl : lv_has ls 5 [(0, .ref (b + 57)), (1, .int (iI a0)), (2, .int (iI a1))] := hl
  refine lv_aload_n hx hb dX1_ticksToTurn_0 rfl (lv_at hl 0 rfl) ?_
  refine w_getr (j2 := 58) hx hb hts (z_memU u1) hown hK.1 hS f1_2 (by decide) (zkd_of (rfl : zcd wC 57 = 16) rfl) (zrf_of (rfl : zcd wC 57 = 16) rfl) (Or.inl (hts _ (z_mem k131))) dX1_ticksToTurn_1 ?_
  refine lv_iload_n hx hb dX1_ticksToTurn_4 rfl (lv_at hl 1 rfl) ?_
  obtain ⟨o1, h⟩ := h
  refine w_iald (n := 4) (i := (sI a0)) hx hb hK.1 (t0 := 0) rfl hS (by decide) (zkd_of (rfl : zcd wC 58 = 17) rfl) (zln_of (rfl : zcd wC 58 = 17) rfl) rfl o1.1 o1.2 (by decide) dX1_ticksToTurn_5 ?_
  refine lv_istore_n (lv' := [(3, .int (iI (M 58 (sI a0).toNat))), (0, .ref (b + 57)), (1, .int (iI a0)), (2, .int (iI a1))]) hx hb dX1_ticksToTurn_6 rfl hl (by decide) rfl (fun ls hl => ?_)
  refine z_iconst hx hb dX1_ticksToTurn_7 ?_
  refine lv_istore (lv' := [(4, .int (iI 0)), (3, .int (iI (M 58 (sI a0).toNat))), (0, .ref (b + 57)), (1, .int (iI a0)), (2, .int (iI a1))]) hx hb dX1_ticksToTurn_8 hl (by decide) rfl (fun ls hl => ?_)
  obtain ⟨I3, ⟨n4, h5⟩, h6⟩ := h
  have L7 : ∀ (n8 : Nat) (x2 : Int) (H : Heap) (locs : List Loc) (ls : Array Slot), I3 n8 x2 → zR D dA vwCl wC nC b M H → va_S (zA nC b) s.heap H locs → lv_has ls 5 [(0, .ref (b + 57)), (1, .int (iI a0)), (2, .int (iI a1)), (3, .int (iI (M 58 (sI a0).toNat))), (4, .int (iI x2))] → W p l e (headSpec (.code yX1_ticksToTurn cX1_ticksToTurn 5 (some .int) :: zt) (z_rm 1)).room s m args below meth c H locs 0 0 (MQ below (va_Qi (wQi (fun z9 u9 => u9 = M ∧ Q z9)) (zB D dA vwCl wC nC b) (zA nC b)) args s 0 0 (zA nC b)) (F0 m 10 ls []) := by
    intro n8
    induction n8 using Nat.strongRecOn with
    | ind n8 i9 =>
      intro x2 H locs ls h hS hS0 hl
      have h := h6 n8 x2 h
      refine lv_iload hx hb dX1_ticksToTurn_10 (lv_at hl 4 rfl) ?_
      refine lv_iload_n hx hb dX1_ticksToTurn_12 rfl (lv_at hl 3 rfl) ?_
      refine w_icmp_ge (tgt := 46) hx hb rfl rfl dX1_ticksToTurn_13 (by decide) (fun c10 => ?_) (fun c10 => ?_)
      · skip
        have h := h.1 c10
        refine lv_iload_n hx hb dX1_ticksToTurn_46 rfl (lv_at hl 3 rfl) ?_
        exact w_iret hx hb hr hlocks hS hS0 rfl ⟨rfl, h⟩ dX1_ticksToTurn_47
      · skip
        have h := h.2 c10
        refine lv_aload_n hx hb dX1_ticksToTurn_16 rfl (lv_at hl 0 rfl) ?_
        refine w_getr (j2 := 59) hx hb hts (z_memU u1) hown hK.1 hS f1_3 (by decide) (zkd_of (rfl : zcd wC 57 = 16) rfl) (zrf_of (rfl : zcd wC 57 = 16) rfl) (Or.inl (hts _ (z_mem k132))) dX1_ticksToTurn_17 ?_
        refine lv_iload_n hx hb dX1_ticksToTurn_20 rfl (lv_at hl 1 rfl) ?_
        obtain ⟨o11, h⟩ := h
        refine w_iald (n := 4) (i := (sI a0)) hx hb hK.1 (t0 := 0) rfl hS (by decide) (zkd_of (rfl : zcd wC 59 = 18) rfl) (zln_of (rfl : zcd wC 59 = 18) rfl) rfl o11.1 o11.2 (by decide) dX1_ticksToTurn_21 ?_
        refine lv_iload_n hx hb dX1_ticksToTurn_22 rfl (lv_at hl 2 rfl) ?_
        refine lv_iload hx hb dX1_ticksToTurn_23 (lv_at hl 4 rfl) ?_
        refine z_iadd hx hb dX1_ticksToTurn_25 ?_
        refine w_i2l hx hb rfl dX1_ticksToTurn_26 ?_
        refine lv_iload_n hx hb dX1_ticksToTurn_27 rfl (lv_at hl 3 rfl) ?_
        refine w_calli (va_runSN (As := [.long (iL (sI (a1 + x2))), .int (iI (M 58 (sI a0).toNat))]) (rest := [.int (iI (M 59 (sI a0).toNat))]) ⟨hx, hb, hml, hown, hts⟩ (cC_by l D dA b M (sI (a1 + x2)) (M 58 (sI a0).toNat) _ h) ⟨va_cnB 2 hts (z_gN k406) rfl rfl rfl (hK.2 (RX1, 62, yX11_by, RX11) (List.mem_of_getElem? (i := 15) rfl)) (hts _ (z_mem k1)) dm_X11_by.2 ⟨Nat.le_of_ble_eq_true rfl, Nat.le_of_ble_eq_true rfl⟩, (hts _ (z_mem k405)), trivial⟩ ⟨wPre_blind, w_pre hS hK⟩ rfl rfl hl.1 rfl (lv_room (Nat.le_of_ble_eq_true rfl)) dX1_ticksToTurn_28 ⟨Nat.le_refl _, Nat.le_refl _⟩) hS0 (fun z13 M12 H locs r14 h hS hS0 => ?_)
        obtain ⟨e15, h⟩ := h
        rw [e15] at hS
        refine w_ishr hx hb dX1_ticksToTurn_31 ?_
        refine z_iconst hx hb dX1_ticksToTurn_32 ?_
        refine w_iand hx hb dX1_ticksToTurn_33 ?_
        refine w_if_eq (tgt := 40) hx hb (sI_of (andI_R _ _)) dX1_ticksToTurn_34 (by decide) (fun c16 => ?_) (fun c16 => ?_)
        · skip
          have h := h.1 c16
          refine z_iinc (lv' := [(4, .int (iI (x2 + 1))), (0, .ref (b + 57)), (1, .int (iI a0)), (2, .int (iI a1)), (3, .int (iI (M 58 (sI a0).toNat)))]) hx hb dX1_ticksToTurn_40 hl (k := 4) rfl (by decide) rfl (fun ls hl => ?_)
          refine lv_goto (tgt := 10) hx hb dX1_ticksToTurn_43 (by decide) ?_
          obtain ⟨n17, h18, h⟩ := h
          exact i9 n17 h18 (x2 + 1) _ _ _ h hS hS0 (lv_sub hl [1, 2, 3, 4, 0] rfl)
        · skip
          have h := h.2 c16
          refine lv_iload hx hb dX1_ticksToTurn_37 (lv_at hl 4 rfl) ?_
          exact w_iret hx hb hr hlocks hS hS0 rfl ⟨rfl, h⟩ dX1_ticksToTurn_39
  exact L7 n4 0 _ _ _ h5 hS hS0 (lv_sub hl [2, 3, 4, 1, 0] rfl)

set_option maxRecDepth 100000 in
def wC_Meeting_firstSteady (a0 : Int) (M : zM) (Q : Int → Prop) : Prop := wC_Meeting_allTicks  M (fun z2 => pL2 (fun K11 x5 x6 => (z2 ≤ (sL x6) → Q (-1)) ∧ ((sL x6) < z2 → ((sL (a0 + z2)) ≤ (sL x5) → Q (-1)) ∧ ((sL x5) < (sL (a0 + z2)) → pL2 (fun K34 x16 x17 => ((sI (M 57 0)) ≤ (sI x17) → ((sL x16) ≠ (sL x5) → K11 x16 (x6 + 1)) ∧ ((sL x16) = (sL x5) → Q (sL x5))) ∧ ((sI x17) < (sI (M 57 0)) → ((0 ≤ (sI x17) ∧ (sI x17) < 4) ∧ wC_by (x16 - (M 57 1)) (M 58 (sI x17).toNat) M (fun z31 => wC_Meeting_ticksToTurn x17 z31 M (fun z35 => K34 (x16 + z35) (x17 + 1)))))) x5 0))) a0 0)
set_option maxHeartbeats 4000000 in
set_option maxRecDepth 100000 in
theorem cC_Meeting_firstSteady (l : Launch) (D : va_G) (dA : Nat → ClassId) (b : Nat) (M : zM) (a0 : Int)  (Q : Int → Prop) (h : wC_Meeting_firstSteady a0 M Q) : Met l yX1_firstSteady (.code yX1_firstSteady cX1_firstSteady 12 (some .long) :: zt) (z_rm 4) (va_Pc [.ref (b + 57), .long (iL a0)] (wPre D dA vwCl (z_tys dA) wC nC b M)) (va_Ql (wQl (fun z9 u9 => u9 = M ∧ Q z9)) (zB D dA vwCl wC nC b) (zA nC b)) 0 0 (zA nC b) := by
  unfold wC_Meeting_firstSteady at h
  refine Met.ofW (cc := cX1_firstSteady) (maxL := 12) (ret := (some .long)) (by decide) rfl ?_
  intro p e s m args below meth c s₁ B hml hv
  obtain ⟨hargs, hS, hK⟩ := hv
  have hx := B.exec
  have hb := B.bytes
  have hr := B.returns
  have hts := atoms_spec (ws := .code yX1_firstSteady cX1_firstSteady 12 (some .long) :: zt) B.pre
  have hown : s.vm.findClass RX1 = some m.cls := findClass_of_methodNamed B.named
  have hlocks := B.notSynchronized
  have hS0 : va_S (zA nC b) s.heap s.heap [] := va_S.rf
  have hl := lv_entry ([.ref (b + 57), .long (iL a0)]) (n := 12) (Nat.le_of_ble_eq_true rfl)
  have hent : entryFrame m args 12 = F0 m 0 ((lg_sl ([.ref (b + 57), .long (iL a0)]) ++ List.replicate (12 - (lg_sl ([.ref (b + 57), .long (iL a0)])).length) Slot.unset).toArray) [] := by rw [hargs]; exact lg_entry_eq m ([.ref (b + 57), .long (iL a0)]) 12
  rw [hent]
  generalize (lg_sl ([.ref (b + 57), .long (iL a0)]) ++ List.replicate (12 - (lg_sl ([.ref (b + 57), .long (iL a0)])).length) Slot.unset).toArray = ls at hl ⊢
  have hl : lv_has ls 12 [(0, .ref (b + 57)), (1, .long (iL a0))] := hl
  refine lv_aload_n hx hb dX1_firstSteady_0 rfl (lv_at hl 0 rfl) ?_
  refine w_calll (va_runV (As := []) (rest := []) ⟨hx, hb, hml, hown, hts⟩ (cC_Meeting_allTicks l D dA b M  _ h) (cwV 0 hts (z_gV k587 k543 k544 k7 k545) rfl rfl rfl dm_X1_allTicks ⟨Nat.le_of_ble_eq_true rfl, Nat.le_of_ble_eq_true rfl⟩) ⟨wPre_blind, (w_recv hS hK.1 (by decide) (zkd_of (rfl : zcd wC 57 = 16) rfl) (by decide) (rfl : vwCl[1]? = some (RX1, TX1, 4))), w_pre hS hK⟩ rfl rfl hl.1 rfl (lv_room (Nat.le_of_ble_eq_true rfl)) dX1_firstSteady_1 ⟨Nat.le_refl _, Nat.le_refl _⟩) hS0 (fun z2 M1 H locs r3 h hS hS0 => ?_)
  obtain ⟨e4, h⟩ := h
  rw [e4] at hS
  refine lv_lstore_n (lv' := [(3, .long (iL z2)), (0, .ref (b + 57)), (1, .long (iL a0))]) hx hb dX1_firstSteady_4 rfl hl (by decide) rfl (fun ls hl => ?_)
  refine lv_lload_n hx hb dX1_firstSteady_5 rfl (lv_at hl 2 rfl) ?_
  refine lv_lstore (lv' := [(5, .long (iL a0)), (3, .long (iL z2)), (0, .ref (b + 57)), (1, .long (iL a0))]) hx hb dX1_firstSteady_6 hl (by decide) rfl (fun ls hl => ?_)
  refine z_lconst0 hx hb dX1_firstSteady_8 ?_
  refine lv_lstore (lv' := [(7, .long (iL 0)), (5, .long (iL a0)), (3, .long (iL z2)), (0, .ref (b + 57)), (1, .long (iL a0))]) hx hb dX1_firstSteady_9 hl (by decide) rfl (fun ls hl => ?_)
  obtain ⟨I7, ⟨n8, h9⟩, h10⟩ := h
  have L11 : ∀ (n12 : Nat) (x5 x6 : Int) (H : Heap) (locs : List Loc) (ls : Array Slot), I7 n12 x5 x6 → zR D dA vwCl wC nC b M H → va_S (zA nC b) s.heap H locs → lv_has ls 12 [(0, .ref (b + 57)), (1, .long (iL a0)), (3, .long (iL z2)), (5, .long (iL x5)), (7, .long (iL x6))] → W p l e (headSpec (.code yX1_firstSteady cX1_firstSteady 12 (some .long) :: zt) (z_rm 4)).room s m args below meth c H locs 0 0 (MQ below (va_Ql (wQl (fun z9 u9 => u9 = M ∧ Q z9)) (zB D dA vwCl wC nC b) (zA nC b)) args s 0 0 (zA nC b)) (F0 m 11 ls []) := by
    intro n12
    induction n12 using Nat.strongRecOn with
    | ind n12 i13 =>
      intro x5 x6 H locs ls h hS hS0 hl
      have h := h10 n12 x5 x6 h
      refine lv_lload hx hb dX1_firstSteady_11 (lv_at hl 4 rfl) ?_
      refine lv_lload_n hx hb dX1_firstSteady_13 rfl (lv_at hl 2 rfl) ?_
      refine w_lcmp_ge hx hb rfl (sL_of r3) dX1_firstSteady_14 dX1_firstSteady_15 (tgt := 102) (by decide) (fun c14 => ?_) (fun c14 => ?_)
      · skip
        have h := h.1 c14
        refine z_ldc2 (n := -1) hx hb hown (hts _ (z_mem k582)) (by decide) dX1_firstSteady_102 ?_
        exact w_lret hx hb hr hlocks hS hS0 (sL_of (by decide)) ⟨rfl, h⟩ dX1_firstSteady_105
      · skip
        have h := h.2 c14
        refine lv_lload hx hb dX1_firstSteady_18 (lv_at hl 3 rfl) ?_
        refine lv_lload_n hx hb dX1_firstSteady_20 rfl (lv_at hl 1 rfl) ?_
        refine lv_lload_n hx hb dX1_firstSteady_21 rfl (lv_at hl 2 rfl) ?_
        refine z_ladd hx hb dX1_firstSteady_22 ?_
        refine w_lcmp_ge hx hb rfl rfl dX1_firstSteady_23 dX1_firstSteady_24 (tgt := 102) (by decide) (fun c15 => ?_) (fun c15 => ?_)
        · skip
          have h := h.1 c15
          refine z_ldc2 (n := -1) hx hb hown (hts _ (z_mem k582)) (by decide) dX1_firstSteady_102 ?_
          exact w_lret hx hb hr hlocks hS hS0 (sL_of (by decide)) ⟨rfl, h⟩ dX1_firstSteady_105
        · skip
          have h := h.2 c15
          refine lv_lload hx hb dX1_firstSteady_27 (lv_at hl 3 rfl) ?_
          refine lv_lstore (lv' := [(9, .long (iL x5)), (0, .ref (b + 57)), (1, .long (iL a0)), (3, .long (iL z2)), (5, .long (iL x5)), (7, .long (iL x6))]) hx hb dX1_firstSteady_29 hl (by decide) rfl (fun ls hl => ?_)
          refine z_iconst hx hb dX1_firstSteady_31 ?_
          refine lv_istore (lv' := [(11, .int (iI 0)), (9, .long (iL x5)), (0, .ref (b + 57)), (1, .long (iL a0)), (3, .long (iL z2)), (5, .long (iL x5)), (7, .long (iL x6))]) hx hb dX1_firstSteady_32 hl (by decide) rfl (fun ls hl => ?_)
          obtain ⟨I18, ⟨n19, h20⟩, h21⟩ := h
          have L22 : ∀ (n23 : Nat) (x16 x17 : Int) (H : Heap) (locs : List Loc) (ls : Array Slot), I18 n23 x16 x17 → zR D dA vwCl wC nC b M H → va_S (zA nC b) s.heap H locs → lv_has ls 12 [(0, .ref (b + 57)), (1, .long (iL a0)), (3, .long (iL z2)), (5, .long (iL x5)), (7, .long (iL x6)), (9, .long (iL x16)), (11, .int (iI x17))] → W p l e (headSpec (.code yX1_firstSteady cX1_firstSteady 12 (some .long) :: zt) (z_rm 4)).room s m args below meth c H locs 0 0 (MQ below (va_Ql (wQl (fun z9 u9 => u9 = M ∧ Q z9)) (zB D dA vwCl wC nC b) (zA nC b)) args s 0 0 (zA nC b)) (F0 m 34 ls []) := by
            intro n23
            induction n23 using Nat.strongRecOn with
            | ind n23 i24 =>
              intro x16 x17 H locs ls h hS hS0 hl
              have h := h21 n23 x16 x17 h
              refine lv_iload hx hb dX1_firstSteady_34 (lv_at hl 6 rfl) ?_
              refine lv_aload_n hx hb dX1_firstSteady_36 rfl (lv_at hl 0 rfl) ?_
              refine w_geti hx hb hts (z_memU u1) hown hK.1 hS f1_0 (by decide) (zkd_of (rfl : zcd wC 57 = 16) rfl) (Or.inl (hts _ (z_mem k129))) dX1_firstSteady_37 ?_
              refine w_icmp_ge (tgt := 78) hx hb rfl rfl dX1_firstSteady_40 (by decide) (fun c25 => ?_) (fun c25 => ?_)
              · skip
                have h := h.1 c25
                refine lv_lload hx hb dX1_firstSteady_78 (lv_at hl 5 rfl) ?_
                refine lv_lload hx hb dX1_firstSteady_80 (lv_at hl 3 rfl) ?_
                refine w_lcmp_ne hx hb rfl rfl dX1_firstSteady_82 dX1_firstSteady_83 (tgt := 89) (by decide) (fun c26 => ?_) (fun c26 => ?_)
                · skip
                  have h := h.1 c26
                  refine lv_lload hx hb dX1_firstSteady_89 (lv_at hl 5 rfl) ?_
                  refine lv_lstore (lv' := [(5, .long (iL x16)), (0, .ref (b + 57)), (1, .long (iL a0)), (3, .long (iL z2)), (7, .long (iL x6)), (9, .long (iL x16)), (11, .int (iI x17))]) hx hb dX1_firstSteady_91 hl (by decide) rfl (fun ls hl => ?_)
                  refine lv_lload hx hb dX1_firstSteady_93 (lv_at hl 4 rfl) ?_
                  refine z_lconst1 hx hb dX1_firstSteady_95 ?_
                  refine z_ladd hx hb dX1_firstSteady_96 ?_
                  refine lv_lstore (lv' := [(7, .long (iL (x6 + 1))), (5, .long (iL x16)), (0, .ref (b + 57)), (1, .long (iL a0)), (3, .long (iL z2)), (9, .long (iL x16)), (11, .int (iI x17))]) hx hb dX1_firstSteady_97 hl (by decide) rfl (fun ls hl => ?_)
                  refine lv_goto (tgt := 11) hx hb dX1_firstSteady_99 (by decide) ?_
                  obtain ⟨n27, h28, h⟩ := h
                  exact i13 n27 h28 x16 (x6 + 1) _ _ _ h hS hS0 (lv_sub hl [2, 3, 4, 1, 0] rfl)
                · skip
                  have h := h.2 c26
                  refine lv_lload hx hb dX1_firstSteady_86 (lv_at hl 3 rfl) ?_
                  exact w_lret hx hb hr hlocks hS hS0 rfl ⟨rfl, h⟩ dX1_firstSteady_88
              · skip
                have h := h.2 c25
                refine lv_lload hx hb dX1_firstSteady_43 (lv_at hl 5 rfl) ?_
                refine lv_aload_n hx hb dX1_firstSteady_45 rfl (lv_at hl 0 rfl) ?_
                refine lv_iload hx hb dX1_firstSteady_46 (lv_at hl 6 rfl) ?_
                refine lv_lload hx hb dX1_firstSteady_48 (lv_at hl 5 rfl) ?_
                refine lv_aload_n hx hb dX1_firstSteady_50 rfl (lv_at hl 0 rfl) ?_
                refine w_getl hx hb hts (z_memU u1) hown hK.1 hS f1_1 (by decide) (zkd_of (rfl : zcd wC 57 = 16) rfl) (Or.inl (hts _ (z_mem k130))) dX1_firstSteady_51 ?_
                refine z_lsub hx hb dX1_firstSteady_54 ?_
                refine lv_aload_n hx hb dX1_firstSteady_55 rfl (lv_at hl 0 rfl) ?_
                refine w_getr (j2 := 58) hx hb hts (z_memU u1) hown hK.1 hS f1_2 (by decide) (zkd_of (rfl : zcd wC 57 = 16) rfl) (zrf_of (rfl : zcd wC 57 = 16) rfl) (Or.inl (hts _ (z_mem k131))) dX1_firstSteady_56 ?_
                refine lv_iload hx hb dX1_firstSteady_59 (lv_at hl 6 rfl) ?_
                obtain ⟨o29, h⟩ := h
                refine w_iald (n := 4) (i := (sI x17)) hx hb hK.1 (t0 := 0) rfl hS (by decide) (zkd_of (rfl : zcd wC 58 = 17) rfl) (zln_of (rfl : zcd wC 58 = 17) rfl) rfl o29.1 o29.2 (by decide) dX1_firstSteady_61 ?_
                refine w_calli (va_runSN (As := [.long (iL (x16 - (M 57 1))), .int (iI (M 58 (sI x17).toNat))]) (rest := [.int (iI x17), .ref (b + 57), .long (iL x16)]) ⟨hx, hb, hml, hown, hts⟩ (cC_by l D dA b M (x16 - (M 57 1)) (M 58 (sI x17).toNat) _ h) ⟨va_cnB 2 hts (z_gN k406) rfl rfl rfl (hK.2 (RX1, 62, yX11_by, RX11) (List.mem_of_getElem? (i := 15) rfl)) (hts _ (z_mem k1)) dm_X11_by.2 ⟨Nat.le_of_ble_eq_true rfl, Nat.le_of_ble_eq_true rfl⟩, (hts _ (z_mem k405)), trivial⟩ ⟨wPre_blind, w_pre hS hK⟩ rfl rfl hl.1 rfl (lv_room (Nat.le_of_ble_eq_true rfl)) dX1_firstSteady_62 ⟨Nat.le_refl _, Nat.le_refl _⟩) hS0 (fun z31 M30 H locs r32 h hS hS0 => ?_)
                obtain ⟨e33, h⟩ := h
                rw [e33] at hS
                refine w_calli (va_runV (As := [.int (iI x17), .int (iI z31)]) (rest := [.long (iL x16)]) ⟨hx, hb, hml, hown, hts⟩ (cC_Meeting_ticksToTurn l D dA b M x17 z31 _ h) (cwV 2 hts (z_gV k588 k589 k1369 k7 k590) rfl rfl rfl dm_X1_ticksToTurn ⟨Nat.le_of_ble_eq_true rfl, Nat.le_of_ble_eq_true rfl⟩) ⟨wPre_blind, (w_recv hS hK.1 (by decide) (zkd_of (rfl : zcd wC 57 = 16) rfl) (by decide) (rfl : vwCl[1]? = some (RX1, TX1, 4))), w_pre hS hK⟩ rfl rfl hl.1 rfl (lv_room (Nat.le_of_ble_eq_true rfl)) dX1_firstSteady_65 ⟨Nat.le_refl _, Nat.le_refl _⟩) hS0 (fun z35 M34 H locs r36 h hS hS0 => ?_)
                obtain ⟨e37, h⟩ := h
                rw [e37] at hS
                refine w_i2l hx hb (sI_of r36) dX1_firstSteady_68 ?_
                refine z_ladd hx hb dX1_firstSteady_69 ?_
                refine lv_lstore (lv' := [(9, .long (iL (x16 + z35))), (0, .ref (b + 57)), (1, .long (iL a0)), (3, .long (iL z2)), (5, .long (iL x5)), (7, .long (iL x6)), (11, .int (iI x17))]) hx hb dX1_firstSteady_70 hl (by decide) rfl (fun ls hl => ?_)
                refine z_iinc (lv' := [(11, .int (iI (x17 + 1))), (9, .long (iL (x16 + z35))), (0, .ref (b + 57)), (1, .long (iL a0)), (3, .long (iL z2)), (5, .long (iL x5)), (7, .long (iL x6))]) hx hb dX1_firstSteady_72 hl (k := 6) rfl (by decide) rfl (fun ls hl => ?_)
                refine lv_goto (tgt := 34) hx hb dX1_firstSteady_75 (by decide) ?_
                obtain ⟨n38, h39, h⟩ := h
                exact i24 n38 h39 (x16 + z35) (x17 + 1) _ _ _ h hS hS0 (lv_sub hl [2, 3, 4, 5, 6, 1, 0] rfl)
          exact L22 n19 x5 0 _ _ _ h20 hS hS0 (lv_sub hl [2, 3, 4, 5, 6, 1, 0] rfl)
  exact L11 n8 a0 0 _ _ _ h9 hS hS0 (lv_sub hl [3, 4, 2, 1, 0] rfl)

set_option maxRecDepth 100000 in
def wC_Meeting_first (a1 : Int) (M : zM) (Q : Int → Prop) : Prop := pL1 (fun K3 x1 => ((sL (M 57 1)) ≤ (sL x1) → wC_Meeting_howOften  M (fun z11 => (z11 ≠ 0 → wC_Meeting_firstSteady (max (sL a1) (sL (M 57 1))) M (fun z16 => Q z16)) ∧ (z11 = 0 → Q (-1)))) ∧ ((sL x1) < (sL (M 57 1)) → wC_Studio_meetsAt x1 M (fun z20 => (z20 = 0 → K3 (x1 + 1)) ∧ (z20 ≠ 0 → Q (sL x1))))) a1
set_option maxHeartbeats 4000000 in
set_option maxRecDepth 100000 in
theorem cC_Meeting_first (l : Launch) (D : va_G) (dA : Nat → ClassId) (b : Nat) (M : zM) (a1 : Int)  (Q : Int → Prop) (h : wC_Meeting_first a1 M Q) : Met l yX1_first (.code yX1_first cX1_first 6 (some .long) :: zt) (z_rm 5) (va_Pc [.ref (b + 57), .ref (b + 32), .long (iL a1)] (wPre D dA vwCl (z_tys dA) wC nC b M)) (va_Ql (wQl (fun z9 u9 => u9 = M ∧ Q z9)) (zB D dA vwCl wC nC b) (zA nC b)) 0 0 (zA nC b) := by
  unfold wC_Meeting_first at h
  refine Met.ofW (cc := cX1_first) (maxL := 6) (ret := (some .long)) (by decide) rfl ?_
  intro p e s m args below meth c s₁ B hml hv
  obtain ⟨hargs, hS, hK⟩ := hv
  have hx := B.exec
  have hb := B.bytes
  have hr := B.returns
  have hts := atoms_spec (ws := .code yX1_first cX1_first 6 (some .long) :: zt) B.pre
  have hown : s.vm.findClass RX1 = some m.cls := findClass_of_methodNamed B.named
  have hlocks := B.notSynchronized
  have hS0 : va_S (zA nC b) s.heap s.heap [] := va_S.rf
  have hl := lv_entry ([.ref (b + 57), .ref (b + 32), .long (iL a1)]) (n := 6) (Nat.le_of_ble_eq_true rfl)
  have hent : entryFrame m args 6 = F0 m 0 ((lg_sl ([.ref (b + 57), .ref (b + 32), .long (iL a1)]) ++ List.replicate (6 - (lg_sl ([.ref (b + 57), .ref (b + 32), .long (iL a1)])).length) Slot.unset).toArray) [] := by rw [hargs]; exact lg_entry_eq m ([.ref (b + 57), .ref (b + 32), .long (iL a1)]) 6
  rw [hent]
  generalize (lg_sl ([.ref (b + 57), .ref (b + 32), .long (iL a1)]) ++ List.replicate (6 - (lg_sl ([.ref (b + 57), .ref (b + 32), .long (iL a1)])).length) Slot.unset).toArray = ls at hl ⊢
  have hl : lv_has ls 6 [(0, .ref (b + 57)), (1, .ref (b + 32)), (2, .long (iL a1))] := hl
  refine lv_lload_n hx hb dX1_first_0 rfl (lv_at hl 2 rfl) ?_
  refine lv_lstore (lv' := [(4, .long (iL a1)), (0, .ref (b + 57)), (1, .ref (b + 32)), (2, .long (iL a1))]) hx hb dX1_first_1 hl (by decide) rfl (fun ls hl => ?_)
  obtain ⟨I2, ⟨n3, h4⟩, h5⟩ := h
  have L6 : ∀ (n7 : Nat) (x1 : Int) (H : Heap) (locs : List Loc) (ls : Array Slot), I2 n7 x1 → zR D dA vwCl wC nC b M H → va_S (zA nC b) s.heap H locs → lv_has ls 6 [(0, .ref (b + 57)), (1, .ref (b + 32)), (2, .long (iL a1)), (4, .long (iL x1))] → W p l e (headSpec (.code yX1_first cX1_first 6 (some .long) :: zt) (z_rm 5)).room s m args below meth c H locs 0 0 (MQ below (va_Ql (wQl (fun z9 u9 => u9 = M ∧ Q z9)) (zB D dA vwCl wC nC b) (zA nC b)) args s 0 0 (zA nC b)) (F0 m 3 ls []) := by
    intro n7
    induction n7 using Nat.strongRecOn with
    | ind n7 i8 =>
      intro x1 H locs ls h hS hS0 hl
      have h := h5 n7 x1 h
      refine lv_lload hx hb dX1_first_3 (lv_at hl 3 rfl) ?_
      refine lv_aload_n hx hb dX1_first_5 rfl (lv_at hl 0 rfl) ?_
      refine w_getl hx hb hts (z_memU u1) hown hK.1 hS f1_1 (by decide) (zkd_of (rfl : zcd wC 57 = 16) rfl) (Or.inl (hts _ (z_mem k130))) dX1_first_6 ?_
      refine w_lcmp_ge hx hb rfl rfl dX1_first_9 dX1_first_10 (tgt := 34) (by decide) (fun c9 => ?_) (fun c9 => ?_)
      · skip
        have h := h.1 c9
        refine lv_aload_n hx hb dX1_first_34 rfl (lv_at hl 0 rfl) ?_
        refine w_calll (va_runV (As := []) (rest := []) ⟨hx, hb, hml, hown, hts⟩ (cC_Meeting_howOften l D dA b M  _ h) (cwV 0 hts (z_gV k571 k572 k573 k7 k574) rfl rfl rfl dm_X1_howOften ⟨Nat.le_of_ble_eq_true rfl, Nat.le_of_ble_eq_true rfl⟩) ⟨wPre_blind, (w_recv hS hK.1 (by decide) (zkd_of (rfl : zcd wC 57 = 16) rfl) (by decide) (rfl : vwCl[1]? = some (RX1, TX1, 4))), w_pre hS hK⟩ rfl rfl hl.1 rfl (lv_room (Nat.le_of_ble_eq_true rfl)) dX1_first_35 ⟨Nat.le_refl _, Nat.le_refl _⟩) hS0 (fun z11 M10 H locs r12 h hS hS0 => ?_)
        obtain ⟨e13, h⟩ := h
        rw [e13] at hS
        refine z_lconst0 hx hb dX1_first_38 ?_
        refine w_lcmp_ne hx hb (sL_of r12) (sL_of (by decide)) dX1_first_39 dX1_first_40 (tgt := 49) (by decide) (fun c14 => ?_) (fun c14 => ?_)
        · skip
          have h := h.1 c14
          refine lv_aload_n hx hb dX1_first_49 rfl (lv_at hl 0 rfl) ?_
          refine lv_lload_n hx hb dX1_first_50 rfl (lv_at hl 2 rfl) ?_
          refine lv_aload_n hx hb dX1_first_51 rfl (lv_at hl 0 rfl) ?_
          refine w_getl hx hb hts (z_memU u1) hown hK.1 hS f1_1 (by decide) (zkd_of (rfl : zcd wC 57 = 16) rfl) (Or.inl (hts _ (z_mem k130))) dX1_first_52 ?_
          refine w_mmaxl hx hb (hml.trans hl.1.symm) hown (hts _ (z_mem k583)) (hts _ (z_mem k492)) (hts _ (z_mem k15)) (hts _ (z_mem k493)) (by exact Nat.le_of_ble_eq_true rfl) (by exact Nat.le_of_ble_eq_true rfl) (by exact Nat.le_refl _) (by exact Nat.le_refl _) rfl rfl dX1_first_55 ?_
          refine w_calll (va_runV (As := [.long (iL (max (sL a1) (sL (M 57 1))))]) (rest := []) ⟨hx, hb, hml, hown, hts⟩ (cC_Meeting_firstSteady l D dA b M (max (sL a1) (sL (M 57 1))) _ h) (cwV 1 hts (z_gV k584 k585 k1368 k7 k586) rfl rfl rfl dm_X1_firstSteady ⟨Nat.le_of_ble_eq_true rfl, Nat.le_of_ble_eq_true rfl⟩) ⟨wPre_blind, (w_recv hS hK.1 (by decide) (zkd_of (rfl : zcd wC 57 = 16) rfl) (by decide) (rfl : vwCl[1]? = some (RX1, TX1, 4))), w_pre hS hK⟩ rfl rfl hl.1 rfl (lv_room (Nat.le_of_ble_eq_true rfl)) dX1_first_58 ⟨Nat.le_refl _, Nat.le_refl _⟩) hS0 (fun z16 M15 H locs r17 h hS hS0 => ?_)
          obtain ⟨e18, h⟩ := h
          rw [e18] at hS
          exact w_lret hx hb hr hlocks hS hS0 (sL_of r17) ⟨rfl, h⟩ dX1_first_61
        · skip
          have h := h.2 c14
          refine z_ldc2 (n := -1) hx hb hown (hts _ (z_mem k582)) (by decide) dX1_first_43 ?_
          refine lv_goto (tgt := 61) hx hb dX1_first_46 (by decide) ?_
          exact w_lret hx hb hr hlocks hS hS0 (sL_of (by decide)) ⟨rfl, h⟩ dX1_first_61
      · skip
        have h := h.2 c9
        refine lv_aload_n hx hb dX1_first_13 rfl (lv_at hl 1 rfl) ?_
        refine lv_lload hx hb dX1_first_14 (lv_at hl 3 rfl) ?_
        refine w_callz (va_runV (As := [.long (iL x1)]) (rest := []) ⟨hx, hb, hml, hown, hts⟩ (cC_Studio_meetsAt l D dA b M x1 _ h) (cwV 1 hts (z_gV k566 k567 k568 k4 k569) rfl rfl rfl dm_X9_meetsAt ⟨Nat.le_of_ble_eq_true rfl, Nat.le_of_ble_eq_true rfl⟩) ⟨wPre_blind, (w_recv hS hK.1 (by decide) (zkd_of (rfl : zcd wC 32 = 8) rfl) (by decide) (rfl : vwCl[9]? = some (RX9, TX9, 3))), w_pre hS hK⟩ rfl rfl hl.1 rfl (lv_room (Nat.le_of_ble_eq_true rfl)) dX1_first_16 ⟨Nat.le_refl _, Nat.le_refl _⟩) hS0 (fun z20 M19 H locs r21 h hS hS0 => ?_)
        obtain ⟨e22, h⟩ := h
        rw [e22] at hS
        refine w_if_eq (tgt := 25) hx hb (sI_01 r21) dX1_first_19 (by decide) (fun c23 => ?_) (fun c23 => ?_)
        · skip
          have h := h.1 c23
          refine lv_lload hx hb dX1_first_25 (lv_at hl 3 rfl) ?_
          refine z_lconst1 hx hb dX1_first_27 ?_
          refine z_ladd hx hb dX1_first_28 ?_
          refine lv_lstore (lv' := [(4, .long (iL (x1 + 1))), (0, .ref (b + 57)), (1, .ref (b + 32)), (2, .long (iL a1))]) hx hb dX1_first_29 hl (by decide) rfl (fun ls hl => ?_)
          refine lv_goto (tgt := 3) hx hb dX1_first_31 (by decide) ?_
          obtain ⟨n24, h25, h⟩ := h
          exact i8 n24 h25 (x1 + 1) _ _ _ h hS hS0 (lv_sub hl [1, 2, 3, 0] rfl)
        · skip
          have h := h.2 c23
          refine lv_lload hx hb dX1_first_22 (lv_at hl 3 rfl) ?_
          exact w_lret hx hb hr hlocks hS hS0 rfl ⟨rfl, h⟩ dX1_first_24
  exact L6 n3 a1 _ _ _ h4 hS hS0 (lv_sub hl [1, 2, 3, 0] rfl)

set_option maxRecDepth 100000 in
def wC_meets (a0 : Int) (M : zM) (Q : Int → zM → Prop) : Prop := ((sL a0) < 0 → Q (-1) M) ∧ (0 ≤ (sL a0) → ((sL a0) ≤ 1152921504606846976 → wC_Meeting_look  M (fun M3 => wC_Meeting_first a0 M3 (fun z5 => Q z5 M3))) ∧ (1152921504606846976 < (sL a0) → Q (-1) M))
set_option maxHeartbeats 4000000 in
set_option maxRecDepth 100000 in
theorem cC_meets (l : Launch) (D : va_G) (dA : Nat → ClassId) (b : Nat) (M : zM) (a0 : Int)  (Q : Int → zM → Prop) (h : wC_meets a0 M Q) : Met l yX11_meets (.code yX11_meets cX11_meets 3 (some .long) :: zt) (z_rm 6) (va_Pc [.ref (b + 0), .long (iL a0)] (wPre D dA vwCl (z_tys dA) wC nC b M)) (va_Ql (wQl Q) (zB D dA vwCl wC nC b) (zA nC b)) 0 0 (zA nC b) := by
  unfold wC_meets at h
  refine Met.ofW (cc := cX11_meets) (maxL := 3) (ret := (some .long)) (by decide) rfl ?_
  intro p e s m args below meth c s₁ B hml hv
  obtain ⟨hargs, hS, hK⟩ := hv
  have hx := B.exec
  have hb := B.bytes
  have hr := B.returns
  have hts := atoms_spec (ws := .code yX11_meets cX11_meets 3 (some .long) :: zt) B.pre
  have hown : s.vm.findClass RX11 = some m.cls := findClass_of_methodNamed B.named
  have hlocks := B.notSynchronized
  have hS0 : va_S (zA nC b) s.heap s.heap [] := va_S.rf
  have hl := lv_entry ([.ref (b + 0), .long (iL a0)]) (n := 3) (Nat.le_of_ble_eq_true rfl)
  have hent : entryFrame m args 3 = F0 m 0 ((lg_sl ([.ref (b + 0), .long (iL a0)]) ++ List.replicate (3 - (lg_sl ([.ref (b + 0), .long (iL a0)])).length) Slot.unset).toArray) [] := by rw [hargs]; exact lg_entry_eq m ([.ref (b + 0), .long (iL a0)]) 3
  rw [hent]
  generalize (lg_sl ([.ref (b + 0), .long (iL a0)]) ++ List.replicate (3 - (lg_sl ([.ref (b + 0), .long (iL a0)])).length) Slot.unset).toArray = ls at hl ⊢
  have hl : lv_has ls 3 [(0, .ref (b + 0)), (1, .long (iL a0))] := hl
  refine lv_lload_n hx hb dX11_meets_0 rfl (lv_at hl 1 rfl) ?_
  refine z_lconst0 hx hb dX11_meets_1 ?_
  refine w_lcmp_lt hx hb rfl (sL_of (by decide)) dX11_meets_2 dX11_meets_3 (tgt := 14) (by decide) (fun c1 => ?_) (fun c1 => ?_)
  · skip
    have h := h.1 c1
    refine z_ldc2 (n := -1) hx hb hown (hts _ (z_mem k561)) (by decide) dX11_meets_14 ?_
    exact w_lret hx hb hr hlocks hS hS0 (sL_of (by decide)) h dX11_meets_17
  · skip
    have h := h.2 c1
    refine lv_lload_n hx hb dX11_meets_6 rfl (lv_at hl 1 rfl) ?_
    refine z_ldc2 (n := 1152921504606846976) hx hb hown (hts _ (z_mem k560)) (by decide) dX11_meets_7 ?_
    refine w_lcmp_le hx hb rfl (sL_of (by decide)) dX11_meets_10 dX11_meets_11 (tgt := 18) (by decide) (fun c2 => ?_) (fun c2 => ?_)
    · skip
      have h := h.1 c2
      refine lv_aload_n hx hb dX11_meets_18 rfl (lv_at hl 0 rfl) ?_
      refine w_getr (j2 := 57) hx hb hts (z_memU u11) hown hK.1 hS f11_3 (by decide) (zkd_of (rfl : zcd wC 0 = 0) rfl) (zrf_of (rfl : zcd wC 0 = 0) rfl) (Or.inl (hts _ (z_mem k245))) dX11_meets_19 ?_
      refine lv_aload_n hx hb dX11_meets_22 rfl (lv_at hl 0 rfl) ?_
      refine w_getr (j2 := 32) hx hb hts (z_memU u11) hown hK.1 hS f11_2 (by decide) (zkd_of (rfl : zcd wC 0 = 0) rfl) (zrf_of (rfl : zcd wC 0 = 0) rfl) (Or.inl (hts _ (z_mem k244))) dX11_meets_23 ?_
      refine w_callv (va_runV (As := [.ref (b + 32)]) (rest := []) ⟨hx, hb, hml, hown, hts⟩ (cC_Meeting_look l D dA b M  _ h) (cwV 1 hts (z_gV k511 k512 k513 k7 k514) rfl rfl rfl dm_X1_look ⟨Nat.le_of_ble_eq_true rfl, Nat.le_of_ble_eq_true rfl⟩) ⟨wPre_blind, (w_recv hS hK.1 (by decide) (zkd_of (rfl : zcd wC 57 = 16) rfl) (by decide) (rfl : vwCl[1]? = some (RX1, TX1, 4))), w_pre hS hK⟩ rfl rfl hl.1 rfl (lv_room (Nat.le_of_ble_eq_true rfl)) dX11_meets_26 ⟨Nat.le_refl _, Nat.le_refl _⟩) hS0 (fun M3 H locs h hS hS0 => ?_)
      refine lv_aload_n hx hb dX11_meets_29 rfl (lv_at hl 0 rfl) ?_
      refine w_getr (j2 := 57) hx hb hts (z_memU u11) hown hK.1 hS f11_3 (by decide) (zkd_of (rfl : zcd wC 0 = 0) rfl) (zrf_of (rfl : zcd wC 0 = 0) rfl) (Or.inl (hts _ (z_mem k245))) dX11_meets_30 ?_
      refine lv_aload_n hx hb dX11_meets_33 rfl (lv_at hl 0 rfl) ?_
      refine w_getr (j2 := 32) hx hb hts (z_memU u11) hown hK.1 hS f11_2 (by decide) (zkd_of (rfl : zcd wC 0 = 0) rfl) (zrf_of (rfl : zcd wC 0 = 0) rfl) (Or.inl (hts _ (z_mem k244))) dX11_meets_34 ?_
      refine lv_lload_n hx hb dX11_meets_37 rfl (lv_at hl 1 rfl) ?_
      refine w_calll (va_runV (As := [.ref (b + 32), .long (iL a0)]) (rest := []) ⟨hx, hb, hml, hown, hts⟩ (cC_Meeting_first l D dA b M3 a0 _ h) (cwV 2 hts (z_gV k562 k563 k564 k7 k565) rfl rfl rfl dm_X1_first ⟨Nat.le_of_ble_eq_true rfl, Nat.le_of_ble_eq_true rfl⟩) ⟨wPre_blind, (w_recv hS hK.1 (by decide) (zkd_of (rfl : zcd wC 57 = 16) rfl) (by decide) (rfl : vwCl[1]? = some (RX1, TX1, 4))), w_pre hS hK⟩ rfl rfl hl.1 rfl (lv_room (Nat.le_of_ble_eq_true rfl)) dX11_meets_38 ⟨Nat.le_refl _, Nat.le_refl _⟩) hS0 (fun z5 M4 H locs r6 h hS hS0 => ?_)
      obtain ⟨e7, h⟩ := h
      rw [e7] at hS
      exact w_lret hx hb hr hlocks hS hS0 (sL_of r6) h dX11_meets_41
    · skip
      have h := h.2 c2
      refine z_ldc2 (n := -1) hx hb hown (hts _ (z_mem k561)) (by decide) dX11_meets_14 ?_
      exact w_lret hx hb hr hlocks hS hS0 (sL_of (by decide)) h dX11_meets_17
