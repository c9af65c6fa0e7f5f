/-! the W layer, 11 -/
theorem dX11_burn_0 : decode cX11_burn 0 = .ok (.aload_n 0, 1) := by decide +kernel
theorem dX11_burn_1 : decode cX11_burn 1 = .ok (.getfield 61, 3) := by decide +kernel
theorem dX11_burn_12 : decode cX11_burn 12 = .ok (.iconst 0, 1) := by decide +kernel
theorem dX11_burn_13 : decode cX11_burn 13 = .ok (.putfield 153, 3) := by decide +kernel
theorem dX11_burn_16 : decode cX11_burn 16 = .ok (.iload_n 1, 1) := by decide +kernel
theorem dX11_burn_17 : decode cX11_burn 17 = .ok (.ireturn, 1) := by decide +kernel
theorem dX11_burn_4 : decode cX11_burn 4 = .ok (.getfield 153, 3) := by decide +kernel
theorem dX11_burn_7 : decode cX11_burn 7 = .ok (.istore_n 1, 1) := by decide +kernel
theorem dX11_burn_8 : decode cX11_burn 8 = .ok (.aload_n 0, 1) := by decide +kernel
theorem dX11_burn_9 : decode cX11_burn 9 = .ok (.getfield 61, 3) := by decide +kernel
theorem dX11_mended_0 : decode cX11_mended 0 = .ok (.aload_n 0, 1) := by decide +kernel
theorem dX11_mended_1 : decode cX11_mended 1 = .ok (.getfield 54, 3) := by decide +kernel
theorem dX11_mended_4 : decode cX11_mended 4 = .ok (.iload_n 1, 1) := by decide +kernel
theorem dX11_mended_5 : decode cX11_mended 5 = .ok (.invokevirtual 263, 3) := by decide +kernel
theorem dX11_mended_8 : decode cX11_mended 8 = .ok (.ireturn, 1) := by decide +kernel
theorem dX11_pair_0 : decode cX11_pair 0 = .ok (.aload_n 0, 1) := by decide +kernel
theorem dX11_pair_1 : decode cX11_pair 1 = .ok (.getfield 54, 3) := by decide +kernel
theorem dX11_pair_4 : decode cX11_pair 4 = .ok (.iload_n 1, 1) := by decide +kernel
theorem dX11_pair_5 : decode cX11_pair 5 = .ok (.invokevirtual 260, 3) := by decide +kernel
theorem dX11_pair_8 : decode cX11_pair 8 = .ok (.ireturn, 1) := by decide +kernel
theorem dX11_piece_0 : decode cX11_piece 0 = .ok (.iload_n 2, 1) := by decide +kernel
theorem dX11_piece_1 : decode cX11_piece 1 = .ok (.iconst 1, 1) := by decide +kernel
theorem dX11_piece_10 : decode cX11_piece 10 = .ok (.aload_n 0, 1) := by decide +kernel
theorem dX11_piece_11 : decode cX11_piece 11 = .ok (.getfield 61, 3) := by decide +kernel
theorem dX11_piece_14 : decode cX11_piece 14 = .ok (.iload_n 1, 1) := by decide +kernel
theorem dX11_piece_15 : decode cX11_piece 15 = .ok (.iload_n 2, 1) := by decide +kernel
theorem dX11_piece_16 : decode cX11_piece 16 = .ok (.invokevirtual 266, 3) := by decide +kernel
theorem dX11_piece_19 : decode cX11_piece 19 = .ok (.goto 4, 3) := by decide +kernel
theorem dX11_piece_2 : decode cX11_piece 2 = .ok (.bipush 8, 2) := by decide +kernel
theorem dX11_piece_22 : decode cX11_piece 22 = .ok (.iconst (-1), 1) := by decide +kernel
theorem dX11_piece_23 : decode cX11_piece 23 = .ok (.ireturn, 1) := by decide +kernel
theorem dX11_piece_4 : decode cX11_piece 4 = .ok (.invokestatic 113, 3) := by decide +kernel
theorem dX11_piece_7 : decode cX11_piece 7 = .ok (.ifCond .eq 15, 3) := by decide +kernel
theorem dX3_mendedAt_0 : decode cX3_mendedAt 0 = .ok (.iload_n 1, 1) := by decide +kernel
theorem dX3_mendedAt_1 : decode cX3_mendedAt 1 = .ok (.ifCond .lt 11, 3) := by decide +kernel
theorem dX3_mendedAt_12 : decode cX3_mendedAt 12 = .ok (.iconst (-1), 1) := by decide +kernel
theorem dX3_mendedAt_13 : decode cX3_mendedAt 13 = .ok (.ireturn, 1) := by decide +kernel
theorem dX3_mendedAt_14 : decode cX3_mendedAt 14 = .ok (.aload_n 0, 1) := by decide +kernel
theorem dX3_mendedAt_15 : decode cX3_mendedAt 15 = .ok (.iconst 0, 1) := by decide +kernel
theorem dX3_mendedAt_16 : decode cX3_mendedAt 16 = .ok (.invokevirtual 52, 3) := by decide +kernel
theorem dX3_mendedAt_19 : decode cX3_mendedAt 19 = .ok (.istore_n 2, 1) := by decide +kernel
theorem dX3_mendedAt_20 : decode cX3_mendedAt 20 = .ok (.iload_n 2, 1) := by decide +kernel
theorem dX3_mendedAt_21 : decode cX3_mendedAt 21 = .ok (.iconst (-1), 1) := by decide +kernel
theorem dX3_mendedAt_22 : decode cX3_mendedAt 22 = .ok (.if_icmp .ne 5, 3) := by decide +kernel
theorem dX3_mendedAt_25 : decode cX3_mendedAt 25 = .ok (.iconst (-1), 1) := by decide +kernel
theorem dX3_mendedAt_26 : decode cX3_mendedAt 26 = .ok (.ireturn, 1) := by decide +kernel
theorem dX3_mendedAt_27 : decode cX3_mendedAt 27 = .ok (.aload_n 0, 1) := by decide +kernel
theorem dX3_mendedAt_28 : decode cX3_mendedAt 28 = .ok (.getfield 19, 3) := by decide +kernel
theorem dX3_mendedAt_31 : decode cX3_mendedAt 31 = .ok (.iload_n 1, 1) := by decide +kernel
theorem dX3_mendedAt_32 : decode cX3_mendedAt 32 = .ok (.i2l, 1) := by decide +kernel
theorem dX3_mendedAt_33 : decode cX3_mendedAt 33 = .ok (.iload_n 2, 1) := by decide +kernel
theorem dX3_mendedAt_34 : decode cX3_mendedAt 34 = .ok (.bipush 100, 2) := by decide +kernel
theorem dX3_mendedAt_36 : decode cX3_mendedAt 36 = .ok (.idiv, 1) := by decide +kernel
theorem dX3_mendedAt_37 : decode cX3_mendedAt 37 = .ok (.invokestatic 35, 3) := by decide +kernel
theorem dX3_mendedAt_4 : decode cX3_mendedAt 4 = .ok (.iload_n 1, 1) := by decide +kernel
theorem dX3_mendedAt_40 : decode cX3_mendedAt 40 = .ok (.iaload, 1) := by decide +kernel
theorem dX3_mendedAt_41 : decode cX3_mendedAt 41 = .ok (.aload_n 0, 1) := by decide +kernel
theorem dX3_mendedAt_42 : decode cX3_mendedAt 42 = .ok (.getfield 22, 3) := by decide +kernel
theorem dX3_mendedAt_45 : decode cX3_mendedAt 45 = .ok (.iload_n 1, 1) := by decide +kernel
theorem dX3_mendedAt_46 : decode cX3_mendedAt 46 = .ok (.i2l, 1) := by decide +kernel
theorem dX3_mendedAt_47 : decode cX3_mendedAt 47 = .ok (.iload_n 2, 1) := by decide +kernel
theorem dX3_mendedAt_48 : decode cX3_mendedAt 48 = .ok (.bipush 100, 2) := by decide +kernel
theorem dX3_mendedAt_5 : decode cX3_mendedAt 5 = .ok (.aload_n 0, 1) := by decide +kernel
theorem dX3_mendedAt_50 : decode cX3_mendedAt 50 = .ok (.irem, 1) := by decide +kernel
theorem dX3_mendedAt_51 : decode cX3_mendedAt 51 = .ok (.invokestatic 35, 3) := by decide +kernel
theorem dX3_mendedAt_54 : decode cX3_mendedAt 54 = .ok (.iaload, 1) := by decide +kernel
theorem dX3_mendedAt_55 : decode cX3_mendedAt 55 = .ok (.ior, 1) := by decide +kernel
theorem dX3_mendedAt_56 : decode cX3_mendedAt 56 = .ok (.ireturn, 1) := by decide +kernel
theorem dX3_mendedAt_6 : decode cX3_mendedAt 6 = .ok (.getfield 15, 3) := by decide +kernel
theorem dX3_mendedAt_9 : decode cX3_mendedAt 9 = .ok (.if_icmp .lt 5, 3) := by decide +kernel
theorem dX3_pairFits_0 : decode cX3_pairFits 0 = .ok (.aload_n 0, 1) := by decide +kernel
theorem dX3_pairFits_1 : decode cX3_pairFits 1 = .ok (.aload_n 0, 1) := by decide +kernel
theorem dX3_pairFits_10 : decode cX3_pairFits 10 = .ok (.aload_n 0, 1) := by decide +kernel
theorem dX3_pairFits_11 : decode cX3_pairFits 11 = .ok (.getfield 22, 3) := by decide +kernel
theorem dX3_pairFits_14 : decode cX3_pairFits 14 = .ok (.iload_n 2, 1) := by decide +kernel
theorem dX3_pairFits_15 : decode cX3_pairFits 15 = .ok (.invokevirtual 49, 3) := by decide +kernel
theorem dX3_pairFits_18 : decode cX3_pairFits 18 = .ok (.iconst 0, 1) := by decide +kernel
theorem dX3_pairFits_19 : decode cX3_pairFits 19 = .ok (.istore_n 3, 1) := by decide +kernel
theorem dX3_pairFits_2 : decode cX3_pairFits 2 = .ok (.getfield 19, 3) := by decide +kernel
theorem dX3_pairFits_20 : decode cX3_pairFits 20 = .ok (.iload_n 3, 1) := by decide +kernel
theorem dX3_pairFits_21 : decode cX3_pairFits 21 = .ok (.aload_n 0, 1) := by decide +kernel
theorem dX3_pairFits_22 : decode cX3_pairFits 22 = .ok (.getfield 15, 3) := by decide +kernel
theorem dX3_pairFits_25 : decode cX3_pairFits 25 = .ok (.if_icmp .ge 53, 3) := by decide +kernel
theorem dX3_pairFits_28 : decode cX3_pairFits 28 = .ok (.aload_n 0, 1) := by decide +kernel
theorem dX3_pairFits_29 : decode cX3_pairFits 29 = .ok (.getfield 9, 3) := by decide +kernel
theorem dX3_pairFits_32 : decode cX3_pairFits 32 = .ok (.iload_n 3, 1) := by decide +kernel
theorem dX3_pairFits_33 : decode cX3_pairFits 33 = .ok (.iaload, 1) := by decide +kernel
theorem dX3_pairFits_34 : decode cX3_pairFits 34 = .ok (.iconst (-1), 1) := by decide +kernel
theorem dX3_pairFits_35 : decode cX3_pairFits 35 = .ok (.if_icmp .eq 37, 3) := by decide +kernel
theorem dX3_pairFits_38 : decode cX3_pairFits 38 = .ok (.aload_n 0, 1) := by decide +kernel
theorem dX3_pairFits_39 : decode cX3_pairFits 39 = .ok (.getfield 19, 3) := by decide +kernel
theorem dX3_pairFits_42 : decode cX3_pairFits 42 = .ok (.iload_n 3, 1) := by decide +kernel
theorem dX3_pairFits_43 : decode cX3_pairFits 43 = .ok (.i2l, 1) := by decide +kernel
theorem dX3_pairFits_44 : decode cX3_pairFits 44 = .ok (.iload_n 1, 1) := by decide +kernel
theorem dX3_pairFits_45 : decode cX3_pairFits 45 = .ok (.invokestatic 35, 3) := by decide +kernel
theorem dX3_pairFits_48 : decode cX3_pairFits 48 = .ok (.iaload, 1) := by decide +kernel
theorem dX3_pairFits_49 : decode cX3_pairFits 49 = .ok (.aload_n 0, 1) := by decide +kernel
theorem dX3_pairFits_5 : decode cX3_pairFits 5 = .ok (.iload_n 1, 1) := by decide +kernel
theorem dX3_pairFits_50 : decode cX3_pairFits 50 = .ok (.getfield 22, 3) := by decide +kernel
theorem dX3_pairFits_53 : decode cX3_pairFits 53 = .ok (.iload_n 3, 1) := by decide +kernel
theorem dX3_pairFits_54 : decode cX3_pairFits 54 = .ok (.i2l, 1) := by decide +kernel
theorem dX3_pairFits_55 : decode cX3_pairFits 55 = .ok (.iload_n 2, 1) := by decide +kernel
theorem dX3_pairFits_56 : decode cX3_pairFits 56 = .ok (.invokestatic 35, 3) := by decide +kernel
theorem dX3_pairFits_59 : decode cX3_pairFits 59 = .ok (.iaload, 1) := by decide +kernel
theorem dX3_pairFits_6 : decode cX3_pairFits 6 = .ok (.invokevirtual 49, 3) := by decide +kernel
theorem dX3_pairFits_60 : decode cX3_pairFits 60 = .ok (.ior, 1) := by decide +kernel
theorem dX3_pairFits_61 : decode cX3_pairFits 61 = .ok (.aload_n 0, 1) := by decide +kernel
theorem dX3_pairFits_62 : decode cX3_pairFits 62 = .ok (.getfield 9, 3) := by decide +kernel
theorem dX3_pairFits_65 : decode cX3_pairFits 65 = .ok (.iload_n 3, 1) := by decide +kernel
theorem dX3_pairFits_66 : decode cX3_pairFits 66 = .ok (.iaload, 1) := by decide +kernel
theorem dX3_pairFits_67 : decode cX3_pairFits 67 = .ok (.if_icmp .eq 5, 3) := by decide +kernel
theorem dX3_pairFits_70 : decode cX3_pairFits 70 = .ok (.iconst 0, 1) := by decide +kernel
theorem dX3_pairFits_71 : decode cX3_pairFits 71 = .ok (.ireturn, 1) := by decide +kernel
theorem dX3_pairFits_72 : decode cX3_pairFits 72 = .ok (.iinc 3 1, 3) := by decide +kernel
theorem dX3_pairFits_75 : decode cX3_pairFits 75 = .ok (.goto (-55), 3) := by decide +kernel
theorem dX3_pairFits_78 : decode cX3_pairFits 78 = .ok (.iconst 1, 1) := by decide +kernel
theorem dX3_pairFits_79 : decode cX3_pairFits 79 = .ok (.ireturn, 1) := by decide +kernel
theorem dX3_pairFits_9 : decode cX3_pairFits 9 = .ok (.aload_n 0, 1) := by decide +kernel
theorem dX3_pairNumber_0 : decode cX3_pairNumber 0 = .ok (.iconst 0, 1) := by decide +kernel
theorem dX3_pairNumber_1 : decode cX3_pairNumber 1 = .ok (.istore_n 2, 1) := by decide +kernel
theorem dX3_pairNumber_10 : decode cX3_pairNumber 10 = .ok (.iconst 1, 1) := by decide +kernel
theorem dX3_pairNumber_11 : decode cX3_pairNumber 11 = .ok (.iload_n 3, 1) := by decide +kernel
theorem dX3_pairNumber_12 : decode cX3_pairNumber 12 = .ok (.bipush 24, 2) := by decide +kernel
theorem dX3_pairNumber_14 : decode cX3_pairNumber 14 = .ok (.isub, 1) := by decide +kernel
theorem dX3_pairNumber_15 : decode cX3_pairNumber 15 = .ok (.invokestatic 39, 3) := by decide +kernel
theorem dX3_pairNumber_18 : decode cX3_pairNumber 18 = .ok (.istore 4, 2) := by decide +kernel
theorem dX3_pairNumber_2 : decode cX3_pairNumber 2 = .ok (.iconst 2, 1) := by decide +kernel
theorem dX3_pairNumber_20 : decode cX3_pairNumber 20 = .ok (.iload 4, 2) := by decide +kernel
theorem dX3_pairNumber_22 : decode cX3_pairNumber 22 = .ok (.iload_n 3, 1) := by decide +kernel
theorem dX3_pairNumber_23 : decode cX3_pairNumber 23 = .ok (.iload 4, 2) := by decide +kernel
theorem dX3_pairNumber_25 : decode cX3_pairNumber 25 = .ok (.isub, 1) := by decide +kernel
theorem dX3_pairNumber_26 : decode cX3_pairNumber 26 = .ok (.if_icmp .gt 41, 3) := by decide +kernel
theorem dX3_pairNumber_29 : decode cX3_pairNumber 29 = .ok (.aload_n 0, 1) := by decide +kernel
theorem dX3_pairNumber_3 : decode cX3_pairNumber 3 = .ok (.istore_n 3, 1) := by decide +kernel
theorem dX3_pairNumber_30 : decode cX3_pairNumber 30 = .ok (.iload 4, 2) := by decide +kernel
theorem dX3_pairNumber_32 : decode cX3_pairNumber 32 = .ok (.iload_n 3, 1) := by decide +kernel
theorem dX3_pairNumber_33 : decode cX3_pairNumber 33 = .ok (.iload 4, 2) := by decide +kernel
theorem dX3_pairNumber_35 : decode cX3_pairNumber 35 = .ok (.isub, 1) := by decide +kernel
theorem dX3_pairNumber_36 : decode cX3_pairNumber 36 = .ok (.invokevirtual 45, 3) := by decide +kernel
theorem dX3_pairNumber_39 : decode cX3_pairNumber 39 = .ok (.ifCond .eq 22, 3) := by decide +kernel
theorem dX3_pairNumber_4 : decode cX3_pairNumber 4 = .ok (.iload_n 3, 1) := by decide +kernel
theorem dX3_pairNumber_42 : decode cX3_pairNumber 42 = .ok (.iload_n 2, 1) := by decide +kernel
theorem dX3_pairNumber_43 : decode cX3_pairNumber 43 = .ok (.iload_n 1, 1) := by decide +kernel
theorem dX3_pairNumber_44 : decode cX3_pairNumber 44 = .ok (.if_icmp .ne 14, 3) := by decide +kernel
theorem dX3_pairNumber_47 : decode cX3_pairNumber 47 = .ok (.bipush 100, 2) := by decide +kernel
theorem dX3_pairNumber_49 : decode cX3_pairNumber 49 = .ok (.iload 4, 2) := by decide +kernel
theorem dX3_pairNumber_5 : decode cX3_pairNumber 5 = .ok (.bipush 48, 2) := by decide +kernel
theorem dX3_pairNumber_51 : decode cX3_pairNumber 51 = .ok (.imul, 1) := by decide +kernel
theorem dX3_pairNumber_52 : decode cX3_pairNumber 52 = .ok (.iload_n 3, 1) := by decide +kernel
theorem dX3_pairNumber_53 : decode cX3_pairNumber 53 = .ok (.iadd, 1) := by decide +kernel
theorem dX3_pairNumber_54 : decode cX3_pairNumber 54 = .ok (.iload 4, 2) := by decide +kernel
theorem dX3_pairNumber_56 : decode cX3_pairNumber 56 = .ok (.isub, 1) := by decide +kernel
theorem dX3_pairNumber_57 : decode cX3_pairNumber 57 = .ok (.ireturn, 1) := by decide +kernel
theorem dX3_pairNumber_58 : decode cX3_pairNumber 58 = .ok (.iinc 2 1, 3) := by decide +kernel
theorem dX3_pairNumber_61 : decode cX3_pairNumber 61 = .ok (.iinc 4 1, 3) := by decide +kernel
theorem dX3_pairNumber_64 : decode cX3_pairNumber 64 = .ok (.goto (-44), 3) := by decide +kernel
theorem dX3_pairNumber_67 : decode cX3_pairNumber 67 = .ok (.iinc 3 1, 3) := by decide +kernel
theorem dX3_pairNumber_7 : decode cX3_pairNumber 7 = .ok (.if_icmp .gt 66, 3) := by decide +kernel
theorem dX3_pairNumber_70 : decode cX3_pairNumber 70 = .ok (.goto (-66), 3) := by decide +kernel
theorem dX3_pairNumber_73 : decode cX3_pairNumber 73 = .ok (.iconst (-1), 1) := by decide +kernel
theorem dX3_pairNumber_74 : decode cX3_pairNumber 74 = .ok (.ireturn, 1) := by decide +kernel
theorem dX4_add_0 : decode cX4_add 0 = .ok (.aload_n 0, 1) := by decide +kernel
theorem dX4_add_1 : decode cX4_add 1 = .ok (.getfield 9, 3) := by decide +kernel
theorem dX4_add_10 : decode cX4_add 10 = .ok (.iconst 0, 1) := by decide +kernel
theorem dX4_add_11 : decode cX4_add 11 = .ok (.istore_n 3, 1) := by decide +kernel
theorem dX4_add_12 : decode cX4_add 12 = .ok (.iload_n 3, 1) := by decide +kernel
theorem dX4_add_13 : decode cX4_add 13 = .ok (.iload_n 2, 1) := by decide +kernel
theorem dX4_add_14 : decode cX4_add 14 = .ok (.if_icmp .ge 38, 3) := by decide +kernel
theorem dX4_add_17 : decode cX4_add 17 = .ok (.iload_n 1, 1) := by decide +kernel
theorem dX4_add_18 : decode cX4_add 18 = .ok (.iload_n 3, 1) := by decide +kernel
theorem dX4_add_19 : decode cX4_add 19 = .ok (.invokestatic 33, 3) := by decide +kernel
theorem dX4_add_22 : decode cX4_add 22 = .ok (.istore 4, 2) := by decide +kernel
theorem dX4_add_24 : decode cX4_add 24 = .ok (.iload 4, 2) := by decide +kernel
theorem dX4_add_26 : decode cX4_add 26 = .ok (.bipush 9, 2) := by decide +kernel
theorem dX4_add_28 : decode cX4_add 28 = .ok (.if_icmp .le 5, 3) := by decide +kernel
theorem dX4_add_31 : decode cX4_add 31 = .ok (.iconst (-1), 1) := by decide +kernel
theorem dX4_add_32 : decode cX4_add 32 = .ok (.ireturn, 1) := by decide +kernel
theorem dX4_add_33 : decode cX4_add 33 = .ok (.aload_n 0, 1) := by decide +kernel
theorem dX4_add_34 : decode cX4_add 34 = .ok (.getfield 24, 3) := by decide +kernel
theorem dX4_add_37 : decode cX4_add 37 = .ok (.aload_n 0, 1) := by decide +kernel
theorem dX4_add_38 : decode cX4_add 38 = .ok (.getfield 9, 3) := by decide +kernel
theorem dX4_add_4 : decode cX4_add 4 = .ok (.iconst 5, 1) := by decide +kernel
theorem dX4_add_41 : decode cX4_add 41 = .ok (.aaload, 1) := by decide +kernel
theorem dX4_add_42 : decode cX4_add 42 = .ok (.iload_n 3, 1) := by decide +kernel
theorem dX4_add_43 : decode cX4_add 43 = .ok (.iload 4, 2) := by decide +kernel
theorem dX4_add_45 : decode cX4_add 45 = .ok (.iastore, 1) := by decide +kernel
theorem dX4_add_46 : decode cX4_add 46 = .ok (.iinc 3 1, 3) := by decide +kernel
theorem dX4_add_49 : decode cX4_add 49 = .ok (.goto (-37), 3) := by decide +kernel
theorem dX4_add_5 : decode cX4_add 5 = .ok (.if_icmp .lt 5, 3) := by decide +kernel
theorem dX4_add_52 : decode cX4_add 52 = .ok (.aload_n 0, 1) := by decide +kernel
theorem dX4_add_53 : decode cX4_add 53 = .ok (.getfield 27, 3) := by decide +kernel
theorem dX4_add_56 : decode cX4_add 56 = .ok (.aload_n 0, 1) := by decide +kernel
theorem dX4_add_57 : decode cX4_add 57 = .ok (.getfield 9, 3) := by decide +kernel
theorem dX4_add_60 : decode cX4_add 60 = .ok (.iload_n 2, 1) := by decide +kernel
theorem dX4_add_61 : decode cX4_add 61 = .ok (.iastore, 1) := by decide +kernel
theorem dX4_add_62 : decode cX4_add 62 = .ok (.aload_n 0, 1) := by decide +kernel
theorem dX4_add_63 : decode cX4_add 63 = .ok (.dup, 1) := by decide +kernel
theorem dX4_add_64 : decode cX4_add 64 = .ok (.getfield 9, 3) := by decide +kernel
theorem dX4_add_67 : decode cX4_add 67 = .ok (.iconst 1, 1) := by decide +kernel
theorem dX4_add_68 : decode cX4_add 68 = .ok (.iadd, 1) := by decide +kernel
theorem dX4_add_69 : decode cX4_add 69 = .ok (.putfield 9, 3) := by decide +kernel
theorem dX4_add_72 : decode cX4_add 72 = .ok (.aload_n 0, 1) := by decide +kernel
theorem dX4_add_73 : decode cX4_add 73 = .ok (.getfield 9, 3) := by decide +kernel
theorem dX4_add_76 : decode cX4_add 76 = .ok (.iconst 1, 1) := by decide +kernel
theorem dX4_add_77 : decode cX4_add 77 = .ok (.isub, 1) := by decide +kernel
theorem dX4_add_78 : decode cX4_add 78 = .ok (.ireturn, 1) := by decide +kernel
theorem dX4_add_8 : decode cX4_add 8 = .ok (.iconst (-1), 1) := by decide +kernel
theorem dX4_add_9 : decode cX4_add 9 = .ok (.ireturn, 1) := by decide +kernel
theorem dX4_digit_0 : decode cX4_digit 0 = .ok (.iload_n 0, 1) := by decide +kernel
theorem dX4_digit_1 : decode cX4_digit 1 = .ok (.bipush 28, 2) := by decide +kernel
theorem dX4_digit_10 : decode cX4_digit 10 = .ok (.iand, 1) := by decide +kernel
theorem dX4_digit_11 : decode cX4_digit 11 = .ok (.ireturn, 1) := by decide +kernel
theorem dX4_digit_3 : decode cX4_digit 3 = .ok (.iconst 4, 1) := by decide +kernel
theorem dX4_digit_4 : decode cX4_digit 4 = .ok (.iload_n 1, 1) := by decide +kernel
theorem dX4_digit_5 : decode cX4_digit 5 = .ok (.imul, 1) := by decide +kernel
theorem dX4_digit_6 : decode cX4_digit 6 = .ok (.isub, 1) := by decide +kernel
theorem dX4_digit_7 : decode cX4_digit 7 = .ok (.iushr, 1) := by decide +kernel
theorem dX4_digit_8 : decode cX4_digit 8 = .ok (.bipush 15, 2) := by decide +kernel
theorem dX4_keepBetter_0 : decode cX4_keepBetter 0 = .ok (.iload_n 1, 1) := by decide +kernel
theorem dX4_keepBetter_1 : decode cX4_keepBetter 1 = .ok (.aload_n 0, 1) := by decide +kernel
theorem dX4_keepBetter_10 : decode cX4_keepBetter 10 = .ok (.getfield 19, 3) := by decide +kernel
theorem dX4_keepBetter_13 : decode cX4_keepBetter 13 = .ok (.if_icmp .ne 30, 3) := by decide +kernel
theorem dX4_keepBetter_16 : decode cX4_keepBetter 16 = .ok (.aload_n 0, 1) := by decide +kernel
theorem dX4_keepBetter_17 : decode cX4_keepBetter 17 = .ok (.iload_n 1, 1) := by decide +kernel
theorem dX4_keepBetter_18 : decode cX4_keepBetter 18 = .ok (.invokevirtual 61, 3) := by decide +kernel
theorem dX4_keepBetter_2 : decode cX4_keepBetter 2 = .ok (.getfield 19, 3) := by decide +kernel
theorem dX4_keepBetter_21 : decode cX4_keepBetter 21 = .ok (.ifCond .eq 22, 3) := by decide +kernel
theorem dX4_keepBetter_24 : decode cX4_keepBetter 24 = .ok (.aload_n 0, 1) := by decide +kernel
theorem dX4_keepBetter_25 : decode cX4_keepBetter 25 = .ok (.iload_n 1, 1) := by decide +kernel
theorem dX4_keepBetter_26 : decode cX4_keepBetter 26 = .ok (.putfield 19, 3) := by decide +kernel
theorem dX4_keepBetter_29 : decode cX4_keepBetter 29 = .ok (.aload_n 0, 1) := by decide +kernel
theorem dX4_keepBetter_30 : decode cX4_keepBetter 30 = .ok (.getfield 30, 3) := by decide +kernel
theorem dX4_keepBetter_33 : decode cX4_keepBetter 33 = .ok (.iconst 0, 1) := by decide +kernel
theorem dX4_keepBetter_34 : decode cX4_keepBetter 34 = .ok (.aload_n 0, 1) := by decide +kernel
theorem dX4_keepBetter_35 : decode cX4_keepBetter 35 = .ok (.getfield 15, 3) := by decide +kernel
theorem dX4_keepBetter_38 : decode cX4_keepBetter 38 = .ok (.iconst 0, 1) := by decide +kernel
theorem dX4_keepBetter_39 : decode cX4_keepBetter 39 = .ok (.iload_n 1, 1) := by decide +kernel
theorem dX4_keepBetter_40 : decode cX4_keepBetter 40 = .ok (.invokestatic 65, 3) := by decide +kernel
theorem dX4_keepBetter_43 : decode cX4_keepBetter 43 = .ok (.return_, 1) := by decide +kernel
theorem dX4_keepBetter_5 : decode cX4_keepBetter 5 = .ok (.if_icmp .lt 19, 3) := by decide +kernel
theorem dX4_keepBetter_8 : decode cX4_keepBetter 8 = .ok (.iload_n 1, 1) := by decide +kernel
theorem dX4_keepBetter_9 : decode cX4_keepBetter 9 = .ok (.aload_n 0, 1) := by decide +kernel
theorem dX4_laidIsLess_0 : decode cX4_laidIsLess 0 = .ok (.iconst 0, 1) := by decide +kernel
theorem dX4_laidIsLess_1 : decode cX4_laidIsLess 1 = .ok (.istore_n 2, 1) := by decide +kernel
theorem dX4_laidIsLess_11 : decode cX4_laidIsLess 11 = .ok (.iload_n 2, 1) := by decide +kernel
theorem dX4_laidIsLess_12 : decode cX4_laidIsLess 12 = .ok (.iaload, 1) := by decide +kernel
theorem dX4_laidIsLess_13 : decode cX4_laidIsLess 13 = .ok (.aload_n 0, 1) := by decide +kernel
theorem dX4_laidIsLess_14 : decode cX4_laidIsLess 14 = .ok (.getfield 15, 3) := by decide +kernel
theorem dX4_laidIsLess_17 : decode cX4_laidIsLess 17 = .ok (.iload_n 2, 1) := by decide +kernel
theorem dX4_laidIsLess_18 : decode cX4_laidIsLess 18 = .ok (.iaload, 1) := by decide +kernel
theorem dX4_laidIsLess_19 : decode cX4_laidIsLess 19 = .ok (.if_icmp .eq 24, 3) := by decide +kernel
theorem dX4_laidIsLess_2 : decode cX4_laidIsLess 2 = .ok (.iload_n 2, 1) := by decide +kernel
theorem dX4_laidIsLess_22 : decode cX4_laidIsLess 22 = .ok (.aload_n 0, 1) := by decide +kernel
theorem dX4_laidIsLess_23 : decode cX4_laidIsLess 23 = .ok (.getfield 30, 3) := by decide +kernel
theorem dX4_laidIsLess_26 : decode cX4_laidIsLess 26 = .ok (.iload_n 2, 1) := by decide +kernel
theorem dX4_laidIsLess_27 : decode cX4_laidIsLess 27 = .ok (.iaload, 1) := by decide +kernel
theorem dX4_laidIsLess_28 : decode cX4_laidIsLess 28 = .ok (.aload_n 0, 1) := by decide +kernel
theorem dX4_laidIsLess_29 : decode cX4_laidIsLess 29 = .ok (.getfield 15, 3) := by decide +kernel
theorem dX4_laidIsLess_3 : decode cX4_laidIsLess 3 = .ok (.iload_n 1, 1) := by decide +kernel
theorem dX4_laidIsLess_32 : decode cX4_laidIsLess 32 = .ok (.iload_n 2, 1) := by decide +kernel
theorem dX4_laidIsLess_33 : decode cX4_laidIsLess 33 = .ok (.iaload, 1) := by decide +kernel
theorem dX4_laidIsLess_34 : decode cX4_laidIsLess 34 = .ok (.if_icmp .ge 7, 3) := by decide +kernel
theorem dX4_laidIsLess_37 : decode cX4_laidIsLess 37 = .ok (.iconst 1, 1) := by decide +kernel
theorem dX4_laidIsLess_38 : decode cX4_laidIsLess 38 = .ok (.goto 4, 3) := by decide +kernel
theorem dX4_laidIsLess_4 : decode cX4_laidIsLess 4 = .ok (.if_icmp .ge 45, 3) := by decide +kernel
theorem dX4_laidIsLess_41 : decode cX4_laidIsLess 41 = .ok (.iconst 0, 1) := by decide +kernel
theorem dX4_laidIsLess_42 : decode cX4_laidIsLess 42 = .ok (.ireturn, 1) := by decide +kernel
theorem dX4_laidIsLess_43 : decode cX4_laidIsLess 43 = .ok (.iinc 2 1, 3) := by decide +kernel
theorem dX4_laidIsLess_46 : decode cX4_laidIsLess 46 = .ok (.goto (-44), 3) := by decide +kernel
theorem dX4_laidIsLess_49 : decode cX4_laidIsLess 49 = .ok (.iconst 0, 1) := by decide +kernel
theorem dX4_laidIsLess_50 : decode cX4_laidIsLess 50 = .ok (.ireturn, 1) := by decide +kernel
theorem dX4_laidIsLess_7 : decode cX4_laidIsLess 7 = .ok (.aload_n 0, 1) := by decide +kernel
theorem dX4_laidIsLess_8 : decode cX4_laidIsLess 8 = .ok (.getfield 30, 3) := by decide +kernel
theorem dX4_sound_0 : decode cX4_sound 0 = .ok (.aload_n 0, 1) := by decide +kernel
theorem dX4_sound_1 : decode cX4_sound 1 = .ok (.getfield 24, 3) := by decide +kernel
theorem dX4_sound_10 : decode cX4_sound 10 = .ok (.aload_n 0, 1) := by decide +kernel
theorem dX4_sound_11 : decode cX4_sound 11 = .ok (.getfield 27, 3) := by decide +kernel
theorem dX4_sound_14 : decode cX4_sound 14 = .ok (.iload_n 1, 1) := by decide +kernel
theorem dX4_sound_15 : decode cX4_sound 15 = .ok (.iaload, 1) := by decide +kernel
theorem dX4_sound_16 : decode cX4_sound 16 = .ok (.iconst 1, 1) := by decide +kernel
theorem dX4_sound_17 : decode cX4_sound 17 = .ok (.isub, 1) := by decide +kernel
theorem dX4_sound_18 : decode cX4_sound 18 = .ok (.iload_n 3, 1) := by decide +kernel
theorem dX4_sound_19 : decode cX4_sound 19 = .ok (.isub, 1) := by decide +kernel
theorem dX4_sound_20 : decode cX4_sound 20 = .ok (.goto 4, 3) := by decide +kernel
theorem dX4_sound_23 : decode cX4_sound 23 = .ok (.iload_n 3, 1) := by decide +kernel
theorem dX4_sound_24 : decode cX4_sound 24 = .ok (.iaload, 1) := by decide +kernel
theorem dX4_sound_25 : decode cX4_sound 25 = .ok (.ireturn, 1) := by decide +kernel
theorem dX4_sound_4 : decode cX4_sound 4 = .ok (.iload_n 1, 1) := by decide +kernel
theorem dX4_sound_5 : decode cX4_sound 5 = .ok (.aaload, 1) := by decide +kernel
theorem dX4_sound_6 : decode cX4_sound 6 = .ok (.iload_n 2, 1) := by decide +kernel
theorem dX4_sound_7 : decode cX4_sound 7 = .ok (.ifCond .eq 16, 3) := by decide +kernel
theorem dm_X3_makeGreatest : yX3_makeGreatest.cls = RX3 ∧ yX3_makeGreatest.cls ≠ "java/lang/invoke/MethodHandle" ∧ yX3_makeGreatest.cls ≠ "java/lang/invoke/VarHandle" ∧ (parseMethodDescriptor yX3_makeGreatest.desc).map (fun d => d.parameters.length) = some 2 := by decide +kernel
theorem dm_X3_pairFits : yX3_pairFits.cls = RX3 ∧ yX3_pairFits.cls ≠ "java/lang/invoke/MethodHandle" ∧ yX3_pairFits.cls ≠ "java/lang/invoke/VarHandle" ∧ (parseMethodDescriptor yX3_pairFits.desc).map (fun d => d.parameters.length) = some 2 := by decide +kernel
theorem dm_X3_pairNumber : yX3_pairNumber.cls = RX3 ∧ yX3_pairNumber.cls ≠ "java/lang/invoke/MethodHandle" ∧ yX3_pairNumber.cls ≠ "java/lang/invoke/VarHandle" ∧ (parseMethodDescriptor yX3_pairNumber.desc).map (fun d => d.parameters.length) = some 1 := by decide +kernel
theorem dm_X3_mendedAt : yX3_mendedAt.cls = RX3 ∧ yX3_mendedAt.cls ≠ "java/lang/invoke/MethodHandle" ∧ yX3_mendedAt.cls ≠ "java/lang/invoke/VarHandle" ∧ (parseMethodDescriptor yX3_mendedAt.desc).map (fun d => d.parameters.length) = some 1 := by decide +kernel
theorem dm_X4_digit : yX4_digit.cls = RX4 ∧ yX4_digit.cls ≠ "java/lang/invoke/MethodHandle" ∧ yX4_digit.cls ≠ "java/lang/invoke/VarHandle" ∧ (parseMethodDescriptor yX4_digit.desc).map (fun d => d.parameters.length) = some 2 := by decide +kernel
theorem dm_X4_add : yX4_add.cls = RX4 ∧ yX4_add.cls ≠ "java/lang/invoke/MethodHandle" ∧ yX4_add.cls ≠ "java/lang/invoke/VarHandle" ∧ (parseMethodDescriptor yX4_add.desc).map (fun d => d.parameters.length) = some 2 := by decide +kernel
theorem dm_X4_laidIsLess : yX4_laidIsLess.cls = RX4 ∧ yX4_laidIsLess.cls ≠ "java/lang/invoke/MethodHandle" ∧ yX4_laidIsLess.cls ≠ "java/lang/invoke/VarHandle" ∧ (parseMethodDescriptor yX4_laidIsLess.desc).map (fun d => d.parameters.length) = some 1 := by decide +kernel
set_option maxRecDepth 100000 in
def wC_OldTape_pairFits (a0 : Int) (a1 : Int) (M : zM) (Q : Int → zM → Prop) : Prop := wC_OldTape_makeGreatest 84 a0 M (fun M1 => wC_OldTape_makeGreatest 85 a1 M1 (fun M2 => pL1 (fun K20 x3 => ((sI (M2 82 1)) ≤ (sI x3) → Q 1 M2) ∧ ((sI x3) < (sI (M2 82 1)) → ((0 ≤ (sI x3) ∧ (sI x3) < 60) ∧ ((sI (M2 83 (sI x3).toNat)) = (-1) → K20 (x3 + 1)) ∧ ((sI (M2 83 (sI x3).toNat)) ≠ (-1) → wC_by (sI x3) a0 M2 (fun z17 => ((0 ≤ z17 ∧ z17 < 24) ∧ wC_by (sI x3) a1 M2 (fun z22 => ((0 ≤ z22 ∧ z22 < 24) ∧ ((0 ≤ (sI x3) ∧ (sI x3) < 60) ∧ ((orI (M2 84 z17.toNat) (M2 85 z22.toNat)) = (sI (M2 83 (sI x3).toNat)) → K20 (x3 + 1)) ∧ ((orI (M2 84 z17.toNat) (M2 85 z22.toNat)) ≠ (sI (M2 83 (sI x3).toNat)) → Q 0 M2)))))))))) 0))
set_option maxHeartbeats 4000000 in
set_option maxRecDepth 100000 in
theorem cC_OldTape_pairFits (l : Launch) (D : va_G) (dA : Nat → ClassId) (b : Nat) (M : zM) (a0 : Int) (a1 : Int)  (Q : Int → zM → Prop) (h : wC_OldTape_pairFits a0 a1 M Q) : Met l yX3_pairFits (.code yX3_pairFits cX3_pairFits 4 (some .boolean) :: zt) (z_rm 2) (va_Pc [.ref (b + 82), .int (iI a0), .int (iI a1)] (wPre D dA vwCl (z_tys dA) wC nC b M)) (va_Qi (wQz Q) (zB D dA vwCl wC nC b) (zA nC b)) 0 0 (zA nC b) := by
  unfold wC_OldTape_pairFits at h
  refine Met.ofW (cc := cX3_pairFits) (maxL := 4) (ret := (some .boolean)) (by decide) rfl ?_
  intro p e s m args below meth c s₁ B hml hv
  obtain ⟨hargs, hS, hK⟩ := hv
  have hx := B.exec
  have hb := B.bytes
  have hr := B.returns
  have hts := atoms_spec (ws := .code yX3_pairFits cX3_pairFits 4 (some .boolean) :: zt) B.pre
  have hown : s.vm.findClass RX3 = some m.cls := findClass_of_methodNamed B.named
  have hlocks := B.notSynchronized
  have hS0 : va_S (zA nC b) s.heap s.heap [] := va_S.rf
  have hl := lv_entry ([.ref (b + 82), .int (iI a0), .int (iI a1)]) (n := 4) (Nat.le_of_ble_eq_true rfl)
  have hent : entryFrame m args 4 = F0 m 0 ((lg_sl ([.ref (b + 82), .int (iI a0), .int (iI a1)]) ++ List.replicate (4 - (lg_sl ([.ref (b + 82), .int (iI a0), .int (iI a1)])).length) Slot.unset).toArray) [] := by rw [hargs]; exact lg_entry_eq m ([.ref (b + 82), .int (iI a0), .int (iI a1)]) 4
  rw [hent]
  generalize (lg_sl ([.ref (b + 82), .int (iI a0), .int (iI a1)]) ++ List.replicate (4 - (lg_sl ([.ref (b + 82), .int (iI a0), .int (iI a1)])).length) Slot.unset).toArray = ls at hl ⊢
  have hl : lv_has ls 4 [(0, .ref (b + 82)), (1, .int (iI a0)), (2, .int (iI a1))] := hl
  refine lv_aload_n hx hb dX3_pairFits_0 rfl (lv_at hl 0 rfl) ?_
  refine lv_aload_n hx hb dX3_pairFits_1 rfl (lv_at hl 0 rfl) ?_
  refine w_getr (j2 := 84) hx hb hts (z_memU u3) hown hK.1 hS f3_2 (by decide) (zkd_of (rfl : zcd wC 82 = 34) rfl) (zrf_of (rfl : zcd wC 82 = 34) rfl) (Or.inl (hts _ (z_mem k198))) dX3_pairFits_2 ?_
  refine lv_iload_n hx hb dX3_pairFits_5 rfl (lv_at hl 1 rfl) ?_
  refine w_callv (va_runV (As := [.ref (b + 84), .int (iI a0)]) (rest := []) ⟨hx, hb, hml, hown, hts⟩ (cC_OldTape_makeGreatest l D dA b M 84 a0 (by decide) (zkd_of (rfl : zcd wC 84 = 36) rfl) (Nat.lt_of_le_of_lt (Nat.le_of_eq (zln_of (rfl : zcd wC 84 = 36) rfl)) (by decide)) _ h) (cwV 2 hts (z_gV k782 k783 k1383 k11 k784) rfl rfl rfl dm_X3_makeGreatest ⟨Nat.le_of_ble_eq_true rfl, Nat.le_of_ble_eq_true rfl⟩) ⟨wPre_blind, (w_recv hS hK.1 (by decide) (zkd_of (rfl : zcd wC 82 = 34) rfl) (by decide) (rfl : vwCl[3]? = some (RX3, TX3, 4))), w_pre hS hK⟩ rfl rfl hl.1 rfl (lv_room (Nat.le_of_ble_eq_true rfl)) dX3_pairFits_6 ⟨Nat.le_refl _, Nat.le_refl _⟩) hS0 (fun M1 H locs h hS hS0 => ?_)
  refine lv_aload_n hx hb dX3_pairFits_9 rfl (lv_at hl 0 rfl) ?_
  refine lv_aload_n hx hb dX3_pairFits_10 rfl (lv_at hl 0 rfl) ?_
  refine w_getr (j2 := 85) hx hb hts (z_memU u3) hown hK.1 hS f3_3 (by decide) (zkd_of (rfl : zcd wC 82 = 34) rfl) (zrf_of (rfl : zcd wC 82 = 34) rfl) (Or.inl (hts _ (z_mem k199))) dX3_pairFits_11 ?_
  refine lv_iload_n hx hb dX3_pairFits_14 rfl (lv_at hl 2 rfl) ?_
  refine w_callv (va_runV (As := [.ref (b + 85), .int (iI a1)]) (rest := []) ⟨hx, hb, hml, hown, hts⟩ (cC_OldTape_makeGreatest l D dA b M1 85 a1 (by decide) (zkd_of (rfl : zcd wC 85 = 37) rfl) (Nat.lt_of_le_of_lt (Nat.le_of_eq (zln_of (rfl : zcd wC 85 = 37) rfl)) (by decide)) _ h) (cwV 2 hts (z_gV k782 k783 k1383 k11 k784) rfl rfl rfl dm_X3_makeGreatest ⟨Nat.le_of_ble_eq_true rfl, Nat.le_of_ble_eq_true rfl⟩) ⟨wPre_blind, (w_recv hS hK.1 (by decide) (zkd_of (rfl : zcd wC 82 = 34) rfl) (by decide) (rfl : vwCl[3]? = some (RX3, TX3, 4))), w_pre hS hK⟩ rfl rfl hl.1 rfl (lv_room (Nat.le_of_ble_eq_true rfl)) dX3_pairFits_15 ⟨Nat.le_refl _, Nat.le_refl _⟩) hS0 (fun M2 H locs h hS hS0 => ?_)
  refine z_iconst hx hb dX3_pairFits_18 ?_
  refine lv_istore_n (lv' := [(3, .int (iI 0)), (0, .ref (b + 82)), (1, .int (iI a0)), (2, .int (iI a1))]) hx hb dX3_pairFits_19 rfl hl (by decide) rfl (fun ls hl => ?_)
  obtain ⟨I4, ⟨n5, h6⟩, h7⟩ := h
  have L8 : ∀ (n9 : Nat) (x3 : Int) (H : Heap) (locs : List Loc) (ls : Array Slot), I4 n9 x3 → zR D dA vwCl wC nC b M2 H → va_S (zA nC b) s.heap H locs → lv_has ls 4 [(0, .ref (b + 82)), (1, .int (iI a0)), (2, .int (iI a1)), (3, .int (iI x3))] → W p l e (headSpec (.code yX3_pairFits cX3_pairFits 4 (some .boolean) :: zt) (z_rm 2)).room s m args below meth c H locs 0 0 (MQ below (va_Qi (wQz Q) (zB D dA vwCl wC nC b) (zA nC b)) args s 0 0 (zA nC b)) (F0 m 20 ls []) := by
    intro n9
    induction n9 using Nat.strongRecOn with
    | ind n9 i10 =>
      intro x3 H locs ls h hS hS0 hl
      have h := h7 n9 x3 h
      refine lv_iload_n hx hb dX3_pairFits_20 rfl (lv_at hl 3 rfl) ?_
      refine lv_aload_n hx hb dX3_pairFits_21 rfl (lv_at hl 0 rfl) ?_
      refine w_geti hx hb hts (z_memU u3) hown hK.1 hS f3_1 (by decide) (zkd_of (rfl : zcd wC 82 = 34) rfl) (Or.inl (hts _ (z_mem k196))) dX3_pairFits_22 ?_
      refine w_icmp_ge (tgt := 78) hx hb rfl rfl dX3_pairFits_25 (by decide) (fun c11 => ?_) (fun c11 => ?_)
      · skip
        have h := h.1 c11
        refine z_iconst hx hb dX3_pairFits_78 ?_
        exact w_zret hx hb hr hlocks hS hS0 (sI_of (by decide)) (by decide) h dX3_pairFits_79
      · skip
        have h := h.2 c11
        refine lv_aload_n hx hb dX3_pairFits_28 rfl (lv_at hl 0 rfl) ?_
        refine w_getr (j2 := 83) hx hb hts (z_memU u3) hown hK.1 hS f3_0 (by decide) (zkd_of (rfl : zcd wC 82 = 34) rfl) (zrf_of (rfl : zcd wC 82 = 34) rfl) (Or.inl (hts _ (z_mem k195))) dX3_pairFits_29 ?_
        refine lv_iload_n hx hb dX3_pairFits_32 rfl (lv_at hl 3 rfl) ?_
        obtain ⟨o12, h⟩ := h
        refine w_iald (n := 60) (i := (sI x3)) hx hb hK.1 (t0 := 0) rfl hS (by decide) (zkd_of (rfl : zcd wC 83 = 35) rfl) (zln_of (rfl : zcd wC 83 = 35) rfl) rfl o12.1 o12.2 (by decide) dX3_pairFits_33 ?_
        refine z_iconst hx hb dX3_pairFits_34 ?_
        refine w_icmp_eq (tgt := 72) hx hb rfl (sI_of (by decide)) dX3_pairFits_35 (by decide) (fun c13 => ?_) (fun c13 => ?_)
        · skip
          have h := h.1 c13
          refine z_iinc (lv' := [(3, .int (iI (x3 + 1))), (0, .ref (b + 82)), (1, .int (iI a0)), (2, .int (iI a1))]) hx hb dX3_pairFits_72 hl (k := 3) rfl (by decide) rfl (fun ls hl => ?_)
          refine lv_goto (tgt := 20) hx hb dX3_pairFits_75 (by decide) ?_
          obtain ⟨n14, h15, h⟩ := h
          exact i10 n14 h15 (x3 + 1) _ _ _ h hS hS0 (lv_sub hl [1, 2, 3, 0] rfl)
        · skip
          have h := h.2 c13
          refine lv_aload_n hx hb dX3_pairFits_38 rfl (lv_at hl 0 rfl) ?_
          refine w_getr (j2 := 84) hx hb hts (z_memU u3) hown hK.1 hS f3_2 (by decide) (zkd_of (rfl : zcd wC 82 = 34) rfl) (zrf_of (rfl : zcd wC 82 = 34) rfl) (Or.inl (hts _ (z_mem k198))) dX3_pairFits_39 ?_
          refine lv_iload_n hx hb dX3_pairFits_42 rfl (lv_at hl 3 rfl) ?_
          refine w_i2l hx hb rfl dX3_pairFits_43 ?_
          refine lv_iload_n hx hb dX3_pairFits_44 rfl (lv_at hl 1 rfl) ?_
          refine w_calli (va_runSN (As := [.long (iL (sI x3)), .int (iI a0)]) (rest := [.ref (b + 84)]) ⟨hx, hb, hml, hown, hts⟩ (cC_by l D dA b M2 (sI x3) a0 _ h) ⟨va_cnB 2 hts (z_gN k406) rfl rfl rfl (hK.2 (RX3, 35, yX11_by, RX11) (List.mem_of_getElem? (i := 17) rfl)) (hts _ (z_mem k1)) dm_X11_by.2 ⟨Nat.le_of_ble_eq_true rfl, Nat.le_of_ble_eq_true rfl⟩, (hts _ (z_mem k405)), trivial⟩ ⟨wPre_blind, w_pre hS hK⟩ rfl rfl hl.1 rfl (lv_room (Nat.le_of_ble_eq_true rfl)) dX3_pairFits_45 ⟨Nat.le_refl _, Nat.le_refl _⟩) hS0 (fun z17 M16 H locs r18 h hS hS0 => ?_)
          obtain ⟨e19, h⟩ := h
          rw [e19] at hS
          obtain ⟨o20, h⟩ := h
          refine w_iald (n := 24) (i := z17) hx hb hK.1 (t0 := 0) rfl hS (by decide) (zkd_of (rfl : zcd wC 84 = 36) rfl) (zln_of (rfl : zcd wC 84 = 36) rfl) (sI_of r18) o20.1 o20.2 (by decide) dX3_pairFits_48 ?_
          refine lv_aload_n hx hb dX3_pairFits_49 rfl (lv_at hl 0 rfl) ?_
          refine w_getr (j2 := 85) hx hb hts (z_memU u3) hown hK.1 hS f3_3 (by decide) (zkd_of (rfl : zcd wC 82 = 34) rfl) (zrf_of (rfl : zcd wC 82 = 34) rfl) (Or.inl (hts _ (z_mem k199))) dX3_pairFits_50 ?_
          refine lv_iload_n hx hb dX3_pairFits_53 rfl (lv_at hl 3 rfl) ?_
          refine w_i2l hx hb rfl dX3_pairFits_54 ?_
          refine lv_iload_n hx hb dX3_pairFits_55 rfl (lv_at hl 2 rfl) ?_
          refine w_calli (va_runSN (As := [.long (iL (sI x3)), .int (iI a1)]) (rest := [.ref (b + 85), .int (iI (M2 84 z17.toNat))]) ⟨hx, hb, hml, hown, hts⟩ (cC_by l D dA b M2 (sI x3) a1 _ h) ⟨va_cnB 2 hts (z_gN k406) rfl rfl rfl (hK.2 (RX3, 35, yX11_by, RX11) (List.mem_of_getElem? (i := 17) rfl)) (hts _ (z_mem k1)) dm_X11_by.2 ⟨Nat.le_of_ble_eq_true rfl, Nat.le_of_ble_eq_true rfl⟩, (hts _ (z_mem k405)), trivial⟩ ⟨wPre_blind, w_pre hS hK⟩ rfl rfl hl.1 rfl (lv_room (Nat.le_of_ble_eq_true rfl)) dX3_pairFits_56 ⟨Nat.le_refl _, Nat.le_refl _⟩) hS0 (fun z22 M21 H locs r23 h hS hS0 => ?_)
          obtain ⟨e24, h⟩ := h
          rw [e24] at hS
          obtain ⟨o25, h⟩ := h
          refine w_iald (n := 24) (i := z22) hx hb hK.1 (t0 := 0) rfl hS (by decide) (zkd_of (rfl : zcd wC 85 = 37) rfl) (zln_of (rfl : zcd wC 85 = 37) rfl) (sI_of r23) o25.1 o25.2 (by decide) dX3_pairFits_59 ?_
          refine w_ior hx hb dX3_pairFits_60 ?_
          refine lv_aload_n hx hb dX3_pairFits_61 rfl (lv_at hl 0 rfl) ?_
          refine w_getr (j2 := 83) hx hb hts (z_memU u3) hown hK.1 hS f3_0 (by decide) (zkd_of (rfl : zcd wC 82 = 34) rfl) (zrf_of (rfl : zcd wC 82 = 34) rfl) (Or.inl (hts _ (z_mem k195))) dX3_pairFits_62 ?_
          refine lv_iload_n hx hb dX3_pairFits_65 rfl (lv_at hl 3 rfl) ?_
          obtain ⟨o26, h⟩ := h
          refine w_iald (n := 60) (i := (sI x3)) hx hb hK.1 (t0 := 0) rfl hS (by decide) (zkd_of (rfl : zcd wC 83 = 35) rfl) (zln_of (rfl : zcd wC 83 = 35) rfl) rfl o26.1 o26.2 (by decide) dX3_pairFits_66 ?_
          refine w_icmp_eq (tgt := 72) hx hb (sI_of (orI_R _ _)) rfl dX3_pairFits_67 (by decide) (fun c27 => ?_) (fun c27 => ?_)
          · skip
            have h := h.1 c27
            refine z_iinc (lv' := [(3, .int (iI (x3 + 1))), (0, .ref (b + 82)), (1, .int (iI a0)), (2, .int (iI a1))]) hx hb dX3_pairFits_72 hl (k := 3) rfl (by decide) rfl (fun ls hl => ?_)
            refine lv_goto (tgt := 20) hx hb dX3_pairFits_75 (by decide) ?_
            obtain ⟨n28, h29, h⟩ := h
            exact i10 n28 h29 (x3 + 1) _ _ _ h hS hS0 (lv_sub hl [1, 2, 3, 0] rfl)
          · skip
            have h := h.2 c27
            refine z_iconst hx hb dX3_pairFits_70 ?_
            exact w_zret hx hb hr hlocks hS hS0 (sI_of (by decide)) (by decide) h dX3_pairFits_71
  exact L8 n5 0 _ _ _ h6 hS hS0 (lv_sub hl [1, 2, 3, 0] rfl)

set_option maxRecDepth 100000 in
def wC_OldTape_pairNumber (a0 : Int) (M : zM) (Q : Int → zM → Prop) : Prop := wL2 (fun K4 x1 x2 M3 => (48 < (sI x2) → Q (-1) M3) ∧ ((sI x2) ≤ 48 → wL2 (fun K20 x12 x13 M14 => ((sI (x2 - x13)) < (sI x13) → K4 x12 (x2 + 1) M14) ∧ ((sI x13) ≤ (sI (x2 - x13)) → wC_OldTape_pairFits x13 (x2 - x13) M14 (fun z26 M25 => (z26 = 0 → K20 x12 (x13 + 1) M25) ∧ (z26 ≠ 0 → ((sI x12) ≠ (sI a0) → K20 (x12 + 1) (x13 + 1) M25) ∧ ((sI x12) = (sI a0) → Q (sI (((100 * x13) + x2) - x13)) M25))))) x1 (max 1 (sI (x2 - 24))) M3)) 0 2 M
set_option maxHeartbeats 4000000 in
set_option maxRecDepth 100000 in
theorem cC_OldTape_pairNumber (l : Launch) (D : va_G) (dA : Nat → ClassId) (b : Nat) (M : zM) (a0 : Int)  (Q : Int → zM → Prop) (h : wC_OldTape_pairNumber a0 M Q) : Met l yX3_pairNumber (.code yX3_pairNumber cX3_pairNumber 5 (some .int) :: zt) (z_rm 3) (va_Pc [.ref (b + 82), .int (iI a0)] (wPre D dA vwCl (z_tys dA) wC nC b M)) (va_Qi (wQi Q) (zB D dA vwCl wC nC b) (zA nC b)) 0 0 (zA nC b) := by
  unfold wC_OldTape_pairNumber at h
  refine Met.ofW (cc := cX3_pairNumber) (maxL := 5) (ret := (some .int)) (by decide) rfl ?_
  intro p e s m args below meth c s₁ B hml hv
  obtain ⟨hargs, hS, hK⟩ := hv
  have hx := B.exec
  have hb := B.bytes
  have hr := B.returns
  have hts := atoms_spec (ws := .code yX3_pairNumber cX3_pairNumber 5 (some .int) :: zt) B.pre
  have hown : s.vm.findClass RX3 = some m.cls := findClass_of_methodNamed B.named
  have hlocks := B.notSynchronized
  have hS0 : va_S (zA nC b) s.heap s.heap [] := va_S.rf
  have hl := lv_entry ([.ref (b + 82), .int (iI a0)]) (n := 5) (Nat.le_of_ble_eq_true rfl)
  have hent : entryFrame m args 5 = F0 m 0 ((lg_sl ([.ref (b + 82), .int (iI a0)]) ++ List.replicate (5 - (lg_sl ([.ref (b + 82), .int (iI a0)])).length) Slot.unset).toArray) [] := by rw [hargs]; exact lg_entry_eq m ([.ref (b + 82), .int (iI a0)]) 5
  rw [hent]
  generalize (lg_sl ([.ref (b + 82), .int (iI a0)]) ++ List.replicate (5 - (lg_sl ([.ref (b + 82), .int (iI a0)])).length) Slot.unset).toArray = ls at hl ⊢
  have hl : lv_has ls 5 [(0, .ref (b + 82)), (1, .int (iI a0))] := hl
  refine z_iconst hx hb dX3_pairNumber_0 ?_
  refine lv_istore_n (lv' := [(2, .int (iI 0)), (0, .ref (b + 82)), (1, .int (iI a0))]) hx hb dX3_pairNumber_1 rfl hl (by decide) rfl (fun ls hl => ?_)
  refine z_iconst hx hb dX3_pairNumber_2 ?_
  refine lv_istore_n (lv' := [(3, .int (iI 2)), (2, .int (iI 0)), (0, .ref (b + 82)), (1, .int (iI a0))]) hx hb dX3_pairNumber_3 rfl hl (by decide) rfl (fun ls hl => ?_)
  obtain ⟨I4, ⟨n5, h6⟩, h7⟩ := h
  have L8 : ∀ (n9 : Nat) (x1 x2 : Int) (M3 : zM) (H : Heap) (locs : List Loc) (ls : Array Slot), I4 n9 x1 x2 M3 → zR D dA vwCl wC nC b M3 H → va_S (zA nC b) s.heap H locs → lv_has ls 5 [(0, .ref (b + 82)), (1, .int (iI a0)), (2, .int (iI x1)), (3, .int (iI x2))] → W p l e (headSpec (.code yX3_pairNumber cX3_pairNumber 5 (some .int) :: zt) (z_rm 3)).room s m args below meth c H locs 0 0 (MQ below (va_Qi (wQi Q) (zB D dA vwCl wC nC b) (zA nC b)) args s 0 0 (zA nC b)) (F0 m 4 ls []) := by
    intro n9
    induction n9 using Nat.strongRecOn with
    | ind n9 i10 =>
      intro x1 x2 M3 H locs ls h hS hS0 hl
      have h := h7 n9 x1 x2 M3 h
      refine lv_iload_n hx hb dX3_pairNumber_4 rfl (lv_at hl 3 rfl) ?_
      refine z_bipush hx hb (by decide) dX3_pairNumber_5 ?_
      refine w_icmp_gt (tgt := 73) hx hb rfl (sI_of (by decide)) dX3_pairNumber_7 (by decide) (fun c11 => ?_) (fun c11 => ?_)
      · skip
        have h := h.1 c11
        refine z_iconst hx hb dX3_pairNumber_73 ?_
        exact w_iret hx hb hr hlocks hS hS0 (sI_of (by decide)) h dX3_pairNumber_74
      · skip
        have h := h.2 c11
        refine z_iconst hx hb dX3_pairNumber_10 ?_
        refine lv_iload_n hx hb dX3_pairNumber_11 rfl (lv_at hl 3 rfl) ?_
        refine z_bipush hx hb (by decide) dX3_pairNumber_12 ?_
        refine z_isub hx hb dX3_pairNumber_14 ?_
        refine w_mmax hx hb (hml.trans hl.1.symm) hown (hts _ (z_mem k778)) (hts _ (z_mem k341)) (hts _ (z_mem k15)) (hts _ (z_mem k342)) (by exact Nat.le_of_ble_eq_true rfl) (by exact Nat.le_of_ble_eq_true rfl) (by exact Nat.le_refl _) (by exact Nat.le_refl _) (sI_of (by decide)) rfl dX3_pairNumber_15 ?_
        refine lv_istore (lv' := [(4, .int (iI (max 1 (sI (x2 - 24))))), (0, .ref (b + 82)), (1, .int (iI a0)), (2, .int (iI x1)), (3, .int (iI x2))]) hx hb dX3_pairNumber_18 hl (by decide) rfl (fun ls hl => ?_)
        obtain ⟨I15, ⟨n16, h17⟩, h18⟩ := h
        have L19 : ∀ (n20 : Nat) (x12 x13 : Int) (M14 : zM) (H : Heap) (locs : List Loc) (ls : Array Slot), I15 n20 x12 x13 M14 → zR D dA vwCl wC nC b M14 H → va_S (zA nC b) s.heap H locs → lv_has ls 5 [(0, .ref (b + 82)), (1, .int (iI a0)), (2, .int (iI x12)), (3, .int (iI x2)), (4, .int (iI x13))] → W p l e (headSpec (.code yX3_pairNumber cX3_pairNumber 5 (some .int) :: zt) (z_rm 3)).room s m args below meth c H locs 0 0 (MQ below (va_Qi (wQi Q) (zB D dA vwCl wC nC b) (zA nC b)) args s 0 0 (zA nC b)) (F0 m 20 ls []) := by
          intro n20
          induction n20 using Nat.strongRecOn with
          | ind n20 i21 =>
            intro x12 x13 M14 H locs ls h hS hS0 hl
            have h := h18 n20 x12 x13 M14 h
            refine lv_iload hx hb dX3_pairNumber_20 (lv_at hl 4 rfl) ?_
            refine lv_iload_n hx hb dX3_pairNumber_22 rfl (lv_at hl 3 rfl) ?_
            refine lv_iload hx hb dX3_pairNumber_23 (lv_at hl 4 rfl) ?_
            refine z_isub hx hb dX3_pairNumber_25 ?_
            refine w_icmp_gt (tgt := 67) hx hb rfl rfl dX3_pairNumber_26 (by decide) (fun c22 => ?_) (fun c22 => ?_)
            · skip
              have h := h.1 c22
              refine z_iinc (lv' := [(3, .int (iI (x2 + 1))), (0, .ref (b + 82)), (1, .int (iI a0)), (2, .int (iI x12)), (4, .int (iI x13))]) hx hb dX3_pairNumber_67 hl (k := 3) rfl (by decide) rfl (fun ls hl => ?_)
              refine lv_goto (tgt := 4) hx hb dX3_pairNumber_70 (by decide) ?_
              obtain ⟨n23, h24, h⟩ := h
              exact i10 n23 h24 x12 (x2 + 1) M14 _ _ _ h hS hS0 (lv_sub hl [1, 2, 3, 0] rfl)
            · skip
              have h := h.2 c22
              refine lv_aload_n hx hb dX3_pairNumber_29 rfl (lv_at hl 0 rfl) ?_
              refine lv_iload hx hb dX3_pairNumber_30 (lv_at hl 4 rfl) ?_
              refine lv_iload_n hx hb dX3_pairNumber_32 rfl (lv_at hl 3 rfl) ?_
              refine lv_iload hx hb dX3_pairNumber_33 (lv_at hl 4 rfl) ?_
              refine z_isub hx hb dX3_pairNumber_35 ?_
              refine w_callz (va_runV (As := [.int (iI x13), .int (iI (x2 - x13))]) (rest := []) ⟨hx, hb, hml, hown, hts⟩ (cC_OldTape_pairFits l D dA b M14 x13 (x2 - x13) _ h) (cwV 2 hts (z_gV k779 k780 k1382 k11 k781) rfl rfl rfl dm_X3_pairFits ⟨Nat.le_of_ble_eq_true rfl, Nat.le_of_ble_eq_true rfl⟩) ⟨wPre_blind, (w_recv hS hK.1 (by decide) (zkd_of (rfl : zcd wC 82 = 34) rfl) (by decide) (rfl : vwCl[3]? = some (RX3, TX3, 4))), w_pre hS hK⟩ rfl rfl hl.1 rfl (lv_room (Nat.le_of_ble_eq_true rfl)) dX3_pairNumber_36 ⟨Nat.le_refl _, Nat.le_refl _⟩) hS0 (fun z26 M25 H locs r27 h hS hS0 => ?_)
              refine w_if_eq (tgt := 61) hx hb (sI_01 r27) dX3_pairNumber_39 (by decide) (fun c28 => ?_) (fun c28 => ?_)
              · skip
                have h := h.1 c28
                refine z_iinc (lv' := [(4, .int (iI (x13 + 1))), (0, .ref (b + 82)), (1, .int (iI a0)), (2, .int (iI x12)), (3, .int (iI x2))]) hx hb dX3_pairNumber_61 hl (k := 4) rfl (by decide) rfl (fun ls hl => ?_)
                refine lv_goto (tgt := 20) hx hb dX3_pairNumber_64 (by decide) ?_
                obtain ⟨n29, h30, h⟩ := h
                exact i21 n29 h30 x12 (x13 + 1) M25 _ _ _ h hS hS0 (lv_sub hl [1, 2, 3, 4, 0] rfl)
              · skip
                have h := h.2 c28
                refine lv_iload_n hx hb dX3_pairNumber_42 rfl (lv_at hl 2 rfl) ?_
                refine lv_iload_n hx hb dX3_pairNumber_43 rfl (lv_at hl 1 rfl) ?_
                refine w_icmp_ne (tgt := 58) hx hb rfl rfl dX3_pairNumber_44 (by decide) (fun c31 => ?_) (fun c31 => ?_)
                · skip
                  have h := h.1 c31
                  refine z_iinc (lv' := [(2, .int (iI (x12 + 1))), (0, .ref (b + 82)), (1, .int (iI a0)), (3, .int (iI x2)), (4, .int (iI x13))]) hx hb dX3_pairNumber_58 hl (k := 2) rfl (by decide) rfl (fun ls hl => ?_)
                  refine z_iinc (lv' := [(4, .int (iI (x13 + 1))), (2, .int (iI (x12 + 1))), (0, .ref (b + 82)), (1, .int (iI a0)), (3, .int (iI x2))]) hx hb dX3_pairNumber_61 hl (k := 4) rfl (by decide) rfl (fun ls hl => ?_)
                  refine lv_goto (tgt := 20) hx hb dX3_pairNumber_64 (by decide) ?_
                  obtain ⟨n32, h33, h⟩ := h
                  exact i21 n32 h33 (x12 + 1) (x13 + 1) M25 _ _ _ h hS hS0 (lv_sub hl [2, 3, 1, 4, 0] rfl)
                · skip
                  have h := h.2 c31
                  refine z_bipush hx hb (by decide) dX3_pairNumber_47 ?_
                  refine lv_iload hx hb dX3_pairNumber_49 (lv_at hl 4 rfl) ?_
                  refine z_imul hx hb dX3_pairNumber_51 ?_
                  refine lv_iload_n hx hb dX3_pairNumber_52 rfl (lv_at hl 3 rfl) ?_
                  refine z_iadd hx hb dX3_pairNumber_53 ?_
                  refine lv_iload hx hb dX3_pairNumber_54 (lv_at hl 4 rfl) ?_
                  refine z_isub hx hb dX3_pairNumber_56 ?_
                  exact w_iret hx hb hr hlocks hS hS0 rfl h dX3_pairNumber_57
        exact L19 n16 x1 (max 1 (sI (x2 - 24))) M3 _ _ _ h17 hS hS0 (lv_sub hl [1, 2, 3, 4, 0] rfl)
  exact L8 n5 0 2 M _ _ _ h6 hS hS0 (lv_sub hl [2, 3, 1, 0] rfl)

set_option maxRecDepth 100000 in
def wC_pair (a0 : Int) (M : zM) (Q : Int → zM → Prop) : Prop := wC_OldTape_pairNumber a0 M (fun z2 M1 => Q z2 M1)
set_option maxHeartbeats 4000000 in
set_option maxRecDepth 100000 in
theorem cC_pair (l : Launch) (D : va_G) (dA : Nat → ClassId) (b : Nat) (M : zM) (a0 : Int)  (Q : Int → zM → Prop) (h : wC_pair a0 M Q) : Met l yX11_pair (.code yX11_pair cX11_pair 2 (some .int) :: zt) (z_rm 4) (va_Pc [.ref (b + 0), .int (iI a0)] (wPre D dA vwCl (z_tys dA) wC nC b M)) (va_Qi (wQi Q) (zB D dA vwCl wC nC b) (zA nC b)) 0 0 (zA nC b) := by
  unfold wC_pair at h
  refine Met.ofW (cc := cX11_pair) (maxL := 2) (ret := (some .int)) (by decide) rfl ?_
  intro p e s m args below meth c s₁ B hml hv
  obtain ⟨hargs, hS, hK⟩ := hv
  have hx := B.exec
  have hb := B.bytes
  have hr := B.returns
  have hts := atoms_spec (ws := .code yX11_pair cX11_pair 2 (some .int) :: zt) B.pre
  have hown : s.vm.findClass RX11 = some m.cls := findClass_of_methodNamed B.named
  have hlocks := B.notSynchronized
  have hS0 : va_S (zA nC b) s.heap s.heap [] := va_S.rf
  have hl := lv_entry ([.ref (b + 0), .int (iI a0)]) (n := 2) (Nat.le_of_ble_eq_true rfl)
  have hent : entryFrame m args 2 = F0 m 0 ((lg_sl ([.ref (b + 0), .int (iI a0)]) ++ List.replicate (2 - (lg_sl ([.ref (b + 0), .int (iI a0)])).length) Slot.unset).toArray) [] := by rw [hargs]; exact lg_entry_eq m ([.ref (b + 0), .int (iI a0)]) 2
  rw [hent]
  generalize (lg_sl ([.ref (b + 0), .int (iI a0)]) ++ List.replicate (2 - (lg_sl ([.ref (b + 0), .int (iI a0)])).length) Slot.unset).toArray = ls at hl ⊢
  have hl : lv_has ls 2 [(0, .ref (b + 0)), (1, .int (iI a0))] := hl
  refine lv_aload_n hx hb dX11_pair_0 rfl (lv_at hl 0 rfl) ?_
  refine w_getr (j2 := 82) hx hb hts (z_memU u11) hown hK.1 hS f11_6 (by decide) (zkd_of (rfl : zcd wC 0 = 0) rfl) (zrf_of (rfl : zcd wC 0 = 0) rfl) (Or.inl (hts _ (z_mem k248))) dX11_pair_1 ?_
  refine lv_iload_n hx hb dX11_pair_4 rfl (lv_at hl 1 rfl) ?_
  refine w_calli (va_runV (As := [.int (iI a0)]) (rest := []) ⟨hx, hb, hml, hown, hts⟩ (cC_OldTape_pairNumber l D dA b M a0 _ h) (cwV 1 hts (z_gV k774 k775 k776 k11 k777) rfl rfl rfl dm_X3_pairNumber ⟨Nat.le_of_ble_eq_true rfl, Nat.le_of_ble_eq_true rfl⟩) ⟨wPre_blind, (w_recv hS hK.1 (by decide) (zkd_of (rfl : zcd wC 82 = 34) rfl) (by decide) (rfl : vwCl[3]? = some (RX3, TX3, 4))), w_pre hS hK⟩ rfl rfl hl.1 rfl (lv_room (Nat.le_of_ble_eq_true rfl)) dX11_pair_5 ⟨Nat.le_refl _, Nat.le_refl _⟩) hS0 (fun z2 M1 H locs r3 h hS hS0 => ?_)
  exact w_iret hx hb hr hlocks hS hS0 (sI_of r3) h dX11_pair_8

set_option maxRecDepth 100000 in
def wC_OldTape_mendedAt (a0 : Int) (M : zM) (Q : Int → zM → Prop) : Prop := ((sI a0) < 0 → Q (-1) M) ∧ (0 ≤ (sI a0) → ((sI a0) < (sI (M 82 1)) → wC_OldTape_pairNumber 0 M (fun z4 M3 => (z4 ≠ (-1) → wC_by (sI a0) (z4.tdiv 100) M3 (fun z8 => ((0 ≤ z8 ∧ z8 < 24) ∧ wC_by (sI a0) (z4.tmod 100) M3 (fun z13 => ((0 ≤ z13 ∧ z13 < 24) ∧ Q (orI (M3 84 z8.toNat) (M3 85 z13.toNat)) M3))))) ∧ (z4 = (-1) → Q (-1) M3))) ∧ ((sI (M 82 1)) ≤ (sI a0) → Q (-1) M))
set_option maxHeartbeats 4000000 in
set_option maxRecDepth 100000 in
theorem cC_OldTape_mendedAt (l : Launch) (D : va_G) (dA : Nat → ClassId) (b : Nat) (M : zM) (a0 : Int)  (Q : Int → zM → Prop) (h : wC_OldTape_mendedAt a0 M Q) : Met l yX3_mendedAt (.code yX3_mendedAt cX3_mendedAt 3 (some .int) :: zt) (z_rm 4) (va_Pc [.ref (b + 82), .int (iI a0)] (wPre D dA vwCl (z_tys dA) wC nC b M)) (va_Qi (wQi Q) (zB D dA vwCl wC nC b) (zA nC b)) 0 0 (zA nC b) := by
  unfold wC_OldTape_mendedAt at h
  refine Met.ofW (cc := cX3_mendedAt) (maxL := 3) (ret := (some .int)) (by decide) rfl ?_
  intro p e s m args below meth c s₁ B hml hv
  obtain ⟨hargs, hS, hK⟩ := hv
  have hx := B.exec
  have hb := B.bytes
  have hr := B.returns
  have hts := atoms_spec (ws := .code yX3_mendedAt cX3_mendedAt 3 (some .int) :: zt) B.pre
  have hown : s.vm.findClass RX3 = some m.cls := findClass_of_methodNamed B.named
  have hlocks := B.notSynchronized
  have hS0 : va_S (zA nC b) s.heap s.heap [] := va_S.rf
  have hl := lv_entry ([.ref (b + 82), .int (iI a0)]) (n := 3) (Nat.le_of_ble_eq_true rfl)
  have hent : entryFrame m args 3 = F0 m 0 ((lg_sl ([.ref (b + 82), .int (iI a0)]) ++ List.replicate (3 - (lg_sl ([.ref (b + 82), .int (iI a0)])).length) Slot.unset).toArray) [] := by rw [hargs]; exact lg_entry_eq m ([.ref (b + 82), .int (iI a0)]) 3
  rw [hent]
  generalize (lg_sl ([.ref (b + 82), .int (iI a0)]) ++ List.replicate (3 - (lg_sl ([.ref (b + 82), .int (iI a0)])).length) Slot.unset).toArray = ls at hl ⊢
  have hl : lv_has ls 3 [(0, .ref (b + 82)), (1, .int (iI a0))] := hl
  refine lv_iload_n hx hb dX3_mendedAt_0 rfl (lv_at hl 1 rfl) ?_
  refine w_if_lt (tgt := 12) hx hb rfl dX3_mendedAt_1 (by decide) (fun c1 => ?_) (fun c1 => ?_)
  · skip
    have h := h.1 c1
    refine z_iconst hx hb dX3_mendedAt_12 ?_
    exact w_iret hx hb hr hlocks hS hS0 (sI_of (by decide)) h dX3_mendedAt_13
  · skip
    have h := h.2 c1
    refine lv_iload_n hx hb dX3_mendedAt_4 rfl (lv_at hl 1 rfl) ?_
    refine lv_aload_n hx hb dX3_mendedAt_5 rfl (lv_at hl 0 rfl) ?_
    refine w_geti hx hb hts (z_memU u3) hown hK.1 hS f3_1 (by decide) (zkd_of (rfl : zcd wC 82 = 34) rfl) (Or.inl (hts _ (z_mem k196))) dX3_mendedAt_6 ?_
    refine w_icmp_lt (tgt := 14) hx hb rfl rfl dX3_mendedAt_9 (by decide) (fun c2 => ?_) (fun c2 => ?_)
    · skip
      have h := h.1 c2
      refine lv_aload_n hx hb dX3_mendedAt_14 rfl (lv_at hl 0 rfl) ?_
      refine z_iconst hx hb dX3_mendedAt_15 ?_
      refine w_calli (va_runV (As := [.int (iI 0)]) (rest := []) ⟨hx, hb, hml, hown, hts⟩ (cC_OldTape_pairNumber l D dA b M 0 _ h) (cwV 1 hts (z_gV k793 k775 k776 k11 k777) rfl rfl rfl dm_X3_pairNumber ⟨Nat.le_of_ble_eq_true rfl, Nat.le_of_ble_eq_true rfl⟩) ⟨wPre_blind, (w_recv hS hK.1 (by decide) (zkd_of (rfl : zcd wC 82 = 34) rfl) (by decide) (rfl : vwCl[3]? = some (RX3, TX3, 4))), w_pre hS hK⟩ rfl rfl hl.1 rfl (lv_room (Nat.le_of_ble_eq_true rfl)) dX3_mendedAt_16 ⟨Nat.le_refl _, Nat.le_refl _⟩) hS0 (fun z4 M3 H locs r5 h hS hS0 => ?_)
      refine lv_istore_n (lv' := [(2, .int (iI z4)), (0, .ref (b + 82)), (1, .int (iI a0))]) hx hb dX3_mendedAt_19 rfl hl (by decide) rfl (fun ls hl => ?_)
      refine lv_iload_n hx hb dX3_mendedAt_20 rfl (lv_at hl 0 rfl) ?_
      refine z_iconst hx hb dX3_mendedAt_21 ?_
      refine w_icmp_ne (tgt := 27) hx hb (sI_of r5) (sI_of (by decide)) dX3_mendedAt_22 (by decide) (fun c6 => ?_) (fun c6 => ?_)
      · skip
        have h := h.1 c6
        refine lv_aload_n hx hb dX3_mendedAt_27 rfl (lv_at hl 1 rfl) ?_
        refine w_getr (j2 := 84) hx hb hts (z_memU u3) hown hK.1 hS f3_2 (by decide) (zkd_of (rfl : zcd wC 82 = 34) rfl) (zrf_of (rfl : zcd wC 82 = 34) rfl) (Or.inl (hts _ (z_mem k198))) dX3_mendedAt_28 ?_
        refine lv_iload_n hx hb dX3_mendedAt_31 rfl (lv_at hl 2 rfl) ?_
        refine w_i2l hx hb rfl dX3_mendedAt_32 ?_
        refine lv_iload_n hx hb dX3_mendedAt_33 rfl (lv_at hl 0 rfl) ?_
        refine z_bipush hx hb (by decide) dX3_mendedAt_34 ?_
        refine w_idiv hx hb (sI_of r5) (sI_of (by decide)) (by decide) dX3_mendedAt_36 ?_
        refine w_calli (va_runSN (As := [.long (iL (sI a0)), .int (iI (z4.tdiv 100))]) (rest := [.ref (b + 84)]) ⟨hx, hb, hml, hown, hts⟩ (cC_by l D dA b M3 (sI a0) (z4.tdiv 100) _ h) ⟨va_cnB 2 hts (z_gN k406) rfl rfl rfl (hK.2 (RX3, 35, yX11_by, RX11) (List.mem_of_getElem? (i := 17) rfl)) (hts _ (z_mem k1)) dm_X11_by.2 ⟨Nat.le_of_ble_eq_true rfl, Nat.le_of_ble_eq_true rfl⟩, (hts _ (z_mem k405)), trivial⟩ ⟨wPre_blind, w_pre hS hK⟩ rfl rfl hl.1 rfl (lv_room (Nat.le_of_ble_eq_true rfl)) dX3_mendedAt_37 ⟨Nat.le_refl _, Nat.le_refl _⟩) hS0 (fun z8 M7 H locs r9 h hS hS0 => ?_)
        obtain ⟨e10, h⟩ := h
        rw [e10] at hS
        obtain ⟨o11, h⟩ := h
        refine w_iald (n := 24) (i := z8) hx hb hK.1 (t0 := 0) rfl hS (by decide) (zkd_of (rfl : zcd wC 84 = 36) rfl) (zln_of (rfl : zcd wC 84 = 36) rfl) (sI_of r9) o11.1 o11.2 (by decide) dX3_mendedAt_40 ?_
        refine lv_aload_n hx hb dX3_mendedAt_41 rfl (lv_at hl 1 rfl) ?_
        refine w_getr (j2 := 85) hx hb hts (z_memU u3) hown hK.1 hS f3_3 (by decide) (zkd_of (rfl : zcd wC 82 = 34) rfl) (zrf_of (rfl : zcd wC 82 = 34) rfl) (Or.inl (hts _ (z_mem k199))) dX3_mendedAt_42 ?_
        refine lv_iload_n hx hb dX3_mendedAt_45 rfl (lv_at hl 2 rfl) ?_
        refine w_i2l hx hb rfl dX3_mendedAt_46 ?_
        refine lv_iload_n hx hb dX3_mendedAt_47 rfl (lv_at hl 0 rfl) ?_
        refine z_bipush hx hb (by decide) dX3_mendedAt_48 ?_
        refine w_irem hx hb (sI_of r5) (sI_of (by decide)) (by decide) dX3_mendedAt_50 ?_
        refine w_calli (va_runSN (As := [.long (iL (sI a0)), .int (iI (z4.tmod 100))]) (rest := [.ref (b + 85), .int (iI (M3 84 z8.toNat))]) ⟨hx, hb, hml, hown, hts⟩ (cC_by l D dA b M3 (sI a0) (z4.tmod 100) _ h) ⟨va_cnB 2 hts (z_gN k406) rfl rfl rfl (hK.2 (RX3, 35, yX11_by, RX11) (List.mem_of_getElem? (i := 17) rfl)) (hts _ (z_mem k1)) dm_X11_by.2 ⟨Nat.le_of_ble_eq_true rfl, Nat.le_of_ble_eq_true rfl⟩, (hts _ (z_mem k405)), trivial⟩ ⟨wPre_blind, w_pre hS hK⟩ rfl rfl hl.1 rfl (lv_room (Nat.le_of_ble_eq_true rfl)) dX3_mendedAt_51 ⟨Nat.le_refl _, Nat.le_refl _⟩) hS0 (fun z13 M12 H locs r14 h hS hS0 => ?_)
        obtain ⟨e15, h⟩ := h
        rw [e15] at hS
        obtain ⟨o16, h⟩ := h
        refine w_iald (n := 24) (i := z13) hx hb hK.1 (t0 := 0) rfl hS (by decide) (zkd_of (rfl : zcd wC 85 = 37) rfl) (zln_of (rfl : zcd wC 85 = 37) rfl) (sI_of r14) o16.1 o16.2 (by decide) dX3_mendedAt_54 ?_
        refine w_ior hx hb dX3_mendedAt_55 ?_
        exact w_iret hx hb hr hlocks hS hS0 (sI_of (orI_R _ _)) h dX3_mendedAt_56
      · skip
        have h := h.2 c6
        refine z_iconst hx hb dX3_mendedAt_25 ?_
        exact w_iret hx hb hr hlocks hS hS0 (sI_of (by decide)) h dX3_mendedAt_26
    · skip
      have h := h.2 c2
      refine z_iconst hx hb dX3_mendedAt_12 ?_
      exact w_iret hx hb hr hlocks hS hS0 (sI_of (by decide)) h dX3_mendedAt_13

set_option maxRecDepth 100000 in
def wC_mended (a0 : Int) (M : zM) (Q : Int → zM → Prop) : Prop := wC_OldTape_mendedAt a0 M (fun z2 M1 => Q z2 M1)
set_option maxHeartbeats 4000000 in
set_option maxRecDepth 100000 in
theorem cC_mended (l : Launch) (D : va_G) (dA : Nat → ClassId) (b : Nat) (M : zM) (a0 : Int)  (Q : Int → zM → Prop) (h : wC_mended a0 M Q) : Met l yX11_mended (.code yX11_mended cX11_mended 2 (some .int) :: zt) (z_rm 5) (va_Pc [.ref (b + 0), .int (iI a0)] (wPre D dA vwCl (z_tys dA) wC nC b M)) (va_Qi (wQi Q) (zB D dA vwCl wC nC b) (zA nC b)) 0 0 (zA nC b) := by
  unfold wC_mended at h
  refine Met.ofW (cc := cX11_mended) (maxL := 2) (ret := (some .int)) (by decide) rfl ?_
  intro p e s m args below meth c s₁ B hml hv
  obtain ⟨hargs, hS, hK⟩ := hv
  have hx := B.exec
  have hb := B.bytes
  have hr := B.returns
  have hts := atoms_spec (ws := .code yX11_mended cX11_mended 2 (some .int) :: zt) B.pre
  have hown : s.vm.findClass RX11 = some m.cls := findClass_of_methodNamed B.named
  have hlocks := B.notSynchronized
  have hS0 : va_S (zA nC b) s.heap s.heap [] := va_S.rf
  have hl := lv_entry ([.ref (b + 0), .int (iI a0)]) (n := 2) (Nat.le_of_ble_eq_true rfl)
  have hent : entryFrame m args 2 = F0 m 0 ((lg_sl ([.ref (b + 0), .int (iI a0)]) ++ List.replicate (2 - (lg_sl ([.ref (b + 0), .int (iI a0)])).length) Slot.unset).toArray) [] := by rw [hargs]; exact lg_entry_eq m ([.ref (b + 0), .int (iI a0)]) 2
  rw [hent]
  generalize (lg_sl ([.ref (b + 0), .int (iI a0)]) ++ List.replicate (2 - (lg_sl ([.ref (b + 0), .int (iI a0)])).length) Slot.unset).toArray = ls at hl ⊢
  have hl : lv_has ls 2 [(0, .ref (b + 0)), (1, .int (iI a0))] := hl
  refine lv_aload_n hx hb dX11_mended_0 rfl (lv_at hl 0 rfl) ?_
  refine w_getr (j2 := 82) hx hb hts (z_memU u11) hown hK.1 hS f11_6 (by decide) (zkd_of (rfl : zcd wC 0 = 0) rfl) (zrf_of (rfl : zcd wC 0 = 0) rfl) (Or.inl (hts _ (z_mem k248))) dX11_mended_1 ?_
  refine lv_iload_n hx hb dX11_mended_4 rfl (lv_at hl 1 rfl) ?_
  refine w_calli (va_runV (As := [.int (iI a0)]) (rest := []) ⟨hx, hb, hml, hown, hts⟩ (cC_OldTape_mendedAt l D dA b M a0 _ h) (cwV 1 hts (z_gV k789 k790 k791 k11 k792) rfl rfl rfl dm_X3_mendedAt ⟨Nat.le_of_ble_eq_true rfl, Nat.le_of_ble_eq_true rfl⟩) ⟨wPre_blind, (w_recv hS hK.1 (by decide) (zkd_of (rfl : zcd wC 82 = 34) rfl) (by decide) (rfl : vwCl[3]? = some (RX3, TX3, 4))), w_pre hS hK⟩ rfl rfl hl.1 rfl (lv_room (Nat.le_of_ble_eq_true rfl)) dX11_mended_5 ⟨Nat.le_refl _, Nat.le_refl _⟩) hS0 (fun z2 M1 H locs r3 h hS hS0 => ?_)
  exact w_iret hx hb hr hlocks hS hS0 (sI_of r3) h dX11_mended_8

set_option maxRecDepth 100000 in
def wC_Pieces_digit (a0 : Int) (a1 : Int) (M : zM) (Q : Int → Prop) : Prop := Q (andI (ushrI a0 (28 - (4 * a1))) 15)
set_option maxHeartbeats 4000000 in
set_option maxRecDepth 100000 in
theorem cC_Pieces_digit (l : Launch) (D : va_G) (dA : Nat → ClassId) (b : Nat) (M : zM) (a0 : Int) (a1 : Int)  (Q : Int → Prop) (h : wC_Pieces_digit a0 a1 M Q) : Met l yX4_digit (.code yX4_digit cX4_digit 2 (some .int) :: zt) (z_rm 0) (va_Pc [.int (iI a0), .int (iI a1)] (wPre D dA vwCl (z_tys dA) wC nC b M)) (va_Qi (wQi (fun z9 u9 => u9 = M ∧ Q z9)) (zB D dA vwCl wC nC b) (zA nC b)) 0 0 (zA nC b) := by
  unfold wC_Pieces_digit at h
  refine Met.ofW (cc := cX4_digit) (maxL := 2) (ret := (some .int)) (by decide) rfl ?_
  intro p e s m args below meth c s₁ B hml hv
  obtain ⟨hargs, hS, hK⟩ := hv
  have hx := B.exec
  have hb := B.bytes
  have hr := B.returns
  have hts := atoms_spec (ws := .code yX4_digit cX4_digit 2 (some .int) :: zt) B.pre
  have hown : s.vm.findClass RX4 = some m.cls := findClass_of_methodNamed B.named
  have hlocks := B.notSynchronized
  have hS0 : va_S (zA nC b) s.heap s.heap [] := va_S.rf
  have hl := lv_entry ([.int (iI a0), .int (iI a1)]) (n := 2) (Nat.le_of_ble_eq_true rfl)
  have hent : entryFrame m args 2 = F0 m 0 ((lg_sl ([.int (iI a0), .int (iI a1)]) ++ List.replicate (2 - (lg_sl ([.int (iI a0), .int (iI a1)])).length) Slot.unset).toArray) [] := by rw [hargs]; exact lg_entry_eq m ([.int (iI a0), .int (iI a1)]) 2
  rw [hent]
  generalize (lg_sl ([.int (iI a0), .int (iI a1)]) ++ List.replicate (2 - (lg_sl ([.int (iI a0), .int (iI a1)])).length) Slot.unset).toArray = ls at hl ⊢
  have hl : lv_has ls 2 [(0, .int (iI a0)), (1, .int (iI a1))] := hl
  refine lv_iload_n hx hb dX4_digit_0 rfl (lv_at hl 0 rfl) ?_
  refine z_bipush hx hb (by decide) dX4_digit_1 ?_
  refine z_iconst hx hb dX4_digit_3 ?_
  refine lv_iload_n hx hb dX4_digit_4 rfl (lv_at hl 1 rfl) ?_
  refine z_imul hx hb dX4_digit_5 ?_
  refine z_isub hx hb dX4_digit_6 ?_
  refine w_iushr hx hb dX4_digit_7 ?_
  refine z_bipush hx hb (by decide) dX4_digit_8 ?_
  refine w_iand hx hb dX4_digit_10 ?_
  exact w_iret hx hb hr hlocks hS hS0 (sI_of (andI_R _ _)) ⟨rfl, h⟩ dX4_digit_11

set_option maxRecDepth 100000 in
def wC_Pieces_add (a0 : Int) (a1 : Int) (M : zM) (Q : Int → zM → Prop) : Prop := ((sI (M 86 0)) < 5 → wL1 (fun K12 x2 M3 => ((sI a1) ≤ (sI x2) → ((0 ≤ (sI (M3 86 0)) ∧ (sI (M3 86 0)) < 5) ∧ (∀ M13 : zM, M13 = zup M3 94 (sI (M3 86 0)).toNat a1 → (∀ M15 : zM, M15 = zup M13 86 0 ((M13 86 0) + 1) → Q (sI ((M15 86 0) - 1)) M15)))) ∧ ((sI x2) < (sI a1) → wC_Pieces_digit a0 x2 M3 (fun z18 => (z18 ≤ 9 → ((0 ≤ (sI (M3 86 0)) ∧ (sI (M3 86 0)) < 5) ∧ ((0 ≤ (sI x2) ∧ (sI x2) < 8) ∧ (∀ M26 : zM, M26 = zup M3 (89 + 1 * (sI (M3 86 0)).toNat) (sI x2).toNat z18 → K12 (x2 + 1) M26)))) ∧ (9 < z18 → Q (-1) M3)))) 0 M) ∧ (5 ≤ (sI (M 86 0)) → Q (-1) M)
set_option maxHeartbeats 4000000 in
set_option maxRecDepth 100000 in
theorem cC_Pieces_add (l : Launch) (D : va_G) (dA : Nat → ClassId) (b : Nat) (M : zM) (a0 : Int) (a1 : Int)  (Q : Int → zM → Prop) (h : wC_Pieces_add a0 a1 M Q) : Met l yX4_add (.code yX4_add cX4_add 5 (some .int) :: zt) (z_rm 1) (va_Pc [.ref (b + 86), .int (iI a0), .int (iI a1)] (wPre D dA vwCl (z_tys dA) wC nC b M)) (va_Qi (wQi Q) (zB D dA vwCl wC nC b) (zA nC b)) 0 0 (zA nC b) := by
  unfold wC_Pieces_add at h
  refine Met.ofW (cc := cX4_add) (maxL := 5) (ret := (some .int)) (by decide) rfl ?_
  intro p e s m args below meth c s₁ B hml hv
  obtain ⟨hargs, hS, hK⟩ := hv
  have hx := B.exec
  have hb := B.bytes
  have hr := B.returns
  have hts := atoms_spec (ws := .code yX4_add cX4_add 5 (some .int) :: zt) B.pre
  have hown : s.vm.findClass RX4 = some m.cls := findClass_of_methodNamed B.named
  have hlocks := B.notSynchronized
  have hS0 : va_S (zA nC b) s.heap s.heap [] := va_S.rf
  have hl := lv_entry ([.ref (b + 86), .int (iI a0), .int (iI a1)]) (n := 5) (Nat.le_of_ble_eq_true rfl)
  have hent : entryFrame m args 5 = F0 m 0 ((lg_sl ([.ref (b + 86), .int (iI a0), .int (iI a1)]) ++ List.replicate (5 - (lg_sl ([.ref (b + 86), .int (iI a0), .int (iI a1)])).length) Slot.unset).toArray) [] := by rw [hargs]; exact lg_entry_eq m ([.ref (b + 86), .int (iI a0), .int (iI a1)]) 5
  rw [hent]
  generalize (lg_sl ([.ref (b + 86), .int (iI a0), .int (iI a1)]) ++ List.replicate (5 - (lg_sl ([.ref (b + 86), .int (iI a0), .int (iI a1)])).length) Slot.unset).toArray = ls at hl ⊢
  have hl : lv_has ls 5 [(0, .ref (b + 86)), (1, .int (iI a0)), (2, .int (iI a1))] := hl
  refine lv_aload_n hx hb dX4_add_0 rfl (lv_at hl 0 rfl) ?_
  refine w_geti hx hb hts (z_memU u4) hown hK.1 hS f4_0 (by decide) (zkd_of (rfl : zcd wC 86 = 38) rfl) (Or.inl (hts _ (z_mem k210))) dX4_add_1 ?_
  refine z_iconst hx hb dX4_add_4 ?_
  refine w_icmp_lt (tgt := 10) hx hb rfl (sI_of (by decide)) dX4_add_5 (by decide) (fun c1 => ?_) (fun c1 => ?_)
  · skip
    have h := h.1 c1
    refine z_iconst hx hb dX4_add_10 ?_
    refine lv_istore_n (lv' := [(3, .int (iI 0)), (0, .ref (b + 86)), (1, .int (iI a0)), (2, .int (iI a1))]) hx hb dX4_add_11 rfl hl (by decide) rfl (fun ls hl => ?_)
    obtain ⟨I4, ⟨n5, h6⟩, h7⟩ := h
    have L8 : ∀ (n9 : Nat) (x2 : Int) (M3 : zM) (H : Heap) (locs : List Loc) (ls : Array Slot), I4 n9 x2 M3 → zR D dA vwCl wC nC b M3 H → va_S (zA nC b) s.heap H locs → lv_has ls 5 [(0, .ref (b + 86)), (1, .int (iI a0)), (2, .int (iI a1)), (3, .int (iI x2))] → W p l e (headSpec (.code yX4_add cX4_add 5 (some .int) :: zt) (z_rm 1)).room s m args below meth c H locs 0 0 (MQ below (va_Qi (wQi Q) (zB D dA vwCl wC nC b) (zA nC b)) args s 0 0 (zA nC b)) (F0 m 12 ls []) := by
      intro n9
      induction n9 using Nat.strongRecOn with
      | ind n9 i10 =>
        intro x2 M3 H locs ls h hS hS0 hl
        have h := h7 n9 x2 M3 h
        refine lv_iload_n hx hb dX4_add_12 rfl (lv_at hl 3 rfl) ?_
        refine lv_iload_n hx hb dX4_add_13 rfl (lv_at hl 2 rfl) ?_
        refine w_icmp_ge (tgt := 52) hx hb rfl rfl dX4_add_14 (by decide) (fun c11 => ?_) (fun c11 => ?_)
        · skip
          have h := h.1 c11
          refine lv_aload_n hx hb dX4_add_52 rfl (lv_at hl 0 rfl) ?_
          refine w_getr (j2 := 94) hx hb hts (z_memU u4) hown hK.1 hS f4_4 (by decide) (zkd_of (rfl : zcd wC 86 = 38) rfl) (zrf_of (rfl : zcd wC 86 = 38) rfl) (Or.inl (hts _ (z_mem k216))) dX4_add_53 ?_
          refine lv_aload_n hx hb dX4_add_56 rfl (lv_at hl 0 rfl) ?_
          refine w_geti hx hb hts (z_memU u4) hown hK.1 hS f4_0 (by decide) (zkd_of (rfl : zcd wC 86 = 38) rfl) (Or.inl (hts _ (z_mem k210))) dX4_add_57 ?_
          refine lv_iload_n hx hb dX4_add_60 rfl (lv_at hl 2 rfl) ?_
          obtain ⟨o12, h⟩ := h
          refine w_iast (z := a1) (n := 5) (i := (sI (M3 86 0))) hx hb hK.1 (t0 := 0) rfl hS hS0 (by decide) (zkd_of (rfl : zcd wC 94 = 42) rfl) (zln_of (rfl : zcd wC 94 = 42) rfl) rfl o12.1 o12.2 (by decide) dX4_add_61 (fun H locs hS hS0 => ?_)
          obtain ⟨M13, e14⟩ : ∃ M13 : zM, M13 = zup M3 94 (sI (M3 86 0)).toNat a1 := ⟨_, rfl⟩
          rw [← e14] at hS
          have h := h M13 e14
          refine lv_aload_n hx hb dX4_add_62 rfl (lv_at hl 0 rfl) ?_
          refine lv_dup hx hb dX4_add_63 rfl ?_
          refine w_geti hx hb hts (z_memU u4) hown hK.1 hS f4_0 (by decide) (zkd_of (rfl : zcd wC 86 = 38) rfl) (Or.inl (hts _ (z_mem k210))) dX4_add_64 ?_
          refine z_iconst hx hb dX4_add_67 ?_
          refine z_iadd hx hb dX4_add_68 ?_
          refine w_puti hx hb hts (z_memU u4) tyX4 tyX4_ok nmX4 hown hK.1 hS hS0 f4_0 (by decide) (zkd_of (rfl : zcd wC 86 = 38) rfl) (Or.inl (hts _ (z_mem k210))) rfl (z := ((M13 86 0) + 1)) (by decide +kernel) dX4_add_69 (fun H locs hS hS0 => ?_)
          obtain ⟨M15, e16⟩ : ∃ M15 : zM, M15 = zup M13 86 0 ((M13 86 0) + 1) := ⟨_, rfl⟩
          rw [← e16] at hS
          have h := h M15 e16
          refine lv_aload_n hx hb dX4_add_72 rfl (lv_at hl 0 rfl) ?_
          refine w_geti hx hb hts (z_memU u4) hown hK.1 hS f4_0 (by decide) (zkd_of (rfl : zcd wC 86 = 38) rfl) (Or.inl (hts _ (z_mem k210))) dX4_add_73 ?_
          refine z_iconst hx hb dX4_add_76 ?_
          refine z_isub hx hb dX4_add_77 ?_
          exact w_iret hx hb hr hlocks hS hS0 rfl h dX4_add_78
        · skip
          have h := h.2 c11
          refine lv_iload_n hx hb dX4_add_17 rfl (lv_at hl 1 rfl) ?_
          refine lv_iload_n hx hb dX4_add_18 rfl (lv_at hl 3 rfl) ?_
          refine w_calli (va_runS (As := [.int (iI a0), .int (iI x2)]) (rest := []) ⟨hx, hb, hml, hown, hts⟩ (cC_Pieces_digit l D dA b M3 a0 x2 _ h) (va_cwS 2 hts (z_gS k802 k803 k12 k804) rfl rfl rfl dm_X4_digit.2 ⟨Nat.le_of_ble_eq_true rfl, Nat.le_of_ble_eq_true rfl⟩) ⟨wPre_blind, w_pre hS hK⟩ rfl rfl hl.1 rfl (lv_room (Nat.le_of_ble_eq_true rfl)) dX4_add_19 ⟨Nat.le_refl _, Nat.le_refl _⟩) hS0 (fun z18 M17 H locs r19 h hS hS0 => ?_)
          obtain ⟨e20, h⟩ := h
          rw [e20] at hS
          refine lv_istore (lv' := [(4, .int (iI z18)), (0, .ref (b + 86)), (1, .int (iI a0)), (2, .int (iI a1)), (3, .int (iI x2))]) hx hb dX4_add_22 hl (by decide) rfl (fun ls hl => ?_)
          refine lv_iload hx hb dX4_add_24 (lv_at hl 0 rfl) ?_
          refine z_bipush hx hb (by decide) dX4_add_26 ?_
          refine w_icmp_le (tgt := 33) hx hb (sI_of r19) (sI_of (by decide)) dX4_add_28 (by decide) (fun c21 => ?_) (fun c21 => ?_)
          · skip
            have h := h.1 c21
            refine lv_aload_n hx hb dX4_add_33 rfl (lv_at hl 1 rfl) ?_
            refine w_getr (j2 := 88) hx hb hts (z_memU u4) hown hK.1 hS f4_3 (by decide) (zkd_of (rfl : zcd wC 86 = 38) rfl) (zrf_of (rfl : zcd wC 86 = 38) rfl) (Or.inl (hts _ (z_mem k215))) dX4_add_34 ?_
            refine lv_aload_n hx hb dX4_add_37 rfl (lv_at hl 1 rfl) ?_
            refine w_geti hx hb hts (z_memU u4) hown hK.1 hS f4_0 (by decide) (zkd_of (rfl : zcd wC 86 = 38) rfl) (Or.inl (hts _ (z_mem k210))) dX4_add_38 ?_
            obtain ⟨o22, h⟩ := h
            refine w_aald (n := 5) (i := (sI (M3 86 0))) (j2 := (89 + 1 * (sI (M3 86 0)).toNat)) hx hb hK.1 (t0 := 7) (r := 7) (by decide) rfl rfl hS (by decide) (zkd_of (rfl : zcd wC 88 = 40) rfl) (zln_of (rfl : zcd wC 88 = 40) rfl) rfl o22.1 o22.2 (by decide) (zrf_of (rfl : zcd wC 88 = 40) rfl) dX4_add_41 ?_
            obtain ⟨lt23, cd24⟩ : (89 + 1 * (sI (M3 86 0)).toNat) < nC ∧ zcd wC (89 + 1 * (sI (M3 86 0)).toNat) = 41 := (by decide : ∀ k : Nat, k < 5 → (89 + 1 * k) < nC ∧ zcd wC (89 + 1 * k) = 41) (sI (M3 86 0)).toNat (by clear h; have h0 := o22.1; have h1 := o22.2; omega)
            refine lv_iload_n hx hb dX4_add_42 rfl (lv_at hl 4 rfl) ?_
            refine lv_iload hx hb dX4_add_43 (lv_at hl 0 rfl) ?_
            obtain ⟨o25, h⟩ := h
            refine w_iast (z := z18) (n := 8) (i := (sI x2)) hx hb hK.1 (t0 := 0) rfl hS hS0 lt23 (zkd_of cd24 rfl) (zln_of cd24 rfl) rfl o25.1 o25.2 (by decide) dX4_add_45 (fun H locs hS hS0 => ?_)
            obtain ⟨M26, e27⟩ : ∃ M26 : zM, M26 = zup M3 (89 + 1 * (sI (M3 86 0)).toNat) (sI x2).toNat z18 := ⟨_, rfl⟩
            rw [← e27] at hS
            have h := h M26 e27
            refine z_iinc (lv' := [(3, .int (iI (x2 + 1))), (4, .int (iI z18)), (0, .ref (b + 86)), (1, .int (iI a0)), (2, .int (iI a1))]) hx hb dX4_add_46 hl (k := 4) rfl (by decide) rfl (fun ls hl => ?_)
            refine lv_goto (tgt := 12) hx hb dX4_add_49 (by decide) ?_
            obtain ⟨n28, h29, h⟩ := h
            exact i10 n28 h29 (x2 + 1) M26 _ _ _ h hS hS0 (lv_sub hl [2, 3, 4, 0] rfl)
          · skip
            have h := h.2 c21
            refine z_iconst hx hb dX4_add_31 ?_
            exact w_iret hx hb hr hlocks hS hS0 (sI_of (by decide)) h dX4_add_32
    exact L8 n5 0 M _ _ _ h6 hS hS0 (lv_sub hl [1, 2, 3, 0] rfl)
  · skip
    have h := h.2 c1
    refine z_iconst hx hb dX4_add_8 ?_
    exact w_iret hx hb hr hlocks hS hS0 (sI_of (by decide)) h dX4_add_9

set_option maxRecDepth 100000 in
def wC_piece (a0 : Int) (a1 : Int) (M : zM) (Q : Int → zM → Prop) : Prop := wC_within a1 1 8 M (fun z2 => (z2 = 0 → Q (-1) M) ∧ (z2 ≠ 0 → wC_Pieces_add a0 a1 M (fun z7 M6 => Q z7 M6)))
set_option maxHeartbeats 4000000 in
set_option maxRecDepth 100000 in
theorem cC_piece (l : Launch) (D : va_G) (dA : Nat → ClassId) (b : Nat) (M : zM) (a0 : Int) (a1 : Int)  (Q : Int → zM → Prop) (h : wC_piece a0 a1 M Q) : Met l yX11_piece (.code yX11_piece cX11_piece 3 (some .int) :: zt) (z_rm 2) (va_Pc [.ref (b + 0), .int (iI a0), .int (iI a1)] (wPre D dA vwCl (z_tys dA) wC nC b M)) (va_Qi (wQi Q) (zB D dA vwCl wC nC b) (zA nC b)) 0 0 (zA nC b) := by
  unfold wC_piece at h
  refine Met.ofW (cc := cX11_piece) (maxL := 3) (ret := (some .int)) (by decide) rfl ?_
  intro p e s m args below meth c s₁ B hml hv
  obtain ⟨hargs, hS, hK⟩ := hv
  have hx := B.exec
  have hb := B.bytes
  have hr := B.returns
  have hts := atoms_spec (ws := .code yX11_piece cX11_piece 3 (some .int) :: zt) B.pre
  have hown : s.vm.findClass RX11 = some m.cls := findClass_of_methodNamed B.named
  have hlocks := B.notSynchronized
  have hS0 : va_S (zA nC b) s.heap s.heap [] := va_S.rf
  have hl := lv_entry ([.ref (b + 0), .int (iI a0), .int (iI a1)]) (n := 3) (Nat.le_of_ble_eq_true rfl)
  have hent : entryFrame m args 3 = F0 m 0 ((lg_sl ([.ref (b + 0), .int (iI a0), .int (iI a1)]) ++ List.replicate (3 - (lg_sl ([.ref (b + 0), .int (iI a0), .int (iI a1)])).length) Slot.unset).toArray) [] := by rw [hargs]; exact lg_entry_eq m ([.ref (b + 0), .int (iI a0), .int (iI a1)]) 3
  rw [hent]
  generalize (lg_sl ([.ref (b + 0), .int (iI a0), .int (iI a1)]) ++ List.replicate (3 - (lg_sl ([.ref (b + 0), .int (iI a0), .int (iI a1)])).length) Slot.unset).toArray = ls at hl ⊢
  have hl : lv_has ls 3 [(0, .ref (b + 0)), (1, .int (iI a0)), (2, .int (iI a1))] := hl
  refine lv_iload_n hx hb dX11_piece_0 rfl (lv_at hl 2 rfl) ?_
  refine z_iconst hx hb dX11_piece_1 ?_
  refine z_bipush hx hb (by decide) dX11_piece_2 ?_
  refine w_callz (va_runS (As := [.int (iI a1), .int (iI 1), .int (iI 8)]) (rest := []) ⟨hx, hb, hml, hown, hts⟩ (cC_within l D dA b M a1 1 8 _ h) (va_cwS 3 hts (z_gS k382 k383 k1 k384) rfl rfl rfl dm_X11_within.2 ⟨Nat.le_of_ble_eq_true rfl, Nat.le_of_ble_eq_true rfl⟩) ⟨wPre_blind, w_pre hS hK⟩ rfl rfl hl.1 rfl (lv_room (Nat.le_of_ble_eq_true rfl)) dX11_piece_4 ⟨Nat.le_refl _, Nat.le_refl _⟩) hS0 (fun z2 M1 H locs r3 h hS hS0 => ?_)
  obtain ⟨e4, h⟩ := h
  rw [e4] at hS
  refine w_if_eq (tgt := 22) hx hb (sI_01 r3) dX11_piece_7 (by decide) (fun c5 => ?_) (fun c5 => ?_)
  · skip
    have h := h.1 c5
    refine z_iconst hx hb dX11_piece_22 ?_
    exact w_iret hx hb hr hlocks hS hS0 (sI_of (by decide)) h dX11_piece_23
  · skip
    have h := h.2 c5
    refine lv_aload_n hx hb dX11_piece_10 rfl (lv_at hl 0 rfl) ?_
    refine w_getr (j2 := 86) hx hb hts (z_memU u11) hown hK.1 hS f11_7 (by decide) (zkd_of (rfl : zcd wC 0 = 0) rfl) (zrf_of (rfl : zcd wC 0 = 0) rfl) (Or.inl (hts _ (z_mem k249))) dX11_piece_11 ?_
    refine lv_iload_n hx hb dX11_piece_14 rfl (lv_at hl 1 rfl) ?_
    refine lv_iload_n hx hb dX11_piece_15 rfl (lv_at hl 2 rfl) ?_
    refine w_calli (va_runV (As := [.int (iI a0), .int (iI a1)]) (rest := []) ⟨hx, hb, hml, hown, hts⟩ (cC_Pieces_add l D dA b M a0 a1 _ h) (cwV 2 hts (z_gV k798 k799 k800 k12 k801) rfl rfl rfl dm_X4_add ⟨Nat.le_of_ble_eq_true rfl, Nat.le_of_ble_eq_true rfl⟩) ⟨wPre_blind, (w_recv hS hK.1 (by decide) (zkd_of (rfl : zcd wC 86 = 38) rfl) (by decide) (rfl : vwCl[4]? = some (RX4, TX4, 6))), w_pre hS hK⟩ rfl rfl hl.1 rfl (lv_room (Nat.le_of_ble_eq_true rfl)) dX11_piece_16 ⟨Nat.le_refl _, Nat.le_refl _⟩) hS0 (fun z7 M6 H locs r8 h hS hS0 => ?_)
    refine lv_goto (tgt := 23) hx hb dX11_piece_19 (by decide) ?_
    exact w_iret hx hb hr hlocks hS hS0 (sI_of r8) h dX11_piece_23

set_option maxRecDepth 100000 in
def wC_burn  (M : zM) (Q : Int → zM → Prop) : Prop := (∀ M1 : zM, M1 = zup M 86 0 0 → Q (sI (M 86 0)) M1)
set_option maxHeartbeats 4000000 in
set_option maxRecDepth 100000 in
theorem cC_burn (l : Launch) (D : va_G) (dA : Nat → ClassId) (b : Nat) (M : zM)   (Q : Int → zM → Prop) (h : wC_burn  M Q) : Met l yX11_burn (.code yX11_burn cX11_burn 2 (some .int) :: zt) (z_rm 0) (va_Pc [.ref (b + 0)] (wPre D dA vwCl (z_tys dA) wC nC b M)) (va_Qi (wQi Q) (zB D dA vwCl wC nC b) (zA nC b)) 0 0 (zA nC b) := by
  unfold wC_burn at h
  refine Met.ofW (cc := cX11_burn) (maxL := 2) (ret := (some .int)) (by decide) rfl ?_
  intro p e s m args below meth c s₁ B hml hv
  obtain ⟨hargs, hS, hK⟩ := hv
  have hx := B.exec
  have hb := B.bytes
  have hr := B.returns
  have hts := atoms_spec (ws := .code yX11_burn cX11_burn 2 (some .int) :: zt) B.pre
  have hown : s.vm.findClass RX11 = some m.cls := findClass_of_methodNamed B.named
  have hlocks := B.notSynchronized
  have hS0 : va_S (zA nC b) s.heap s.heap [] := va_S.rf
  have hl := lv_entry ([.ref (b + 0)]) (n := 2) (Nat.le_of_ble_eq_true rfl)
  have hent : entryFrame m args 2 = F0 m 0 ((lg_sl ([.ref (b + 0)]) ++ List.replicate (2 - (lg_sl ([.ref (b + 0)])).length) Slot.unset).toArray) [] := by rw [hargs]; exact lg_entry_eq m ([.ref (b + 0)]) 2
  rw [hent]
  generalize (lg_sl ([.ref (b + 0)]) ++ List.replicate (2 - (lg_sl ([.ref (b + 0)])).length) Slot.unset).toArray = ls at hl ⊢
  have hl : lv_has ls 2 [(0, .ref (b + 0))] := hl
  refine lv_aload_n hx hb dX11_burn_0 rfl (lv_at hl 0 rfl) ?_
  refine w_getr (j2 := 86) hx hb hts (z_memU u11) hown hK.1 hS f11_7 (by decide) (zkd_of (rfl : zcd wC 0 = 0) rfl) (zrf_of (rfl : zcd wC 0 = 0) rfl) (Or.inl (hts _ (z_mem k249))) dX11_burn_1 ?_
  refine w_geti hx hb hts (z_memU u4) hown hK.1 hS f4_0 (by decide) (zkd_of (rfl : zcd wC 86 = 38) rfl) (Or.inl (hts _ (z_mem k211))) dX11_burn_4 ?_
  refine lv_istore_n (lv' := [(1, .int (iI (M 86 0))), (0, .ref (b + 0))]) hx hb dX11_burn_7 rfl hl (by decide) rfl (fun ls hl => ?_)
  refine lv_aload_n hx hb dX11_burn_8 rfl (lv_at hl 1 rfl) ?_
  refine w_getr (j2 := 86) hx hb hts (z_memU u11) hown hK.1 hS f11_7 (by decide) (zkd_of (rfl : zcd wC 0 = 0) rfl) (zrf_of (rfl : zcd wC 0 = 0) rfl) (Or.inl (hts _ (z_mem k249))) dX11_burn_9 ?_
  refine z_iconst hx hb dX11_burn_12 ?_
  refine w_puti hx hb hts (z_memU u4) tyX4 tyX4_ok nmX4 hown hK.1 hS hS0 f4_0 (by decide) (zkd_of (rfl : zcd wC 86 = 38) rfl) (Or.inl (hts _ (z_mem k211))) rfl (z := 0) (by decide +kernel) dX11_burn_13 (fun H locs hS hS0 => ?_)
  obtain ⟨M1, e2⟩ : ∃ M1 : zM, M1 = zup M 86 0 0 := ⟨_, rfl⟩
  rw [← e2] at hS
  have h := h M1 e2
  refine lv_iload_n hx hb dX11_burn_16 rfl (lv_at hl 0 rfl) ?_
  exact w_iret hx hb hr hlocks hS hS0 rfl h dX11_burn_17

set_option maxRecDepth 100000 in
def wC_Pieces_laidIsLess (a0 : Int) (M : zM) (Q : Int → Prop) : Prop := pL1 (fun K2 x1 => ((sI a0) ≤ (sI x1) → Q 0) ∧ ((sI x1) < (sI a0) → ((0 ≤ (sI x1) ∧ (sI x1) < 40) ∧ ((0 ≤ (sI x1) ∧ (sI x1) < 40) ∧ ((sI (M 95 (sI x1).toNat)) = (sI (M 87 (sI x1).toNat)) → K2 (x1 + 1)) ∧ ((sI (M 95 (sI x1).toNat)) ≠ (sI (M 87 (sI x1).toNat)) → ((0 ≤ (sI x1) ∧ (sI x1) < 40) ∧ ((0 ≤ (sI x1) ∧ (sI x1) < 40) ∧ ((sI (M 87 (sI x1).toNat)) ≤ (sI (M 95 (sI x1).toNat)) → Q 0) ∧ ((sI (M 95 (sI x1).toNat)) < (sI (M 87 (sI x1).toNat)) → Q 1)))))))) 0
set_option maxHeartbeats 4000000 in
set_option maxRecDepth 100000 in
theorem cC_Pieces_laidIsLess (l : Launch) (D : va_G) (dA : Nat → ClassId) (b : Nat) (M : zM) (a0 : Int)  (Q : Int → Prop) (h : wC_Pieces_laidIsLess a0 M Q) : Met l yX4_laidIsLess (.code yX4_laidIsLess cX4_laidIsLess 3 (some .boolean) :: zt) (z_rm 0) (va_Pc [.ref (b + 86), .int (iI a0)] (wPre D dA vwCl (z_tys dA) wC nC b M)) (va_Qi (wQz (fun z9 u9 => u9 = M ∧ Q z9)) (zB D dA vwCl wC nC b) (zA nC b)) 0 0 (zA nC b) := by
  unfold wC_Pieces_laidIsLess at h
  refine Met.ofW (cc := cX4_laidIsLess) (maxL := 3) (ret := (some .boolean)) (by decide) rfl ?_
  intro p e s m args below meth c s₁ B hml hv
  obtain ⟨hargs, hS, hK⟩ := hv
  have hx := B.exec
  have hb := B.bytes
  have hr := B.returns
  have hts := atoms_spec (ws := .code yX4_laidIsLess cX4_laidIsLess 3 (some .boolean) :: zt) B.pre
  have hown : s.vm.findClass RX4 = some m.cls := findClass_of_methodNamed B.named
  have hlocks := B.notSynchronized
  have hS0 : va_S (zA nC b) s.heap s.heap [] := va_S.rf
  have hl := lv_entry ([.ref (b + 86), .int (iI a0)]) (n := 3) (Nat.le_of_ble_eq_true rfl)
  have hent : entryFrame m args 3 = F0 m 0 ((lg_sl ([.ref (b + 86), .int (iI a0)]) ++ List.replicate (3 - (lg_sl ([.ref (b + 86), .int (iI a0)])).length) Slot.unset).toArray) [] := by rw [hargs]; exact lg_entry_eq m ([.ref (b + 86), .int (iI a0)]) 3
  rw [hent]
  generalize (lg_sl ([.ref (b + 86), .int (iI a0)]) ++ List.replicate (3 - (lg_sl ([.ref (b + 86), .int (iI a0)])).length) Slot.unset).toArray = ls at hl ⊢
  have hl : lv_has ls 3 [(0, .ref (b + 86)), (1, .int (iI a0))] := hl
  refine z_iconst hx hb dX4_laidIsLess_0 ?_
  refine lv_istore_n (lv' := [(2, .int (iI 0)), (0, .ref (b + 86)), (1, .int (iI a0))]) hx hb dX4_laidIsLess_1 rfl hl (by decide) rfl (fun ls hl => ?_)
  obtain ⟨I2, ⟨n3, h4⟩, h5⟩ := h
  have L6 : ∀ (n7 : Nat) (x1 : Int) (H : Heap) (locs : List Loc) (ls : Array Slot), I2 n7 x1 → zR D dA vwCl wC nC b M H → va_S (zA nC b) s.heap H locs → lv_has ls 3 [(0, .ref (b + 86)), (1, .int (iI a0)), (2, .int (iI x1))] → W p l e (headSpec (.code yX4_laidIsLess cX4_laidIsLess 3 (some .boolean) :: zt) (z_rm 0)).room s m args below meth c H locs 0 0 (MQ below (va_Qi (wQz (fun z9 u9 => u9 = M ∧ Q z9)) (zB D dA vwCl wC nC b) (zA nC b)) args s 0 0 (zA nC b)) (F0 m 2 ls []) := by
    intro n7
    induction n7 using Nat.strongRecOn with
    | ind n7 i8 =>
      intro x1 H locs ls h hS hS0 hl
      have h := h5 n7 x1 h
      refine lv_iload_n hx hb dX4_laidIsLess_2 rfl (lv_at hl 2 rfl) ?_
      refine lv_iload_n hx hb dX4_laidIsLess_3 rfl (lv_at hl 1 rfl) ?_
      refine w_icmp_ge (tgt := 49) hx hb rfl rfl dX4_laidIsLess_4 (by decide) (fun c9 => ?_) (fun c9 => ?_)
      · skip
        have h := h.1 c9
        refine z_iconst hx hb dX4_laidIsLess_49 ?_
        exact w_zret hx hb hr hlocks hS hS0 (sI_of (by decide)) (by decide) ⟨rfl, h⟩ dX4_laidIsLess_50
      · skip
        have h := h.2 c9
        refine lv_aload_n hx hb dX4_laidIsLess_7 rfl (lv_at hl 0 rfl) ?_
        refine w_getr (j2 := 95) hx hb hts (z_memU u4) hown hK.1 hS f4_5 (by decide) (zkd_of (rfl : zcd wC 86 = 38) rfl) (zrf_of (rfl : zcd wC 86 = 38) rfl) (Or.inl (hts _ (z_mem k217))) dX4_laidIsLess_8 ?_
        refine lv_iload_n hx hb dX4_laidIsLess_11 rfl (lv_at hl 2 rfl) ?_
        obtain ⟨o10, h⟩ := h
        refine w_iald (n := 40) (i := (sI x1)) hx hb hK.1 (t0 := 0) rfl hS (by decide) (zkd_of (rfl : zcd wC 95 = 43) rfl) (zln_of (rfl : zcd wC 95 = 43) rfl) rfl o10.1 o10.2 (by decide) dX4_laidIsLess_12 ?_
        refine lv_aload_n hx hb dX4_laidIsLess_13 rfl (lv_at hl 0 rfl) ?_
        refine w_getr (j2 := 87) hx hb hts (z_memU u4) hown hK.1 hS f4_1 (by decide) (zkd_of (rfl : zcd wC 86 = 38) rfl) (zrf_of (rfl : zcd wC 86 = 38) rfl) (Or.inl (hts _ (z_mem k212))) dX4_laidIsLess_14 ?_
        refine lv_iload_n hx hb dX4_laidIsLess_17 rfl (lv_at hl 2 rfl) ?_
        obtain ⟨o11, h⟩ := h
        refine w_iald (n := 40) (i := (sI x1)) hx hb hK.1 (t0 := 0) rfl hS (by decide) (zkd_of (rfl : zcd wC 87 = 39) rfl) (zln_of (rfl : zcd wC 87 = 39) rfl) rfl o11.1 o11.2 (by decide) dX4_laidIsLess_18 ?_
        refine w_icmp_eq (tgt := 43) hx hb rfl rfl dX4_laidIsLess_19 (by decide) (fun c12 => ?_) (fun c12 => ?_)
        · skip
          have h := h.1 c12
          refine z_iinc (lv' := [(2, .int (iI (x1 + 1))), (0, .ref (b + 86)), (1, .int (iI a0))]) hx hb dX4_laidIsLess_43 hl (k := 2) rfl (by decide) rfl (fun ls hl => ?_)
          refine lv_goto (tgt := 2) hx hb dX4_laidIsLess_46 (by decide) ?_
          obtain ⟨n13, h14, h⟩ := h
          exact i8 n13 h14 (x1 + 1) _ _ _ h hS hS0 (lv_sub hl [1, 2, 0] rfl)
        · skip
          have h := h.2 c12
          refine lv_aload_n hx hb dX4_laidIsLess_22 rfl (lv_at hl 0 rfl) ?_
          refine w_getr (j2 := 95) hx hb hts (z_memU u4) hown hK.1 hS f4_5 (by decide) (zkd_of (rfl : zcd wC 86 = 38) rfl) (zrf_of (rfl : zcd wC 86 = 38) rfl) (Or.inl (hts _ (z_mem k217))) dX4_laidIsLess_23 ?_
          refine lv_iload_n hx hb dX4_laidIsLess_26 rfl (lv_at hl 2 rfl) ?_
          obtain ⟨o15, h⟩ := h
          refine w_iald (n := 40) (i := (sI x1)) hx hb hK.1 (t0 := 0) rfl hS (by decide) (zkd_of (rfl : zcd wC 95 = 43) rfl) (zln_of (rfl : zcd wC 95 = 43) rfl) rfl o15.1 o15.2 (by decide) dX4_laidIsLess_27 ?_
          refine lv_aload_n hx hb dX4_laidIsLess_28 rfl (lv_at hl 0 rfl) ?_
          refine w_getr (j2 := 87) hx hb hts (z_memU u4) hown hK.1 hS f4_1 (by decide) (zkd_of (rfl : zcd wC 86 = 38) rfl) (zrf_of (rfl : zcd wC 86 = 38) rfl) (Or.inl (hts _ (z_mem k212))) dX4_laidIsLess_29 ?_
          refine lv_iload_n hx hb dX4_laidIsLess_32 rfl (lv_at hl 2 rfl) ?_
          obtain ⟨o16, h⟩ := h
          refine w_iald (n := 40) (i := (sI x1)) hx hb hK.1 (t0 := 0) rfl hS (by decide) (zkd_of (rfl : zcd wC 87 = 39) rfl) (zln_of (rfl : zcd wC 87 = 39) rfl) rfl o16.1 o16.2 (by decide) dX4_laidIsLess_33 ?_
          refine w_icmp_ge (tgt := 41) hx hb rfl rfl dX4_laidIsLess_34 (by decide) (fun c17 => ?_) (fun c17 => ?_)
          · skip
            have h := h.1 c17
            refine z_iconst hx hb dX4_laidIsLess_41 ?_
            exact w_zret hx hb hr hlocks hS hS0 (sI_of (by decide)) (by decide) ⟨rfl, h⟩ dX4_laidIsLess_42
          · skip
            have h := h.2 c17
            refine z_iconst hx hb dX4_laidIsLess_37 ?_
            refine lv_goto (tgt := 42) hx hb dX4_laidIsLess_38 (by decide) ?_
            exact w_zret hx hb hr hlocks hS hS0 (sI_of (by decide)) (by decide) ⟨rfl, h⟩ dX4_laidIsLess_42
  exact L6 n3 0 _ _ _ h4 hS hS0 (lv_sub hl [1, 2, 0] rfl)

set_option maxRecDepth 100000 in
def wC_Pieces_keepBetter (a0 : Int) (M : zM) (Q : zM → Prop) : Prop := pJ0 (fun J24 => ((sI a0) < (sI (M 86 2)) → J24) ∧ ((sI (M 86 2)) ≤ (sI a0) → ((sI a0) ≠ (sI (M 86 2)) → Q M) ∧ ((sI a0) = (sI (M 86 2)) → wC_Pieces_laidIsLess a0 M (fun z20 => (z20 = 0 → Q M) ∧ (z20 ≠ 0 → J24))))) ((∀ M10 : zM, M10 = zup M 86 2 a0 → ((0 ≤ (sI a0)) ∧ ((0 + (sI a0) ≤ 40) ∧ ((0 + (sI a0) ≤ 40) ∧ (∀ M15 : zM, M15 = zcp M10 95 87 (0 : Int).toNat (0 : Int).toNat ((sI a0) : Int).toNat → Q M15))))))
set_option maxHeartbeats 4000000 in
set_option maxRecDepth 100000 in
theorem cC_Pieces_keepBetter (l : Launch) (D : va_G) (dA : Nat → ClassId) (b : Nat) (M : zM) (a0 : Int)  (Q : zM → Prop) (h : wC_Pieces_keepBetter a0 M Q) : Met l yX4_keepBetter (.code yX4_keepBetter cX4_keepBetter 2 none :: zt) (z_rm 1) (va_Pc [.ref (b + 86), .int (iI a0)] (wPre D dA vwCl (z_tys dA) wC nC b M)) (va_Qv (wQv Q) (zB D dA vwCl wC nC b) (zA nC b)) 0 0 (zA nC b) := by
  unfold wC_Pieces_keepBetter at h
  refine Met.ofW (cc := cX4_keepBetter) (maxL := 2) (ret := none) (by decide) rfl ?_
  intro p e s m args below meth c s₁ B hml hv
  obtain ⟨hargs, hS, hK⟩ := hv
  have hx := B.exec
  have hb := B.bytes
  have hr := B.returns
  have hts := atoms_spec (ws := .code yX4_keepBetter cX4_keepBetter 2 none :: zt) B.pre
  have hown : s.vm.findClass RX4 = some m.cls := findClass_of_methodNamed B.named
  have hlocks := B.notSynchronized
  have hS0 : va_S (zA nC b) s.heap s.heap [] := va_S.rf
  have hl := lv_entry ([.ref (b + 86), .int (iI a0)]) (n := 2) (Nat.le_of_ble_eq_true rfl)
  have hent : entryFrame m args 2 = F0 m 0 ((lg_sl ([.ref (b + 86), .int (iI a0)]) ++ List.replicate (2 - (lg_sl ([.ref (b + 86), .int (iI a0)])).length) Slot.unset).toArray) [] := by rw [hargs]; exact lg_entry_eq m ([.ref (b + 86), .int (iI a0)]) 2
  rw [hent]
  generalize (lg_sl ([.ref (b + 86), .int (iI a0)]) ++ List.replicate (2 - (lg_sl ([.ref (b + 86), .int (iI a0)])).length) Slot.unset).toArray = ls at hl ⊢
  have hl : lv_has ls 2 [(0, .ref (b + 86)), (1, .int (iI a0))] := hl
  refine lv_iload_n hx hb dX4_keepBetter_0 rfl (lv_at hl 1 rfl) ?_
  refine lv_aload_n hx hb dX4_keepBetter_1 rfl (lv_at hl 0 rfl) ?_
  refine w_geti hx hb hts (z_memU u4) hown hK.1 hS f4_2 (by decide) (zkd_of (rfl : zcd wC 86 = 38) rfl) (Or.inl (hts _ (z_mem k214))) dX4_keepBetter_2 ?_
  obtain ⟨J24, B9, h⟩ := h
  have L8 : ∀ (H : Heap) (locs : List Loc) (ls : Array Slot), J24 → zR D dA vwCl wC nC b M H → va_S (zA nC b) s.heap H locs → lv_has ls 2 [(0, .ref (b + 86)), (1, .int (iI a0))] → W p l e (headSpec (.code yX4_keepBetter cX4_keepBetter 2 none :: zt) (z_rm 1)).room s m args below meth c H locs 0 0 (MQ below (va_Qv (wQv Q) (zB D dA vwCl wC nC b) (zA nC b)) args s 0 0 (zA nC b)) (F0 m 24 ls []) := by
    intro  H locs ls h hS hS0 hl
    have h := B9 h
    refine lv_aload_n hx hb dX4_keepBetter_24 rfl (lv_at hl 0 rfl) ?_
    refine lv_iload_n hx hb dX4_keepBetter_25 rfl (lv_at hl 1 rfl) ?_
    refine w_puti hx hb hts (z_memU u4) tyX4 tyX4_ok nmX4 hown hK.1 hS hS0 f4_2 (by decide) (zkd_of (rfl : zcd wC 86 = 38) rfl) (Or.inl (hts _ (z_mem k214))) rfl (z := a0) (by decide +kernel) dX4_keepBetter_26 (fun H locs hS hS0 => ?_)
    obtain ⟨M10, e11⟩ : ∃ M10 : zM, M10 = zup M 86 2 a0 := ⟨_, rfl⟩
    rw [← e11] at hS
    have h := h M10 e11
    refine lv_aload_n hx hb dX4_keepBetter_29 rfl (lv_at hl 0 rfl) ?_
    refine w_getr (j2 := 95) hx hb hts (z_memU u4) hown hK.1 hS f4_5 (by decide) (zkd_of (rfl : zcd wC 86 = 38) rfl) (zrf_of (rfl : zcd wC 86 = 38) rfl) (Or.inl (hts _ (z_mem k217))) dX4_keepBetter_30 ?_
    refine z_iconst hx hb dX4_keepBetter_33 ?_
    refine lv_aload_n hx hb dX4_keepBetter_34 rfl (lv_at hl 0 rfl) ?_
    refine w_getr (j2 := 87) hx hb hts (z_memU u4) hown hK.1 hS f4_1 (by decide) (zkd_of (rfl : zcd wC 86 = 38) rfl) (zrf_of (rfl : zcd wC 86 = 38) rfl) (Or.inl (hts _ (z_mem k212))) dX4_keepBetter_35 ?_
    refine z_iconst hx hb dX4_keepBetter_38 ?_
    refine lv_iload_n hx hb dX4_keepBetter_39 rfl (lv_at hl 1 rfl) ?_
    obtain ⟨o12, h⟩ := h
    obtain ⟨o13, h⟩ := h
    obtain ⟨o14, h⟩ := h
    refine w_acopy (n0 := 40) (n1 := 40) (sp := 0) (dp := 0) (n := (sI a0)) hx hb (hml.trans hl.1.symm) hown (hts _ (z_mem k826)) (hts _ (z_mem k366)) (hts _ (z_mem k365)) (hts _ (z_mem k16)) hK.1 (t0 := 0) rfl hS hS0 (by decide) (by decide) (by decide) (zkd_of (rfl : zcd wC 95 = 43) rfl) (zkd_of (rfl : zcd wC 87 = 39) rfl) (zln_of (rfl : zcd wC 95 = 43) rfl) (zln_of (rfl : zcd wC 87 = 39) rfl) (by decide) (by decide) (sI_of (by decide)) (sI_of (by decide)) rfl (by decide) (by decide) o12 o13 o14 (by exact Nat.le_of_ble_eq_true rfl) (by exact Nat.le_of_ble_eq_true rfl) dX4_keepBetter_40 (fun H locs hS hS0 => ?_)
    obtain ⟨M15, e16⟩ : ∃ M15 : zM, M15 = zcp M10 95 87 (0 : Int).toNat (0 : Int).toNat ((sI a0) : Int).toNat := ⟨_, rfl⟩
    rw [← e16] at hS
    have h := h M15 e16
    exact w_vret hx hb hr hlocks hS hS0 h dX4_keepBetter_43
  refine w_icmp_lt (tgt := 24) hx hb rfl rfl dX4_keepBetter_5 (by decide) (fun c17 => ?_) (fun c17 => ?_)
  · skip
    have h := h.1 c17
    exact L8 _ _ _ h hS hS0 (lv_sub hl [0, 1] rfl)
  · skip
    have h := h.2 c17
    refine lv_iload_n hx hb dX4_keepBetter_8 rfl (lv_at hl 1 rfl) ?_
    refine lv_aload_n hx hb dX4_keepBetter_9 rfl (lv_at hl 0 rfl) ?_
    refine w_geti hx hb hts (z_memU u4) hown hK.1 hS f4_2 (by decide) (zkd_of (rfl : zcd wC 86 = 38) rfl) (Or.inl (hts _ (z_mem k214))) dX4_keepBetter_10 ?_
    refine w_icmp_ne (tgt := 43) hx hb rfl rfl dX4_keepBetter_13 (by decide) (fun c18 => ?_) (fun c18 => ?_)
    · skip
      have h := h.1 c18
      exact w_vret hx hb hr hlocks hS hS0 h dX4_keepBetter_43
    · skip
      have h := h.2 c18
      refine lv_aload_n hx hb dX4_keepBetter_16 rfl (lv_at hl 0 rfl) ?_
      refine lv_iload_n hx hb dX4_keepBetter_17 rfl (lv_at hl 1 rfl) ?_
      refine w_callz (va_runV (As := [.int (iI a0)]) (rest := []) ⟨hx, hb, hml, hown, hts⟩ (cC_Pieces_laidIsLess l D dA b M a0 _ h) (cwV 1 hts (z_gV k823 k824 k1385 k12 k825) rfl rfl rfl dm_X4_laidIsLess ⟨Nat.le_of_ble_eq_true rfl, Nat.le_of_ble_eq_true rfl⟩) ⟨wPre_blind, (w_recv hS hK.1 (by decide) (zkd_of (rfl : zcd wC 86 = 38) rfl) (by decide) (rfl : vwCl[4]? = some (RX4, TX4, 6))), w_pre hS hK⟩ rfl rfl hl.1 rfl (lv_room (Nat.le_of_ble_eq_true rfl)) dX4_keepBetter_18 ⟨Nat.le_refl _, Nat.le_refl _⟩) hS0 (fun z20 M19 H locs r21 h hS hS0 => ?_)
      obtain ⟨e22, h⟩ := h
      rw [e22] at hS
      refine w_if_eq (tgt := 43) hx hb (sI_01 r21) dX4_keepBetter_21 (by decide) (fun c23 => ?_) (fun c23 => ?_)
      · skip
        have h := h.1 c23
        exact w_vret hx hb hr hlocks hS hS0 h dX4_keepBetter_43
      · skip
        have h := h.2 c23
        exact L8 _ _ _ h hS hS0 (lv_sub hl [0, 1] rfl)

set_option maxRecDepth 100000 in
def wC_Pieces_sound (a0 : Int) (a1 : Int) (a2 : Int) (M : zM) (Q : Int → Prop) : Prop := ((0 ≤ (sI a0) ∧ (sI a0) < 5) ∧ ((sI a1) = 0 → ((0 ≤ (sI a2) ∧ (sI a2) < 8) ∧ Q (sI (M (89 + 1 * (sI a0).toNat) (sI a2).toNat)))) ∧ ((sI a1) ≠ 0 → ((0 ≤ (sI a0) ∧ (sI a0) < 5) ∧ ((0 ≤ (sI (((M 94 (sI a0).toNat) - 1) - a2)) ∧ (sI (((M 94 (sI a0).toNat) - 1) - a2)) < 8) ∧ Q (sI (M (89 + 1 * (sI a0).toNat) (sI (((M 94 (sI a0).toNat) - 1) - a2)).toNat))))))
set_option maxHeartbeats 4000000 in
set_option maxRecDepth 100000 in
theorem cC_Pieces_sound (l : Launch) (D : va_G) (dA : Nat → ClassId) (b : Nat) (M : zM) (a0 : Int) (a1 : Int) (a2 : Int)  (Q : Int → Prop) (h : wC_Pieces_sound a0 a1 a2 M Q) : Met l yX4_sound (.code yX4_sound cX4_sound 4 (some .int) :: zt) (z_rm 0) (va_Pc [.ref (b + 86), .int (iI a0), .int (iI a1), .int (iI a2)] (wPre D dA vwCl (z_tys dA) wC nC b M)) (va_Qi (wQi (fun z9 u9 => u9 = M ∧ Q z9)) (zB D dA vwCl wC nC b) (zA nC b)) 0 0 (zA nC b) := by
  unfold wC_Pieces_sound at h
  refine Met.ofW (cc := cX4_sound) (maxL := 4) (ret := (some .int)) (by decide) rfl ?_
  intro p e s m args below meth c s₁ B hml hv
  obtain ⟨hargs, hS, hK⟩ := hv
  have hx := B.exec
  have hb := B.bytes
  have hr := B.returns
  have hts := atoms_spec (ws := .code yX4_sound cX4_sound 4 (some .int) :: zt) B.pre
  have hown : s.vm.findClass RX4 = some m.cls := findClass_of_methodNamed B.named
  have hlocks := B.notSynchronized
  have hS0 : va_S (zA nC b) s.heap s.heap [] := va_S.rf
  have hl := lv_entry ([.ref (b + 86), .int (iI a0), .int (iI a1), .int (iI a2)]) (n := 4) (Nat.le_of_ble_eq_true rfl)
  have hent : entryFrame m args 4 = F0 m 0 ((lg_sl ([.ref (b + 86), .int (iI a0), .int (iI a1), .int (iI a2)]) ++ List.replicate (4 - (lg_sl ([.ref (b + 86), .int (iI a0), .int (iI a1), .int (iI a2)])).length) Slot.unset).toArray) [] := by rw [hargs]; exact lg_entry_eq m ([.ref (b + 86), .int (iI a0), .int (iI a1), .int (iI a2)]) 4
  rw [hent]
  generalize (lg_sl ([.ref (b + 86), .int (iI a0), .int (iI a1), .int (iI a2)]) ++ List.replicate (4 - (lg_sl ([.ref (b + 86), .int (iI a0), .int (iI a1), .int (iI a2)])).length) Slot.unset).toArray = ls at hl ⊢
  have hl : lv_has ls 4 [(0, .ref (b + 86)), (1, .int (iI a0)), (2, .int (iI a1)), (3, .int (iI a2))] := hl
  refine lv_aload_n hx hb dX4_sound_0 rfl (lv_at hl 0 rfl) ?_
  refine w_getr (j2 := 88) hx hb hts (z_memU u4) hown hK.1 hS f4_3 (by decide) (zkd_of (rfl : zcd wC 86 = 38) rfl) (zrf_of (rfl : zcd wC 86 = 38) rfl) (Or.inl (hts _ (z_mem k215))) dX4_sound_1 ?_
  refine lv_iload_n hx hb dX4_sound_4 rfl (lv_at hl 1 rfl) ?_
  obtain ⟨o1, h⟩ := h
  refine w_aald (n := 5) (i := (sI a0)) (j2 := (89 + 1 * (sI a0).toNat)) hx hb hK.1 (t0 := 7) (r := 7) (by decide) rfl rfl hS (by decide) (zkd_of (rfl : zcd wC 88 = 40) rfl) (zln_of (rfl : zcd wC 88 = 40) rfl) rfl o1.1 o1.2 (by decide) (zrf_of (rfl : zcd wC 88 = 40) rfl) dX4_sound_5 ?_
  obtain ⟨lt2, cd3⟩ : (89 + 1 * (sI a0).toNat) < nC ∧ zcd wC (89 + 1 * (sI a0).toNat) = 41 := (by decide : ∀ k : Nat, k < 5 → (89 + 1 * k) < nC ∧ zcd wC (89 + 1 * k) = 41) (sI a0).toNat (by clear h; have h0 := o1.1; have h1 := o1.2; omega)
  refine lv_iload_n hx hb dX4_sound_6 rfl (lv_at hl 2 rfl) ?_
  refine w_if_eq (tgt := 23) hx hb rfl dX4_sound_7 (by decide) (fun c4 => ?_) (fun c4 => ?_)
  · skip
    have h := h.1 c4
    refine lv_iload_n hx hb dX4_sound_23 rfl (lv_at hl 3 rfl) ?_
    obtain ⟨o5, h⟩ := h
    refine w_iald (n := 8) (i := (sI a2)) hx hb hK.1 (t0 := 0) rfl hS lt2 (zkd_of cd3 rfl) (zln_of cd3 rfl) rfl o5.1 o5.2 (by decide) dX4_sound_24 ?_
    exact w_iret hx hb hr hlocks hS hS0 rfl ⟨rfl, h⟩ dX4_sound_25
  · skip
    have h := h.2 c4
    refine lv_aload_n hx hb dX4_sound_10 rfl (lv_at hl 0 rfl) ?_
    refine w_getr (j2 := 94) hx hb hts (z_memU u4) hown hK.1 hS f4_4 (by decide) (zkd_of (rfl : zcd wC 86 = 38) rfl) (zrf_of (rfl : zcd wC 86 = 38) rfl) (Or.inl (hts _ (z_mem k216))) dX4_sound_11 ?_
    refine lv_iload_n hx hb dX4_sound_14 rfl (lv_at hl 1 rfl) ?_
    obtain ⟨o6, h⟩ := h
    refine w_iald (n := 5) (i := (sI a0)) hx hb hK.1 (t0 := 0) rfl hS (by decide) (zkd_of (rfl : zcd wC 94 = 42) rfl) (zln_of (rfl : zcd wC 94 = 42) rfl) rfl o6.1 o6.2 (by decide) dX4_sound_15 ?_
    refine z_iconst hx hb dX4_sound_16 ?_
    refine z_isub hx hb dX4_sound_17 ?_
    refine lv_iload_n hx hb dX4_sound_18 rfl (lv_at hl 3 rfl) ?_
    refine z_isub hx hb dX4_sound_19 ?_
    refine lv_goto (tgt := 24) hx hb dX4_sound_20 (by decide) ?_
    obtain ⟨o7, h⟩ := h
    refine w_iald (n := 8) (i := (sI (((M 94 (sI a0).toNat) - 1) - a2))) hx hb hK.1 (t0 := 0) rfl hS lt2 (zkd_of cd3 rfl) (zln_of cd3 rfl) rfl o7.1 o7.2 (by decide) dX4_sound_24 ?_
    exact w_iret hx hb hr hlocks hS hS0 rfl ⟨rfl, h⟩ dX4_sound_25
