/-! the W layer, 21 -/
theorem dX12_gap_0 : decode cX12_gap 0 = .ok (.aload_n 0, 1) := by decide +kernel
theorem dX12_gap_1 : decode cX12_gap 1 = .ok (.iconst 0, 1) := by decide +kernel
theorem dX12_gap_11 : decode cX12_gap 11 = .ok (.iconst 1, 1) := by decide +kernel
theorem dX12_gap_12 : decode cX12_gap 12 = .ok (.isub, 1) := by decide +kernel
theorem dX12_gap_13 : decode cX12_gap 13 = .ok (.invokestatic 124, 3) := by decide +kernel
theorem dX12_gap_16 : decode cX12_gap 16 = .ok (.ifCond .ne 5, 3) := by decide +kernel
theorem dX12_gap_19 : decode cX12_gap 19 = .ok (.iconst 0, 1) := by decide +kernel
theorem dX12_gap_2 : decode cX12_gap 2 = .ok (.putfield 118, 3) := by decide +kernel
theorem dX12_gap_20 : decode cX12_gap 20 = .ok (.ireturn, 1) := by decide +kernel
theorem dX12_gap_21 : decode cX12_gap 21 = .ok (.aload_n 0, 1) := by decide +kernel
theorem dX12_gap_22 : decode cX12_gap 22 = .ok (.getfield 60, 3) := by decide +kernel
theorem dX12_gap_25 : decode cX12_gap 25 = .ok (.iload_n 1, 1) := by decide +kernel
theorem dX12_gap_26 : decode cX12_gap 26 = .ok (.iconst (-1), 1) := by decide +kernel
theorem dX12_gap_27 : decode cX12_gap 27 = .ok (.iastore, 1) := by decide +kernel
theorem dX12_gap_28 : decode cX12_gap 28 = .ok (.iconst 1, 1) := by decide +kernel
theorem dX12_gap_29 : decode cX12_gap 29 = .ok (.ireturn, 1) := by decide +kernel
theorem dX12_gap_5 : decode cX12_gap 5 = .ok (.iload_n 1, 1) := by decide +kernel
theorem dX12_gap_6 : decode cX12_gap 6 = .ok (.iconst 0, 1) := by decide +kernel
theorem dX12_gap_7 : decode cX12_gap 7 = .ok (.aload_n 0, 1) := by decide +kernel
theorem dX12_gap_8 : decode cX12_gap 8 = .ok (.getfield 179, 3) := by decide +kernel
theorem dX12_isPair_0 : decode cX12_isPair 0 = .ok (.iconst 0, 1) := by decide +kernel
theorem dX12_isPair_1 : decode cX12_isPair 1 = .ok (.istore_n 3, 1) := by decide +kernel
theorem dX12_isPair_10 : decode cX12_isPair 10 = .ok (.aload_n 0, 1) := by decide +kernel
theorem dX12_isPair_11 : decode cX12_isPair 11 = .ok (.getfield 60, 3) := by decide +kernel
theorem dX12_isPair_14 : decode cX12_isPair 14 = .ok (.iload_n 3, 1) := by decide +kernel
theorem dX12_isPair_15 : decode cX12_isPair 15 = .ok (.iaload, 1) := by decide +kernel
theorem dX12_isPair_16 : decode cX12_isPair 16 = .ok (.iconst (-1), 1) := by decide +kernel
theorem dX12_isPair_17 : decode cX12_isPair 17 = .ok (.if_icmp .eq 27, 3) := by decide +kernel
theorem dX12_isPair_2 : decode cX12_isPair 2 = .ok (.iload_n 3, 1) := by decide +kernel
theorem dX12_isPair_20 : decode cX12_isPair 20 = .ok (.aload_n 0, 1) := by decide +kernel
theorem dX12_isPair_21 : decode cX12_isPair 21 = .ok (.iload_n 1, 1) := by decide +kernel
theorem dX12_isPair_22 : decode cX12_isPair 22 = .ok (.iload_n 3, 1) := by decide +kernel
theorem dX12_isPair_23 : decode cX12_isPair 23 = .ok (.invokevirtual 296, 3) := by decide +kernel
theorem dX12_isPair_26 : decode cX12_isPair 26 = .ok (.aload_n 0, 1) := by decide +kernel
theorem dX12_isPair_27 : decode cX12_isPair 27 = .ok (.iload_n 2, 1) := by decide +kernel
theorem dX12_isPair_28 : decode cX12_isPair 28 = .ok (.iload_n 3, 1) := by decide +kernel
theorem dX12_isPair_29 : decode cX12_isPair 29 = .ok (.invokevirtual 296, 3) := by decide +kernel
theorem dX12_isPair_3 : decode cX12_isPair 3 = .ok (.aload_n 0, 1) := by decide +kernel
theorem dX12_isPair_32 : decode cX12_isPair 32 = .ok (.ior, 1) := by decide +kernel
theorem dX12_isPair_33 : decode cX12_isPair 33 = .ok (.aload_n 0, 1) := by decide +kernel
theorem dX12_isPair_34 : decode cX12_isPair 34 = .ok (.getfield 60, 3) := by decide +kernel
theorem dX12_isPair_37 : decode cX12_isPair 37 = .ok (.iload_n 3, 1) := by decide +kernel
theorem dX12_isPair_38 : decode cX12_isPair 38 = .ok (.iaload, 1) := by decide +kernel
theorem dX12_isPair_39 : decode cX12_isPair 39 = .ok (.if_icmp .eq 5, 3) := by decide +kernel
theorem dX12_isPair_4 : decode cX12_isPair 4 = .ok (.getfield 179, 3) := by decide +kernel
theorem dX12_isPair_42 : decode cX12_isPair 42 = .ok (.iconst 0, 1) := by decide +kernel
theorem dX12_isPair_43 : decode cX12_isPair 43 = .ok (.ireturn, 1) := by decide +kernel
theorem dX12_isPair_44 : decode cX12_isPair 44 = .ok (.iinc 3 1, 3) := by decide +kernel
theorem dX12_isPair_47 : decode cX12_isPair 47 = .ok (.goto (-45), 3) := by decide +kernel
theorem dX12_isPair_50 : decode cX12_isPair 50 = .ok (.iconst 1, 1) := by decide +kernel
theorem dX12_isPair_51 : decode cX12_isPair 51 = .ok (.ireturn, 1) := by decide +kernel
theorem dX12_isPair_7 : decode cX12_isPair 7 = .ok (.if_icmp .ge 43, 3) := by decide +kernel
theorem dX12_isSpan_0 : decode cX12_isSpan 0 = .ok (.iconst 0, 1) := by decide +kernel
theorem dX12_isSpan_1 : decode cX12_isSpan 1 = .ok (.istore_n 2, 1) := by decide +kernel
theorem dX12_isSpan_10 : decode cX12_isSpan 10 = .ok (.iload_n 2, 1) := by decide +kernel
theorem dX12_isSpan_11 : decode cX12_isSpan 11 = .ok (.iload_n 1, 1) := by decide +kernel
theorem dX12_isSpan_12 : decode cX12_isSpan 12 = .ok (.iadd, 1) := by decide +kernel
theorem dX12_isSpan_13 : decode cX12_isSpan 13 = .ok (.istore_n 3, 1) := by decide +kernel
theorem dX12_isSpan_14 : decode cX12_isSpan 14 = .ok (.iload_n 3, 1) := by decide +kernel
theorem dX12_isSpan_15 : decode cX12_isSpan 15 = .ok (.aload_n 0, 1) := by decide +kernel
theorem dX12_isSpan_16 : decode cX12_isSpan 16 = .ok (.getfield 179, 3) := by decide +kernel
theorem dX12_isSpan_19 : decode cX12_isSpan 19 = .ok (.if_icmp .ge 47, 3) := by decide +kernel
theorem dX12_isSpan_2 : decode cX12_isSpan 2 = .ok (.iload_n 2, 1) := by decide +kernel
theorem dX12_isSpan_22 : decode cX12_isSpan 22 = .ok (.aload_n 0, 1) := by decide +kernel
theorem dX12_isSpan_23 : decode cX12_isSpan 23 = .ok (.getfield 60, 3) := by decide +kernel
theorem dX12_isSpan_26 : decode cX12_isSpan 26 = .ok (.iload_n 2, 1) := by decide +kernel
theorem dX12_isSpan_27 : decode cX12_isSpan 27 = .ok (.iaload, 1) := by decide +kernel
theorem dX12_isSpan_28 : decode cX12_isSpan 28 = .ok (.iconst (-1), 1) := by decide +kernel
theorem dX12_isSpan_29 : decode cX12_isSpan 29 = .ok (.if_icmp .eq 30, 3) := by decide +kernel
theorem dX12_isSpan_3 : decode cX12_isSpan 3 = .ok (.aload_n 0, 1) := by decide +kernel
theorem dX12_isSpan_32 : decode cX12_isSpan 32 = .ok (.aload_n 0, 1) := by decide +kernel
theorem dX12_isSpan_33 : decode cX12_isSpan 33 = .ok (.getfield 60, 3) := by decide +kernel
theorem dX12_isSpan_36 : decode cX12_isSpan 36 = .ok (.iload_n 3, 1) := by decide +kernel
theorem dX12_isSpan_37 : decode cX12_isSpan 37 = .ok (.iaload, 1) := by decide +kernel
theorem dX12_isSpan_38 : decode cX12_isSpan 38 = .ok (.iconst (-1), 1) := by decide +kernel
theorem dX12_isSpan_39 : decode cX12_isSpan 39 = .ok (.if_icmp .eq 20, 3) := by decide +kernel
theorem dX12_isSpan_4 : decode cX12_isSpan 4 = .ok (.getfield 179, 3) := by decide +kernel
theorem dX12_isSpan_42 : decode cX12_isSpan 42 = .ok (.aload_n 0, 1) := by decide +kernel
theorem dX12_isSpan_43 : decode cX12_isSpan 43 = .ok (.getfield 60, 3) := by decide +kernel
theorem dX12_isSpan_46 : decode cX12_isSpan 46 = .ok (.iload_n 2, 1) := by decide +kernel
theorem dX12_isSpan_47 : decode cX12_isSpan 47 = .ok (.iaload, 1) := by decide +kernel
theorem dX12_isSpan_48 : decode cX12_isSpan 48 = .ok (.aload_n 0, 1) := by decide +kernel
theorem dX12_isSpan_49 : decode cX12_isSpan 49 = .ok (.getfield 60, 3) := by decide +kernel
theorem dX12_isSpan_52 : decode cX12_isSpan 52 = .ok (.iload_n 3, 1) := by decide +kernel
theorem dX12_isSpan_53 : decode cX12_isSpan 53 = .ok (.iaload, 1) := by decide +kernel
theorem dX12_isSpan_54 : decode cX12_isSpan 54 = .ok (.if_icmp .eq 5, 3) := by decide +kernel
theorem dX12_isSpan_57 : decode cX12_isSpan 57 = .ok (.iconst 0, 1) := by decide +kernel
theorem dX12_isSpan_58 : decode cX12_isSpan 58 = .ok (.ireturn, 1) := by decide +kernel
theorem dX12_isSpan_59 : decode cX12_isSpan 59 = .ok (.iload_n 3, 1) := by decide +kernel
theorem dX12_isSpan_60 : decode cX12_isSpan 60 = .ok (.iload_n 1, 1) := by decide +kernel
theorem dX12_isSpan_61 : decode cX12_isSpan 61 = .ok (.iadd, 1) := by decide +kernel
theorem dX12_isSpan_62 : decode cX12_isSpan 62 = .ok (.istore_n 3, 1) := by decide +kernel
theorem dX12_isSpan_63 : decode cX12_isSpan 63 = .ok (.goto (-49), 3) := by decide +kernel
theorem dX12_isSpan_66 : decode cX12_isSpan 66 = .ok (.iinc 2 1, 3) := by decide +kernel
theorem dX12_isSpan_69 : decode cX12_isSpan 69 = .ok (.goto (-67), 3) := by decide +kernel
theorem dX12_isSpan_7 : decode cX12_isSpan 7 = .ok (.if_icmp .ge 65, 3) := by decide +kernel
theorem dX12_isSpan_72 : decode cX12_isSpan 72 = .ok (.iconst 1, 1) := by decide +kernel
theorem dX12_isSpan_73 : decode cX12_isSpan 73 = .ok (.ireturn, 1) := by decide +kernel
theorem dX12_mended_0 : decode cX12_mended 0 = .ok (.aload_n 0, 1) := by decide +kernel
theorem dX12_mended_1 : decode cX12_mended 1 = .ok (.iconst 0, 1) := by decide +kernel
theorem dX12_mended_11 : decode cX12_mended 11 = .ok (.iconst 1, 1) := by decide +kernel
theorem dX12_mended_12 : decode cX12_mended 12 = .ok (.isub, 1) := by decide +kernel
theorem dX12_mended_13 : decode cX12_mended 13 = .ok (.invokestatic 124, 3) := by decide +kernel
theorem dX12_mended_16 : decode cX12_mended 16 = .ok (.ifCond .ne 5, 3) := by decide +kernel
theorem dX12_mended_19 : decode cX12_mended 19 = .ok (.iconst (-1), 1) := by decide +kernel
theorem dX12_mended_2 : decode cX12_mended 2 = .ok (.putfield 118, 3) := by decide +kernel
theorem dX12_mended_20 : decode cX12_mended 20 = .ok (.ireturn, 1) := by decide +kernel
theorem dX12_mended_21 : decode cX12_mended 21 = .ok (.aload_n 0, 1) := by decide +kernel
theorem dX12_mended_22 : decode cX12_mended 22 = .ok (.iconst 0, 1) := by decide +kernel
theorem dX12_mended_23 : decode cX12_mended 23 = .ok (.invokevirtual 302, 3) := by decide +kernel
theorem dX12_mended_26 : decode cX12_mended 26 = .ok (.istore_n 2, 1) := by decide +kernel
theorem dX12_mended_27 : decode cX12_mended 27 = .ok (.iload_n 2, 1) := by decide +kernel
theorem dX12_mended_28 : decode cX12_mended 28 = .ok (.iconst (-1), 1) := by decide +kernel
theorem dX12_mended_29 : decode cX12_mended 29 = .ok (.if_icmp .ne 7, 3) := by decide +kernel
theorem dX12_mended_32 : decode cX12_mended 32 = .ok (.iconst (-1), 1) := by decide +kernel
theorem dX12_mended_33 : decode cX12_mended 33 = .ok (.goto 22, 3) := by decide +kernel
theorem dX12_mended_36 : decode cX12_mended 36 = .ok (.aload_n 0, 1) := by decide +kernel
theorem dX12_mended_37 : decode cX12_mended 37 = .ok (.iload_n 2, 1) := by decide +kernel
theorem dX12_mended_38 : decode cX12_mended 38 = .ok (.bipush 100, 2) := by decide +kernel
theorem dX12_mended_40 : decode cX12_mended 40 = .ok (.idiv, 1) := by decide +kernel
theorem dX12_mended_41 : decode cX12_mended 41 = .ok (.iload_n 1, 1) := by decide +kernel
theorem dX12_mended_42 : decode cX12_mended 42 = .ok (.invokevirtual 296, 3) := by decide +kernel
theorem dX12_mended_45 : decode cX12_mended 45 = .ok (.aload_n 0, 1) := by decide +kernel
theorem dX12_mended_46 : decode cX12_mended 46 = .ok (.iload_n 2, 1) := by decide +kernel
theorem dX12_mended_47 : decode cX12_mended 47 = .ok (.bipush 100, 2) := by decide +kernel
theorem dX12_mended_49 : decode cX12_mended 49 = .ok (.irem, 1) := by decide +kernel
theorem dX12_mended_5 : decode cX12_mended 5 = .ok (.iload_n 1, 1) := by decide +kernel
theorem dX12_mended_50 : decode cX12_mended 50 = .ok (.iload_n 1, 1) := by decide +kernel
theorem dX12_mended_51 : decode cX12_mended 51 = .ok (.invokevirtual 296, 3) := by decide +kernel
theorem dX12_mended_54 : decode cX12_mended 54 = .ok (.ior, 1) := by decide +kernel
theorem dX12_mended_55 : decode cX12_mended 55 = .ok (.ireturn, 1) := by decide +kernel
theorem dX12_mended_6 : decode cX12_mended 6 = .ok (.iconst 0, 1) := by decide +kernel
theorem dX12_mended_7 : decode cX12_mended 7 = .ok (.aload_n 0, 1) := by decide +kernel
theorem dX12_mended_8 : decode cX12_mended 8 = .ok (.getfield 179, 3) := by decide +kernel
theorem dX12_most_0 : decode cX12_most 0 = .ok (.sipush 1022, 3) := by decide +kernel
theorem dX12_most_11 : decode cX12_most 11 = .ok (.aload_n 0, 1) := by decide +kernel
theorem dX12_most_12 : decode cX12_most 12 = .ok (.getfield 179, 3) := by decide +kernel
theorem dX12_most_15 : decode cX12_most 15 = .ok (.if_icmp .ge 33, 3) := by decide +kernel
theorem dX12_most_18 : decode cX12_most 18 = .ok (.aload_n 0, 1) := by decide +kernel
theorem dX12_most_19 : decode cX12_most 19 = .ok (.getfield 60, 3) := by decide +kernel
theorem dX12_most_22 : decode cX12_most 22 = .ok (.iload 4, 2) := by decide +kernel
theorem dX12_most_24 : decode cX12_most 24 = .ok (.iaload, 1) := by decide +kernel
theorem dX12_most_25 : decode cX12_most 25 = .ok (.iconst (-1), 1) := by decide +kernel
theorem dX12_most_26 : decode cX12_most 26 = .ok (.if_icmp .eq 13, 3) := by decide +kernel
theorem dX12_most_29 : decode cX12_most 29 = .ok (.iload_n 3, 1) := by decide +kernel
theorem dX12_most_3 : decode cX12_most 3 = .ok (.istore_n 3, 1) := by decide +kernel
theorem dX12_most_30 : decode cX12_most 30 = .ok (.aload_n 0, 1) := by decide +kernel
theorem dX12_most_31 : decode cX12_most 31 = .ok (.getfield 60, 3) := by decide +kernel
theorem dX12_most_34 : decode cX12_most 34 = .ok (.iload 4, 2) := by decide +kernel
theorem dX12_most_36 : decode cX12_most 36 = .ok (.iaload, 1) := by decide +kernel
theorem dX12_most_37 : decode cX12_most 37 = .ok (.iand, 1) := by decide +kernel
theorem dX12_most_38 : decode cX12_most 38 = .ok (.istore_n 3, 1) := by decide +kernel
theorem dX12_most_39 : decode cX12_most 39 = .ok (.iload 4, 2) := by decide +kernel
theorem dX12_most_4 : decode cX12_most 4 = .ok (.iload_n 2, 1) := by decide +kernel
theorem dX12_most_41 : decode cX12_most 41 = .ok (.iload_n 1, 1) := by decide +kernel
theorem dX12_most_42 : decode cX12_most 42 = .ok (.iadd, 1) := by decide +kernel
theorem dX12_most_43 : decode cX12_most 43 = .ok (.istore 4, 2) := by decide +kernel
theorem dX12_most_45 : decode cX12_most 45 = .ok (.goto (-36), 3) := by decide +kernel
theorem dX12_most_48 : decode cX12_most 48 = .ok (.iload_n 3, 1) := by decide +kernel
theorem dX12_most_49 : decode cX12_most 49 = .ok (.ireturn, 1) := by decide +kernel
theorem dX12_most_5 : decode cX12_most 5 = .ok (.iload_n 1, 1) := by decide +kernel
theorem dX12_most_6 : decode cX12_most 6 = .ok (.irem, 1) := by decide +kernel
theorem dX12_most_7 : decode cX12_most 7 = .ok (.istore 4, 2) := by decide +kernel
theorem dX12_most_9 : decode cX12_most 9 = .ok (.iload 4, 2) := by decide +kernel
theorem dX12_pairAt_0 : decode cX12_pairAt 0 = .ok (.iload_n 1, 1) := by decide +kernel
theorem dX12_pairAt_1 : decode cX12_pairAt 1 = .ok (.istore_n 2, 1) := by decide +kernel
theorem dX12_pairAt_10 : decode cX12_pairAt 10 = .ok (.iconst 1, 1) := by decide +kernel
theorem dX12_pairAt_11 : decode cX12_pairAt 11 = .ok (.iload_n 3, 1) := by decide +kernel
theorem dX12_pairAt_12 : decode cX12_pairAt 12 = .ok (.bipush 24, 2) := by decide +kernel
theorem dX12_pairAt_14 : decode cX12_pairAt 14 = .ok (.isub, 1) := by decide +kernel
theorem dX12_pairAt_15 : decode cX12_pairAt 15 = .ok (.invokestatic 240, 3) := by decide +kernel
theorem dX12_pairAt_18 : decode cX12_pairAt 18 = .ok (.istore 4, 2) := by decide +kernel
theorem dX12_pairAt_2 : decode cX12_pairAt 2 = .ok (.iconst 2, 1) := by decide +kernel
theorem dX12_pairAt_20 : decode cX12_pairAt 20 = .ok (.iconst 2, 1) := by decide +kernel
theorem dX12_pairAt_21 : decode cX12_pairAt 21 = .ok (.iload 4, 2) := by decide +kernel
theorem dX12_pairAt_23 : decode cX12_pairAt 23 = .ok (.imul, 1) := by decide +kernel
theorem dX12_pairAt_24 : decode cX12_pairAt 24 = .ok (.iload_n 3, 1) := by decide +kernel
theorem dX12_pairAt_25 : decode cX12_pairAt 25 = .ok (.if_icmp .gt 43, 3) := by decide +kernel
theorem dX12_pairAt_28 : decode cX12_pairAt 28 = .ok (.aload_n 0, 1) := by decide +kernel
theorem dX12_pairAt_29 : decode cX12_pairAt 29 = .ok (.iload 4, 2) := by decide +kernel
theorem dX12_pairAt_3 : decode cX12_pairAt 3 = .ok (.istore_n 3, 1) := by decide +kernel
theorem dX12_pairAt_31 : decode cX12_pairAt 31 = .ok (.iload_n 3, 1) := by decide +kernel
theorem dX12_pairAt_32 : decode cX12_pairAt 32 = .ok (.iload 4, 2) := by decide +kernel
theorem dX12_pairAt_34 : decode cX12_pairAt 34 = .ok (.isub, 1) := by decide +kernel
theorem dX12_pairAt_35 : decode cX12_pairAt 35 = .ok (.invokevirtual 299, 3) := by decide +kernel
theorem dX12_pairAt_38 : decode cX12_pairAt 38 = .ok (.ifCond .ne 6, 3) := by decide +kernel
theorem dX12_pairAt_4 : decode cX12_pairAt 4 = .ok (.iload_n 3, 1) := by decide +kernel
theorem dX12_pairAt_41 : decode cX12_pairAt 41 = .ok (.goto 21, 3) := by decide +kernel
theorem dX12_pairAt_44 : decode cX12_pairAt 44 = .ok (.iload_n 2, 1) := by decide +kernel
theorem dX12_pairAt_45 : decode cX12_pairAt 45 = .ok (.ifCond .ne 14, 3) := by decide +kernel
theorem dX12_pairAt_48 : decode cX12_pairAt 48 = .ok (.bipush 100, 2) := by decide +kernel
theorem dX12_pairAt_5 : decode cX12_pairAt 5 = .ok (.bipush 48, 2) := by decide +kernel
theorem dX12_pairAt_50 : decode cX12_pairAt 50 = .ok (.iload 4, 2) := by decide +kernel
theorem dX12_pairAt_52 : decode cX12_pairAt 52 = .ok (.imul, 1) := by decide +kernel
theorem dX12_pairAt_53 : decode cX12_pairAt 53 = .ok (.iload_n 3, 1) := by decide +kernel
theorem dX12_pairAt_54 : decode cX12_pairAt 54 = .ok (.iadd, 1) := by decide +kernel
theorem dX12_pairAt_55 : decode cX12_pairAt 55 = .ok (.iload 4, 2) := by decide +kernel
theorem dX12_pairAt_57 : decode cX12_pairAt 57 = .ok (.isub, 1) := by decide +kernel
theorem dX12_pairAt_58 : decode cX12_pairAt 58 = .ok (.ireturn, 1) := by decide +kernel
theorem dX12_pairAt_59 : decode cX12_pairAt 59 = .ok (.iinc 2 (-1), 3) := by decide +kernel
theorem dX12_pairAt_62 : decode cX12_pairAt 62 = .ok (.iinc 4 1, 3) := by decide +kernel
theorem dX12_pairAt_65 : decode cX12_pairAt 65 = .ok (.goto (-45), 3) := by decide +kernel
theorem dX12_pairAt_68 : decode cX12_pairAt 68 = .ok (.iinc 3 1, 3) := by decide +kernel
theorem dX12_pairAt_7 : decode cX12_pairAt 7 = .ok (.if_icmp .gt 67, 3) := by decide +kernel
theorem dX12_pairAt_71 : decode cX12_pairAt 71 = .ok (.goto (-67), 3) := by decide +kernel
theorem dX12_pairAt_74 : decode cX12_pairAt 74 = .ok (.iconst (-1), 1) := by decide +kernel
theorem dX12_pairAt_75 : decode cX12_pairAt 75 = .ok (.ireturn, 1) := by decide +kernel
theorem dX12_pair_0 : decode cX12_pair 0 = .ok (.aload_n 0, 1) := by decide +kernel
theorem dX12_pair_1 : decode cX12_pair 1 = .ok (.iconst 0, 1) := by decide +kernel
theorem dX12_pair_10 : decode cX12_pair 10 = .ok (.goto 8, 3) := by decide +kernel
theorem dX12_pair_13 : decode cX12_pair 13 = .ok (.aload_n 0, 1) := by decide +kernel
theorem dX12_pair_14 : decode cX12_pair 14 = .ok (.iload_n 1, 1) := by decide +kernel
theorem dX12_pair_15 : decode cX12_pair 15 = .ok (.invokevirtual 302, 3) := by decide +kernel
theorem dX12_pair_18 : decode cX12_pair 18 = .ok (.ireturn, 1) := by decide +kernel
theorem dX12_pair_2 : decode cX12_pair 2 = .ok (.putfield 118, 3) := by decide +kernel
theorem dX12_pair_5 : decode cX12_pair 5 = .ok (.iload_n 1, 1) := by decide +kernel
theorem dX12_pair_6 : decode cX12_pair 6 = .ok (.ifCond .ge 7, 3) := by decide +kernel
theorem dX12_pair_9 : decode cX12_pair 9 = .ok (.iconst (-1), 1) := by decide +kernel
theorem dX12_span_0 : decode cX12_span 0 = .ok (.aload_n 0, 1) := by decide +kernel
theorem dX12_span_1 : decode cX12_span 1 = .ok (.iconst 0, 1) := by decide +kernel
theorem dX12_span_10 : decode cX12_span 10 = .ok (.bipush 24, 2) := by decide +kernel
theorem dX12_span_12 : decode cX12_span 12 = .ok (.if_icmp .gt 33, 3) := by decide +kernel
theorem dX12_span_15 : decode cX12_span 15 = .ok (.iload_n 2, 1) := by decide +kernel
theorem dX12_span_16 : decode cX12_span 16 = .ok (.ifCond .lt 29, 3) := by decide +kernel
theorem dX12_span_19 : decode cX12_span 19 = .ok (.aload_n 0, 1) := by decide +kernel
theorem dX12_span_2 : decode cX12_span 2 = .ok (.putfield 118, 3) := by decide +kernel
theorem dX12_span_20 : decode cX12_span 20 = .ok (.iload_n 3, 1) := by decide +kernel
theorem dX12_span_21 : decode cX12_span 21 = .ok (.invokevirtual 293, 3) := by decide +kernel
theorem dX12_span_24 : decode cX12_span 24 = .ok (.ifCond .ne 6, 3) := by decide +kernel
theorem dX12_span_27 : decode cX12_span 27 = .ok (.goto 12, 3) := by decide +kernel
theorem dX12_span_30 : decode cX12_span 30 = .ok (.iload_n 2, 1) := by decide +kernel
theorem dX12_span_31 : decode cX12_span 31 = .ok (.ifCond .ne 5, 3) := by decide +kernel
theorem dX12_span_34 : decode cX12_span 34 = .ok (.iload_n 3, 1) := by decide +kernel
theorem dX12_span_35 : decode cX12_span 35 = .ok (.ireturn, 1) := by decide +kernel
theorem dX12_span_36 : decode cX12_span 36 = .ok (.iinc 2 (-1), 3) := by decide +kernel
theorem dX12_span_39 : decode cX12_span 39 = .ok (.iinc 3 1, 3) := by decide +kernel
theorem dX12_span_42 : decode cX12_span 42 = .ok (.goto (-33), 3) := by decide +kernel
theorem dX12_span_45 : decode cX12_span 45 = .ok (.iconst (-1), 1) := by decide +kernel
theorem dX12_span_46 : decode cX12_span 46 = .ok (.ireturn, 1) := by decide +kernel
theorem dX12_span_5 : decode cX12_span 5 = .ok (.iload_n 1, 1) := by decide +kernel
theorem dX12_span_6 : decode cX12_span 6 = .ok (.istore_n 2, 1) := by decide +kernel
theorem dX12_span_7 : decode cX12_span 7 = .ok (.iconst 1, 1) := by decide +kernel
theorem dX12_span_8 : decode cX12_span 8 = .ok (.istore_n 3, 1) := by decide +kernel
theorem dX12_span_9 : decode cX12_span 9 = .ok (.iload_n 3, 1) := by decide +kernel
theorem dX12_take_0 : decode cX12_take 0 = .ok (.aload_n 0, 1) := by decide +kernel
theorem dX12_take_1 : decode cX12_take 1 = .ok (.iconst 0, 1) := by decide +kernel
theorem dX12_take_10 : decode cX12_take 10 = .ok (.invokestatic 124, 3) := by decide +kernel
theorem dX12_take_13 : decode cX12_take 13 = .ok (.ifCond .eq 13, 3) := by decide +kernel
theorem dX12_take_16 : decode cX12_take 16 = .ok (.iload_n 2, 1) := by decide +kernel
theorem dX12_take_17 : decode cX12_take 17 = .ok (.iconst 0, 1) := by decide +kernel
theorem dX12_take_18 : decode cX12_take 18 = .ok (.bipush 60, 2) := by decide +kernel
theorem dX12_take_2 : decode cX12_take 2 = .ok (.putfield 118, 3) := by decide +kernel
theorem dX12_take_20 : decode cX12_take 20 = .ok (.invokestatic 124, 3) := by decide +kernel
theorem dX12_take_23 : decode cX12_take 23 = .ok (.ifCond .ne 5, 3) := by decide +kernel
theorem dX12_take_26 : decode cX12_take 26 = .ok (.iconst 0, 1) := by decide +kernel
theorem dX12_take_27 : decode cX12_take 27 = .ok (.ireturn, 1) := by decide +kernel
theorem dX12_take_28 : decode cX12_take 28 = .ok (.iconst 0, 1) := by decide +kernel
theorem dX12_take_29 : decode cX12_take 29 = .ok (.istore_n 3, 1) := by decide +kernel
theorem dX12_take_30 : decode cX12_take 30 = .ok (.iload_n 3, 1) := by decide +kernel
theorem dX12_take_31 : decode cX12_take 31 = .ok (.iload_n 2, 1) := by decide +kernel
theorem dX12_take_32 : decode cX12_take 32 = .ok (.if_icmp .ge 23, 3) := by decide +kernel
theorem dX12_take_35 : decode cX12_take 35 = .ok (.aload_n 0, 1) := by decide +kernel
theorem dX12_take_36 : decode cX12_take 36 = .ok (.getfield 60, 3) := by decide +kernel
theorem dX12_take_39 : decode cX12_take 39 = .ok (.iload_n 3, 1) := by decide +kernel
theorem dX12_take_40 : decode cX12_take 40 = .ok (.aload_n 0, 1) := by decide +kernel
theorem dX12_take_41 : decode cX12_take 41 = .ok (.iload_n 1, 1) := by decide +kernel
theorem dX12_take_42 : decode cX12_take 42 = .ok (.iload_n 3, 1) := by decide +kernel
theorem dX12_take_43 : decode cX12_take 43 = .ok (.iadd, 1) := by decide +kernel
theorem dX12_take_44 : decode cX12_take 44 = .ok (.i2l, 1) := by decide +kernel
theorem dX12_take_45 : decode cX12_take 45 = .ok (.invokevirtual 229, 3) := by decide +kernel
theorem dX12_take_48 : decode cX12_take 48 = .ok (.iastore, 1) := by decide +kernel
theorem dX12_take_49 : decode cX12_take 49 = .ok (.iinc 3 1, 3) := by decide +kernel
theorem dX12_take_5 : decode cX12_take 5 = .ok (.iload_n 1, 1) := by decide +kernel
theorem dX12_take_52 : decode cX12_take 52 = .ok (.goto (-22), 3) := by decide +kernel
theorem dX12_take_55 : decode cX12_take 55 = .ok (.aload_n 0, 1) := by decide +kernel
theorem dX12_take_56 : decode cX12_take 56 = .ok (.iload_n 2, 1) := by decide +kernel
theorem dX12_take_57 : decode cX12_take 57 = .ok (.putfield 179, 3) := by decide +kernel
theorem dX12_take_6 : decode cX12_take 6 = .ok (.iconst 0, 1) := by decide +kernel
theorem dX12_take_60 : decode cX12_take 60 = .ok (.iconst 1, 1) := by decide +kernel
theorem dX12_take_61 : decode cX12_take 61 = .ok (.ireturn, 1) := by decide +kernel
theorem dX12_take_7 : decode cX12_take 7 = .ok (.ldc_w 262, 3) := by decide +kernel
theorem dX12_tape_0 : decode cX12_tape 0 = .ok (.aload_n 0, 1) := by decide +kernel
theorem dX12_tape_1 : decode cX12_tape 1 = .ok (.iconst 0, 1) := by decide +kernel
theorem dX12_tape_10 : decode cX12_tape 10 = .ok (.iload_n 1, 1) := by decide +kernel
theorem dX12_tape_11 : decode cX12_tape 11 = .ok (.invokestatic 237, 3) := by decide +kernel
theorem dX12_tape_14 : decode cX12_tape 14 = .ok (.ifCond .eq 12, 3) := by decide +kernel
theorem dX12_tape_17 : decode cX12_tape 17 = .ok (.aload_n 0, 1) := by decide +kernel
theorem dX12_tape_18 : decode cX12_tape 18 = .ok (.getfield 179, 3) := by decide +kernel
theorem dX12_tape_2 : decode cX12_tape 2 = .ok (.putfield 118, 3) := by decide +kernel
theorem dX12_tape_21 : decode cX12_tape 21 = .ok (.bipush 60, 2) := by decide +kernel
theorem dX12_tape_23 : decode cX12_tape 23 = .ok (.if_icmp .ne 5, 3) := by decide +kernel
theorem dX12_tape_26 : decode cX12_tape 26 = .ok (.iconst (-1), 1) := by decide +kernel
theorem dX12_tape_27 : decode cX12_tape 27 = .ok (.ireturn, 1) := by decide +kernel
theorem dX12_tape_28 : decode cX12_tape 28 = .ok (.aload_n 0, 1) := by decide +kernel
theorem dX12_tape_29 : decode cX12_tape 29 = .ok (.getfield 60, 3) := by decide +kernel
theorem dX12_tape_32 : decode cX12_tape 32 = .ok (.aload_n 0, 1) := by decide +kernel
theorem dX12_tape_33 : decode cX12_tape 33 = .ok (.getfield 179, 3) := by decide +kernel
theorem dX12_tape_36 : decode cX12_tape 36 = .ok (.iload_n 1, 1) := by decide +kernel
theorem dX12_tape_37 : decode cX12_tape 37 = .ok (.iastore, 1) := by decide +kernel
theorem dX12_tape_38 : decode cX12_tape 38 = .ok (.aload_n 0, 1) := by decide +kernel
theorem dX12_tape_39 : decode cX12_tape 39 = .ok (.dup, 1) := by decide +kernel
theorem dX12_tape_40 : decode cX12_tape 40 = .ok (.getfield 179, 3) := by decide +kernel
theorem dX12_tape_43 : decode cX12_tape 43 = .ok (.iconst 1, 1) := by decide +kernel
theorem dX12_tape_44 : decode cX12_tape 44 = .ok (.iadd, 1) := by decide +kernel
theorem dX12_tape_45 : decode cX12_tape 45 = .ok (.putfield 179, 3) := by decide +kernel
theorem dX12_tape_48 : decode cX12_tape 48 = .ok (.aload_n 0, 1) := by decide +kernel
theorem dX12_tape_49 : decode cX12_tape 49 = .ok (.getfield 179, 3) := by decide +kernel
theorem dX12_tape_5 : decode cX12_tape 5 = .ok (.iload_n 1, 1) := by decide +kernel
theorem dX12_tape_52 : decode cX12_tape 52 = .ok (.ireturn, 1) := by decide +kernel
theorem dX12_tape_6 : decode cX12_tape 6 = .ok (.iconst (-1), 1) := by decide +kernel
theorem dX12_tape_7 : decode cX12_tape 7 = .ok (.if_icmp .eq 10, 3) := by decide +kernel
theorem dX12_wipe_0 : decode cX12_wipe 0 = .ok (.aload_n 0, 1) := by decide +kernel
theorem dX12_wipe_1 : decode cX12_wipe 1 = .ok (.iconst 0, 1) := by decide +kernel
theorem dX12_wipe_10 : decode cX12_wipe 10 = .ok (.aload_n 0, 1) := by decide +kernel
theorem dX12_wipe_11 : decode cX12_wipe 11 = .ok (.iconst 0, 1) := by decide +kernel
theorem dX12_wipe_12 : decode cX12_wipe 12 = .ok (.putfield 179, 3) := by decide +kernel
theorem dX12_wipe_15 : decode cX12_wipe 15 = .ok (.iload_n 1, 1) := by decide +kernel
theorem dX12_wipe_16 : decode cX12_wipe 16 = .ok (.ireturn, 1) := by decide +kernel
theorem dX12_wipe_2 : decode cX12_wipe 2 = .ok (.putfield 118, 3) := by decide +kernel
theorem dX12_wipe_5 : decode cX12_wipe 5 = .ok (.aload_n 0, 1) := by decide +kernel
theorem dX12_wipe_6 : decode cX12_wipe 6 = .ok (.getfield 179, 3) := by decide +kernel
theorem dX12_wipe_9 : decode cX12_wipe 9 = .ok (.istore_n 1, 1) := by decide +kernel
theorem dm_X12_isSpan : yX12_isSpan.cls = RX12 ∧ yX12_isSpan.cls ≠ "java/lang/invoke/MethodHandle" ∧ yX12_isSpan.cls ≠ "java/lang/invoke/VarHandle" ∧ (parseMethodDescriptor yX12_isSpan.desc).map (fun d => d.parameters.length) = some 1 := by decide +kernel
theorem dm_X12_most : yX12_most.cls = RX12 ∧ yX12_most.cls ≠ "java/lang/invoke/MethodHandle" ∧ yX12_most.cls ≠ "java/lang/invoke/VarHandle" ∧ (parseMethodDescriptor yX12_most.desc).map (fun d => d.parameters.length) = some 2 := by decide +kernel
theorem dm_X12_isPair : yX12_isPair.cls = RX12 ∧ yX12_isPair.cls ≠ "java/lang/invoke/MethodHandle" ∧ yX12_isPair.cls ≠ "java/lang/invoke/VarHandle" ∧ (parseMethodDescriptor yX12_isPair.desc).map (fun d => d.parameters.length) = some 2 := by decide +kernel
theorem dm_X12_pairAt : yX12_pairAt.cls = RX12 ∧ yX12_pairAt.cls ≠ "java/lang/invoke/MethodHandle" ∧ yX12_pairAt.cls ≠ "java/lang/invoke/VarHandle" ∧ (parseMethodDescriptor yX12_pairAt.desc).map (fun d => d.parameters.length) = some 1 := by decide +kernel
set_option maxRecDepth 100000 in
def wR_tape (a0 : Int) (M : zM) (Q : Int → zM → Prop) : Prop := (∀ M1 : zM, M1 = zup M 0 35 0 → pJ0 (fun J17 => ((sI a0) = (-1) → J17) ∧ ((sI a0) ≠ (-1) → wR_areSounds a0 M1 (fun z19 => (z19 = 0 → Q (-1) M1) ∧ (z19 ≠ 0 → J17)))) (((sI (M1 0 24)) ≠ 60 → ((0 ≤ (sI (M1 0 24)) ∧ (sI (M1 0 24)) < 60) ∧ (∀ M13 : zM, M13 = zup M1 15 (sI (M1 0 24)).toNat a0 → (∀ M15 : zM, M15 = zup M13 0 24 ((M13 0 24) + 1) → Q (sI (M15 0 24)) M15)))) ∧ ((sI (M1 0 24)) = 60 → Q (-1) M1)))
set_option maxHeartbeats 4000000 in
set_option maxRecDepth 100000 in
theorem cR_tape (l : Launch) (D : va_G) (dA : Nat → ClassId) (b : Nat) (M : zM) (a0 : Int)  (Q : Int → zM → Prop) (h : wR_tape a0 M Q) : Met l yX12_tape (.code yX12_tape cX12_tape 2 (some .int) :: zt) (z_rm 1) (va_Pc [.ref (b + 0), .int (iI a0)] (wPre D dA vwCl (z_tys dA) wR nR b M)) (va_Qi (wQi Q) (zB D dA vwCl wR nR b) (zA nR b)) 0 0 (zA nR b) := by
  unfold wR_tape at h
  refine Met.ofW (cc := cX12_tape) (maxL := 2) (ret := (some .int)) (by decide) rfl ?_
  intro p e s m args below meth c s₁ B hml hv
  obtain ⟨hargs, hS, hK⟩ := hv
  have hx := B.exec
  have hb := B.bytes
  have hr := B.returns
  have hts := atoms_spec (ws := .code yX12_tape cX12_tape 2 (some .int) :: zt) B.pre
  have hown : s.vm.findClass RX12 = some m.cls := findClass_of_methodNamed B.named
  have hlocks := B.notSynchronized
  have hS0 : va_S (zA nR b) s.heap s.heap [] := va_S.rf
  have hl := lv_entry ([.ref (b + 0), .int (iI a0)]) (n := 2) (Nat.le_of_ble_eq_true rfl)
  have hent : entryFrame m args 2 = F0 m 0 ((lg_sl ([.ref (b + 0), .int (iI a0)]) ++ List.replicate (2 - (lg_sl ([.ref (b + 0), .int (iI a0)])).length) Slot.unset).toArray) [] := by rw [hargs]; exact lg_entry_eq m ([.ref (b + 0), .int (iI a0)]) 2
  rw [hent]
  generalize (lg_sl ([.ref (b + 0), .int (iI a0)]) ++ List.replicate (2 - (lg_sl ([.ref (b + 0), .int (iI a0)])).length) Slot.unset).toArray = ls at hl ⊢
  have hl : lv_has ls 2 [(0, .ref (b + 0)), (1, .int (iI a0))] := hl
  refine lv_aload_n hx hb dX12_tape_0 rfl (lv_at hl 0 rfl) ?_
  refine z_iconst hx hb dX12_tape_1 ?_
  refine w_puti hx hb hts (z_memU u12) tyX12 tyX12_ok nmX12 hown hK.1 hS hS0 f12_35 (by decide) (zkd_of (rfl : zcd wR 0 = 50) rfl) (Or.inl (hts _ (z_mem k979))) rfl (z := 0) (by decide +kernel) dX12_tape_2 (fun H locs hS hS0 => ?_)
  obtain ⟨M1, e2⟩ : ∃ M1 : zM, M1 = zup M 0 35 0 := ⟨_, rfl⟩
  rw [← e2] at hS
  have h := h M1 e2
  refine lv_iload_n hx hb dX12_tape_5 rfl (lv_at hl 1 rfl) ?_
  refine z_iconst hx hb dX12_tape_6 ?_
  obtain ⟨J17, B10, h⟩ := h
  have L9 : ∀ (H : Heap) (locs : List Loc) (ls : Array Slot), J17 → zR D dA vwCl wR nR b M1 H → va_S (zA nR b) s.heap H locs → lv_has ls 2 [(0, .ref (b + 0)), (1, .int (iI a0))] → W p l e (headSpec (.code yX12_tape cX12_tape 2 (some .int) :: zt) (z_rm 1)).room s m args below meth c H locs 0 0 (MQ below (va_Qi (wQi Q) (zB D dA vwCl wR nR b) (zA nR b)) args s 0 0 (zA nR b)) (F0 m 17 ls []) := by
    intro  H locs ls h hS hS0 hl
    have h := B10 h
    refine lv_aload_n hx hb dX12_tape_17 rfl (lv_at hl 0 rfl) ?_
    refine w_geti hx hb hts (z_memU u12) hown hK.1 hS f12_24 (by decide) (zkd_of (rfl : zcd wR 0 = 50) rfl) (Or.inl (hts _ (z_mem k968))) dX12_tape_18 ?_
    refine z_bipush hx hb (by decide) dX12_tape_21 ?_
    refine w_icmp_ne (tgt := 28) hx hb rfl (sI_of (by decide)) dX12_tape_23 (by decide) (fun c11 => ?_) (fun c11 => ?_)
    · skip
      have h := h.1 c11
      refine lv_aload_n hx hb dX12_tape_28 rfl (lv_at hl 0 rfl) ?_
      refine w_getr (j2 := 15) hx hb hts (z_memU u12) hown hK.1 hS f12_23 (by decide) (zkd_of (rfl : zcd wR 0 = 50) rfl) (zrf_of (rfl : zcd wR 0 = 50) rfl) (Or.inl (hts _ (z_mem k967))) dX12_tape_29 ?_
      refine lv_aload_n hx hb dX12_tape_32 rfl (lv_at hl 0 rfl) ?_
      refine w_geti hx hb hts (z_memU u12) hown hK.1 hS f12_24 (by decide) (zkd_of (rfl : zcd wR 0 = 50) rfl) (Or.inl (hts _ (z_mem k968))) dX12_tape_33 ?_
      refine lv_iload_n hx hb dX12_tape_36 rfl (lv_at hl 1 rfl) ?_
      obtain ⟨o12, h⟩ := h
      refine w_iast (z := a0) (n := 60) (i := (sI (M1 0 24))) hx hb hK.1 (t0 := 0) rfl hS hS0 (by decide) (zkd_of (rfl : zcd wR 15 = 65) rfl) (zln_of (rfl : zcd wR 15 = 65) rfl) rfl o12.1 o12.2 (by decide) dX12_tape_37 (fun H locs hS hS0 => ?_)
      obtain ⟨M13, e14⟩ : ∃ M13 : zM, M13 = zup M1 15 (sI (M1 0 24)).toNat a0 := ⟨_, rfl⟩
      rw [← e14] at hS
      have h := h M13 e14
      refine lv_aload_n hx hb dX12_tape_38 rfl (lv_at hl 0 rfl) ?_
      refine lv_dup hx hb dX12_tape_39 rfl ?_
      refine w_geti hx hb hts (z_memU u12) hown hK.1 hS f12_24 (by decide) (zkd_of (rfl : zcd wR 0 = 50) rfl) (Or.inl (hts _ (z_mem k968))) dX12_tape_40 ?_
      refine z_iconst hx hb dX12_tape_43 ?_
      refine z_iadd hx hb dX12_tape_44 ?_
      refine w_puti hx hb hts (z_memU u12) tyX12 tyX12_ok nmX12 hown hK.1 hS hS0 f12_24 (by decide) (zkd_of (rfl : zcd wR 0 = 50) rfl) (Or.inl (hts _ (z_mem k968))) rfl (z := ((M13 0 24) + 1)) (by decide +kernel) dX12_tape_45 (fun H locs hS hS0 => ?_)
      obtain ⟨M15, e16⟩ : ∃ M15 : zM, M15 = zup M13 0 24 ((M13 0 24) + 1) := ⟨_, rfl⟩
      rw [← e16] at hS
      have h := h M15 e16
      refine lv_aload_n hx hb dX12_tape_48 rfl (lv_at hl 0 rfl) ?_
      refine w_geti hx hb hts (z_memU u12) hown hK.1 hS f12_24 (by decide) (zkd_of (rfl : zcd wR 0 = 50) rfl) (Or.inl (hts _ (z_mem k968))) dX12_tape_49 ?_
      exact w_iret hx hb hr hlocks hS hS0 rfl h dX12_tape_52
    · skip
      have h := h.2 c11
      refine z_iconst hx hb dX12_tape_26 ?_
      exact w_iret hx hb hr hlocks hS hS0 (sI_of (by decide)) h dX12_tape_27
  refine w_icmp_eq (tgt := 17) hx hb rfl (sI_of (by decide)) dX12_tape_7 (by decide) (fun c17 => ?_) (fun c17 => ?_)
  · skip
    have h := h.1 c17
    exact L9 _ _ _ h hS hS0 (lv_sub hl [0, 1] rfl)
  · skip
    have h := h.2 c17
    refine lv_iload_n hx hb dX12_tape_10 rfl (lv_at hl 1 rfl) ?_
    refine w_callz (va_runS (As := [.int (iI a0)]) (rest := []) ⟨hx, hb, hml, hown, hts⟩ (cR_areSounds l D dA b M1 a0 _ h) (va_cwS 1 hts (z_gS k1180 k1181 k14 k1182) rfl rfl rfl dm_X12_areSounds.2 ⟨Nat.le_of_ble_eq_true rfl, Nat.le_of_ble_eq_true rfl⟩) ⟨wPre_blind, w_pre hS hK⟩ rfl rfl hl.1 rfl (lv_room (Nat.le_of_ble_eq_true rfl)) dX12_tape_11 ⟨Nat.le_refl _, Nat.le_refl _⟩) hS0 (fun z19 M18 H locs r20 h hS hS0 => ?_)
    obtain ⟨e21, h⟩ := h
    rw [e21] at hS
    refine w_if_eq (tgt := 26) hx hb (sI_01 r20) dX12_tape_14 (by decide) (fun c22 => ?_) (fun c22 => ?_)
    · skip
      have h := h.1 c22
      refine z_iconst hx hb dX12_tape_26 ?_
      exact w_iret hx hb hr hlocks hS hS0 (sI_of (by decide)) h dX12_tape_27
    · skip
      have h := h.2 c22
      exact L9 _ _ _ h hS hS0 (lv_sub hl [0, 1] rfl)

set_option maxRecDepth 100000 in
def wR_take (a0 : Int) (a1 : Int) (M : zM) (Q : Int → zM → Prop) : Prop := (∀ M1 : zM, M1 = zup M 0 35 0 → wR_in a0 0 100000 M1 (fun z4 => (z4 = 0 → Q 0 M1) ∧ (z4 ≠ 0 → wR_in a1 0 60 M1 (fun z9 => (z9 ≠ 0 → wL1 (fun K30 x13 M14 => ((sI a1) ≤ (sI x13) → (∀ M23 : zM, M23 = zup M14 0 24 a1 → Q 1 M23)) ∧ ((sI x13) < (sI a1) → wR_heardInAll (sI (a0 + x13)) M14 (fun z26 => ((0 ≤ (sI x13) ∧ (sI x13) < 60) ∧ (∀ M30 : zM, M30 = zup M14 15 (sI x13).toNat z26 → K30 (x13 + 1) M30))))) 0 M1) ∧ (z9 = 0 → Q 0 M1)))))
set_option maxHeartbeats 4000000 in
set_option maxRecDepth 100000 in
theorem cR_take (l : Launch) (D : va_G) (dA : Nat → ClassId) (b : Nat) (M : zM) (a0 : Int) (a1 : Int)  (Q : Int → zM → Prop) (h : wR_take a0 a1 M Q) : Met l yX12_take (.code yX12_take cX12_take 4 (some .boolean) :: zt) (z_rm 4) (va_Pc [.ref (b + 0), .int (iI a0), .int (iI a1)] (wPre D dA vwCl (z_tys dA) wR nR b M)) (va_Qi (wQz Q) (zB D dA vwCl wR nR b) (zA nR b)) 0 0 (zA nR b) := by
  unfold wR_take at h
  refine Met.ofW (cc := cX12_take) (maxL := 4) (ret := (some .boolean)) (by decide) rfl ?_
  intro p e s m args below meth c s₁ B hml hv
  obtain ⟨hargs, hS, hK⟩ := hv
  have hx := B.exec
  have hb := B.bytes
  have hr := B.returns
  have hts := atoms_spec (ws := .code yX12_take cX12_take 4 (some .boolean) :: zt) B.pre
  have hown : s.vm.findClass RX12 = some m.cls := findClass_of_methodNamed B.named
  have hlocks := B.notSynchronized
  have hS0 : va_S (zA nR b) s.heap s.heap [] := va_S.rf
  have hl := lv_entry ([.ref (b + 0), .int (iI a0), .int (iI a1)]) (n := 4) (Nat.le_of_ble_eq_true rfl)
  have hent : entryFrame m args 4 = F0 m 0 ((lg_sl ([.ref (b + 0), .int (iI a0), .int (iI a1)]) ++ List.replicate (4 - (lg_sl ([.ref (b + 0), .int (iI a0), .int (iI a1)])).length) Slot.unset).toArray) [] := by rw [hargs]; exact lg_entry_eq m ([.ref (b + 0), .int (iI a0), .int (iI a1)]) 4
  rw [hent]
  generalize (lg_sl ([.ref (b + 0), .int (iI a0), .int (iI a1)]) ++ List.replicate (4 - (lg_sl ([.ref (b + 0), .int (iI a0), .int (iI a1)])).length) Slot.unset).toArray = ls at hl ⊢
  have hl : lv_has ls 4 [(0, .ref (b + 0)), (1, .int (iI a0)), (2, .int (iI a1))] := hl
  refine lv_aload_n hx hb dX12_take_0 rfl (lv_at hl 0 rfl) ?_
  refine z_iconst hx hb dX12_take_1 ?_
  refine w_puti hx hb hts (z_memU u12) tyX12 tyX12_ok nmX12 hown hK.1 hS hS0 f12_35 (by decide) (zkd_of (rfl : zcd wR 0 = 50) rfl) (Or.inl (hts _ (z_mem k979))) rfl (z := 0) (by decide +kernel) dX12_take_2 (fun H locs hS hS0 => ?_)
  obtain ⟨M1, e2⟩ : ∃ M1 : zM, M1 = zup M 0 35 0 := ⟨_, rfl⟩
  rw [← e2] at hS
  have h := h M1 e2
  refine lv_iload_n hx hb dX12_take_5 rfl (lv_at hl 1 rfl) ?_
  refine z_iconst hx hb dX12_take_6 ?_
  refine z_ldcw (n := 100000) hx hb hown (hts _ (z_mem k1210)) (by decide) dX12_take_7 ?_
  refine w_callz (va_runS (As := [.int (iI a0), .int (iI 0), .int (iI 100000)]) (rest := []) ⟨hx, hb, hml, hown, hts⟩ (cR_in l D dA b M1 a0 0 100000 _ h) (va_cwS 3 hts (z_gS k1083 k1084 k14 k1085) rfl rfl rfl dm_X12_in.2 ⟨Nat.le_of_ble_eq_true rfl, Nat.le_of_ble_eq_true rfl⟩) ⟨wPre_blind, w_pre hS hK⟩ rfl rfl hl.1 rfl (lv_room (Nat.le_of_ble_eq_true rfl)) dX12_take_10 ⟨Nat.le_refl _, Nat.le_refl _⟩) hS0 (fun z4 M3 H locs r5 h hS hS0 => ?_)
  obtain ⟨e6, h⟩ := h
  rw [e6] at hS
  refine w_if_eq (tgt := 26) hx hb (sI_01 r5) dX12_take_13 (by decide) (fun c7 => ?_) (fun c7 => ?_)
  · skip
    have h := h.1 c7
    refine z_iconst hx hb dX12_take_26 ?_
    exact w_zret hx hb hr hlocks hS hS0 (sI_of (by decide)) (by decide) h dX12_take_27
  · skip
    have h := h.2 c7
    refine lv_iload_n hx hb dX12_take_16 rfl (lv_at hl 2 rfl) ?_
    refine z_iconst hx hb dX12_take_17 ?_
    refine z_bipush hx hb (by decide) dX12_take_18 ?_
    refine w_callz (va_runS (As := [.int (iI a1), .int (iI 0), .int (iI 60)]) (rest := []) ⟨hx, hb, hml, hown, hts⟩ (cR_in l D dA b M1 a1 0 60 _ h) (va_cwS 3 hts (z_gS k1083 k1084 k14 k1085) rfl rfl rfl dm_X12_in.2 ⟨Nat.le_of_ble_eq_true rfl, Nat.le_of_ble_eq_true rfl⟩) ⟨wPre_blind, w_pre hS hK⟩ rfl rfl hl.1 rfl (lv_room (Nat.le_of_ble_eq_true rfl)) dX12_take_20 ⟨Nat.le_refl _, Nat.le_refl _⟩) hS0 (fun z9 M8 H locs r10 h hS hS0 => ?_)
    obtain ⟨e11, h⟩ := h
    rw [e11] at hS
    refine w_if_ne (tgt := 28) hx hb (sI_01 r10) dX12_take_23 (by decide) (fun c12 => ?_) (fun c12 => ?_)
    · skip
      have h := h.1 c12
      refine z_iconst hx hb dX12_take_28 ?_
      refine lv_istore_n (lv' := [(3, .int (iI 0)), (0, .ref (b + 0)), (1, .int (iI a0)), (2, .int (iI a1))]) hx hb dX12_take_29 rfl hl (by decide) rfl (fun ls hl => ?_)
      obtain ⟨I15, ⟨n16, h17⟩, h18⟩ := h
      have L19 : ∀ (n20 : Nat) (x13 : Int) (M14 : zM) (H : Heap) (locs : List Loc) (ls : Array Slot), I15 n20 x13 M14 → zR D dA vwCl wR nR b M14 H → va_S (zA nR b) s.heap H locs → lv_has ls 4 [(0, .ref (b + 0)), (1, .int (iI a0)), (2, .int (iI a1)), (3, .int (iI x13))] → W p l e (headSpec (.code yX12_take cX12_take 4 (some .boolean) :: zt) (z_rm 4)).room s m args below meth c H locs 0 0 (MQ below (va_Qi (wQz Q) (zB D dA vwCl wR nR b) (zA nR b)) args s 0 0 (zA nR b)) (F0 m 30 ls []) := by
        intro n20
        induction n20 using Nat.strongRecOn with
        | ind n20 i21 =>
          intro x13 M14 H locs ls h hS hS0 hl
          have h := h18 n20 x13 M14 h
          refine lv_iload_n hx hb dX12_take_30 rfl (lv_at hl 3 rfl) ?_
          refine lv_iload_n hx hb dX12_take_31 rfl (lv_at hl 2 rfl) ?_
          refine w_icmp_ge (tgt := 55) hx hb rfl rfl dX12_take_32 (by decide) (fun c22 => ?_) (fun c22 => ?_)
          · skip
            have h := h.1 c22
            refine lv_aload_n hx hb dX12_take_55 rfl (lv_at hl 0 rfl) ?_
            refine lv_iload_n hx hb dX12_take_56 rfl (lv_at hl 2 rfl) ?_
            refine w_puti hx hb hts (z_memU u12) tyX12 tyX12_ok nmX12 hown hK.1 hS hS0 f12_24 (by decide) (zkd_of (rfl : zcd wR 0 = 50) rfl) (Or.inl (hts _ (z_mem k968))) rfl (z := a1) (by decide +kernel) dX12_take_57 (fun H locs hS hS0 => ?_)
            obtain ⟨M23, e24⟩ : ∃ M23 : zM, M23 = zup M14 0 24 a1 := ⟨_, rfl⟩
            rw [← e24] at hS
            have h := h M23 e24
            refine z_iconst hx hb dX12_take_60 ?_
            exact w_zret hx hb hr hlocks hS hS0 (sI_of (by decide)) (by decide) h dX12_take_61
          · skip
            have h := h.2 c22
            refine lv_aload_n hx hb dX12_take_35 rfl (lv_at hl 0 rfl) ?_
            refine w_getr (j2 := 15) hx hb hts (z_memU u12) hown hK.1 hS f12_23 (by decide) (zkd_of (rfl : zcd wR 0 = 50) rfl) (zrf_of (rfl : zcd wR 0 = 50) rfl) (Or.inl (hts _ (z_mem k967))) dX12_take_36 ?_
            refine lv_iload_n hx hb dX12_take_39 rfl (lv_at hl 3 rfl) ?_
            refine lv_aload_n hx hb dX12_take_40 rfl (lv_at hl 0 rfl) ?_
            refine lv_iload_n hx hb dX12_take_41 rfl (lv_at hl 1 rfl) ?_
            refine lv_iload_n hx hb dX12_take_42 rfl (lv_at hl 3 rfl) ?_
            refine z_iadd hx hb dX12_take_43 ?_
            refine w_i2l hx hb rfl dX12_take_44 ?_
            refine w_calli (va_runV (As := [.long (iL (sI (a0 + x13)))]) (rest := [.int (iI x13), .ref (b + 15)]) ⟨hx, hb, hml, hown, hts⟩ (cR_heardInAll l D dA b M14 (sI (a0 + x13)) _ h) (cwV 1 hts (z_gV k1151 k1152 k1401 k14 k1153) rfl rfl rfl dm_X12_heardInAll ⟨Nat.le_of_ble_eq_true rfl, Nat.le_of_ble_eq_true rfl⟩) ⟨wPre_blind, (w_recv hS hK.1 (by decide) (zkd_of (rfl : zcd wR 0 = 50) rfl) (by decide) (rfl : vwCl[12]? = some (RX12, TX12, 50))), w_pre hS hK⟩ rfl rfl hl.1 rfl (lv_room (Nat.le_of_ble_eq_true rfl)) dX12_take_45 ⟨Nat.le_refl _, Nat.le_refl _⟩) hS0 (fun z26 M25 H locs r27 h hS hS0 => ?_)
            obtain ⟨e28, h⟩ := h
            rw [e28] at hS
            obtain ⟨o29, h⟩ := h
            refine w_iast (z := z26) (n := 60) (i := (sI x13)) hx hb hK.1 (t0 := 0) rfl hS hS0 (by decide) (zkd_of (rfl : zcd wR 15 = 65) rfl) (zln_of (rfl : zcd wR 15 = 65) rfl) rfl o29.1 o29.2 (by decide) dX12_take_48 (fun H locs hS hS0 => ?_)
            obtain ⟨M30, e31⟩ : ∃ M30 : zM, M30 = zup M14 15 (sI x13).toNat z26 := ⟨_, rfl⟩
            rw [← e31] at hS
            have h := h M30 e31
            refine z_iinc (lv' := [(3, .int (iI (x13 + 1))), (0, .ref (b + 0)), (1, .int (iI a0)), (2, .int (iI a1))]) hx hb dX12_take_49 hl (k := 3) rfl (by decide) rfl (fun ls hl => ?_)
            refine lv_goto (tgt := 30) hx hb dX12_take_52 (by decide) ?_
            obtain ⟨n32, h33, h⟩ := h
            exact i21 n32 h33 (x13 + 1) M30 _ _ _ h hS hS0 (lv_sub hl [1, 2, 3, 0] rfl)
      exact L19 n16 0 M1 _ _ _ h17 hS hS0 (lv_sub hl [1, 2, 3, 0] rfl)
    · skip
      have h := h.2 c12
      refine z_iconst hx hb dX12_take_26 ?_
      exact w_zret hx hb hr hlocks hS hS0 (sI_of (by decide)) (by decide) h dX12_take_27

set_option maxRecDepth 100000 in
def wR_gap (a0 : Int) (M : zM) (Q : Int → zM → Prop) : Prop := (∀ M1 : zM, M1 = zup M 0 35 0 → wR_in a0 0 ((M1 0 24) - 1) M1 (fun z4 => (z4 ≠ 0 → ((0 ≤ (sI a0) ∧ (sI a0) < 60) ∧ (∀ M9 : zM, M9 = zup M1 15 (sI a0).toNat (-1) → Q 1 M9))) ∧ (z4 = 0 → Q 0 M1)))
set_option maxHeartbeats 4000000 in
set_option maxRecDepth 100000 in
theorem cR_gap (l : Launch) (D : va_G) (dA : Nat → ClassId) (b : Nat) (M : zM) (a0 : Int)  (Q : Int → zM → Prop) (h : wR_gap a0 M Q) : Met l yX12_gap (.code yX12_gap cX12_gap 2 (some .boolean) :: zt) (z_rm 1) (va_Pc [.ref (b + 0), .int (iI a0)] (wPre D dA vwCl (z_tys dA) wR nR b M)) (va_Qi (wQz Q) (zB D dA vwCl wR nR b) (zA nR b)) 0 0 (zA nR b) := by
  unfold wR_gap at h
  refine Met.ofW (cc := cX12_gap) (maxL := 2) (ret := (some .boolean)) (by decide) rfl ?_
  intro p e s m args below meth c s₁ B hml hv
  obtain ⟨hargs, hS, hK⟩ := hv
  have hx := B.exec
  have hb := B.bytes
  have hr := B.returns
  have hts := atoms_spec (ws := .code yX12_gap cX12_gap 2 (some .boolean) :: zt) B.pre
  have hown : s.vm.findClass RX12 = some m.cls := findClass_of_methodNamed B.named
  have hlocks := B.notSynchronized
  have hS0 : va_S (zA nR b) s.heap s.heap [] := va_S.rf
  have hl := lv_entry ([.ref (b + 0), .int (iI a0)]) (n := 2) (Nat.le_of_ble_eq_true rfl)
  have hent : entryFrame m args 2 = F0 m 0 ((lg_sl ([.ref (b + 0), .int (iI a0)]) ++ List.replicate (2 - (lg_sl ([.ref (b + 0), .int (iI a0)])).length) Slot.unset).toArray) [] := by rw [hargs]; exact lg_entry_eq m ([.ref (b + 0), .int (iI a0)]) 2
  rw [hent]
  generalize (lg_sl ([.ref (b + 0), .int (iI a0)]) ++ List.replicate (2 - (lg_sl ([.ref (b + 0), .int (iI a0)])).length) Slot.unset).toArray = ls at hl ⊢
  have hl : lv_has ls 2 [(0, .ref (b + 0)), (1, .int (iI a0))] := hl
  refine lv_aload_n hx hb dX12_gap_0 rfl (lv_at hl 0 rfl) ?_
  refine z_iconst hx hb dX12_gap_1 ?_
  refine w_puti hx hb hts (z_memU u12) tyX12 tyX12_ok nmX12 hown hK.1 hS hS0 f12_35 (by decide) (zkd_of (rfl : zcd wR 0 = 50) rfl) (Or.inl (hts _ (z_mem k979))) rfl (z := 0) (by decide +kernel) dX12_gap_2 (fun H locs hS hS0 => ?_)
  obtain ⟨M1, e2⟩ : ∃ M1 : zM, M1 = zup M 0 35 0 := ⟨_, rfl⟩
  rw [← e2] at hS
  have h := h M1 e2
  refine lv_iload_n hx hb dX12_gap_5 rfl (lv_at hl 1 rfl) ?_
  refine z_iconst hx hb dX12_gap_6 ?_
  refine lv_aload_n hx hb dX12_gap_7 rfl (lv_at hl 0 rfl) ?_
  refine w_geti hx hb hts (z_memU u12) hown hK.1 hS f12_24 (by decide) (zkd_of (rfl : zcd wR 0 = 50) rfl) (Or.inl (hts _ (z_mem k968))) dX12_gap_8 ?_
  refine z_iconst hx hb dX12_gap_11 ?_
  refine z_isub hx hb dX12_gap_12 ?_
  refine w_callz (va_runS (As := [.int (iI a0), .int (iI 0), .int (iI ((M1 0 24) - 1))]) (rest := []) ⟨hx, hb, hml, hown, hts⟩ (cR_in l D dA b M1 a0 0 ((M1 0 24) - 1) _ h) (va_cwS 3 hts (z_gS k1083 k1084 k14 k1085) rfl rfl rfl dm_X12_in.2 ⟨Nat.le_of_ble_eq_true rfl, Nat.le_of_ble_eq_true rfl⟩) ⟨wPre_blind, w_pre hS hK⟩ rfl rfl hl.1 rfl (lv_room (Nat.le_of_ble_eq_true rfl)) dX12_gap_13 ⟨Nat.le_refl _, Nat.le_refl _⟩) hS0 (fun z4 M3 H locs r5 h hS hS0 => ?_)
  obtain ⟨e6, h⟩ := h
  rw [e6] at hS
  refine w_if_ne (tgt := 21) hx hb (sI_01 r5) dX12_gap_16 (by decide) (fun c7 => ?_) (fun c7 => ?_)
  · skip
    have h := h.1 c7
    refine lv_aload_n hx hb dX12_gap_21 rfl (lv_at hl 0 rfl) ?_
    refine w_getr (j2 := 15) hx hb hts (z_memU u12) hown hK.1 hS f12_23 (by decide) (zkd_of (rfl : zcd wR 0 = 50) rfl) (zrf_of (rfl : zcd wR 0 = 50) rfl) (Or.inl (hts _ (z_mem k967))) dX12_gap_22 ?_
    refine lv_iload_n hx hb dX12_gap_25 rfl (lv_at hl 1 rfl) ?_
    refine z_iconst hx hb dX12_gap_26 ?_
    obtain ⟨o8, h⟩ := h
    refine w_iast (z := (-1)) (n := 60) (i := (sI a0)) hx hb hK.1 (t0 := 0) rfl hS hS0 (by decide) (zkd_of (rfl : zcd wR 15 = 65) rfl) (zln_of (rfl : zcd wR 15 = 65) rfl) rfl o8.1 o8.2 (by decide) dX12_gap_27 (fun H locs hS hS0 => ?_)
    obtain ⟨M9, e10⟩ : ∃ M9 : zM, M9 = zup M1 15 (sI a0).toNat (-1) := ⟨_, rfl⟩
    rw [← e10] at hS
    have h := h M9 e10
    refine z_iconst hx hb dX12_gap_28 ?_
    exact w_zret hx hb hr hlocks hS hS0 (sI_of (by decide)) (by decide) h dX12_gap_29
  · skip
    have h := h.2 c7
    refine z_iconst hx hb dX12_gap_19 ?_
    exact w_zret hx hb hr hlocks hS hS0 (sI_of (by decide)) (by decide) h dX12_gap_20

set_option maxRecDepth 100000 in
def wR_wipe  (M : zM) (Q : Int → zM → Prop) : Prop := (∀ M1 : zM, M1 = zup M 0 35 0 → (∀ M3 : zM, M3 = zup M1 0 24 0 → Q (sI (M1 0 24)) M3))
set_option maxHeartbeats 4000000 in
set_option maxRecDepth 100000 in
theorem cR_wipe (l : Launch) (D : va_G) (dA : Nat → ClassId) (b : Nat) (M : zM)   (Q : Int → zM → Prop) (h : wR_wipe  M Q) : Met l yX12_wipe (.code yX12_wipe cX12_wipe 2 (some .int) :: zt) (z_rm 0) (va_Pc [.ref (b + 0)] (wPre D dA vwCl (z_tys dA) wR nR b M)) (va_Qi (wQi Q) (zB D dA vwCl wR nR b) (zA nR b)) 0 0 (zA nR b) := by
  unfold wR_wipe at h
  refine Met.ofW (cc := cX12_wipe) (maxL := 2) (ret := (some .int)) (by decide) rfl ?_
  intro p e s m args below meth c s₁ B hml hv
  obtain ⟨hargs, hS, hK⟩ := hv
  have hx := B.exec
  have hb := B.bytes
  have hr := B.returns
  have hts := atoms_spec (ws := .code yX12_wipe cX12_wipe 2 (some .int) :: zt) B.pre
  have hown : s.vm.findClass RX12 = some m.cls := findClass_of_methodNamed B.named
  have hlocks := B.notSynchronized
  have hS0 : va_S (zA nR b) s.heap s.heap [] := va_S.rf
  have hl := lv_entry ([.ref (b + 0)]) (n := 2) (Nat.le_of_ble_eq_true rfl)
  have hent : entryFrame m args 2 = F0 m 0 ((lg_sl ([.ref (b + 0)]) ++ List.replicate (2 - (lg_sl ([.ref (b + 0)])).length) Slot.unset).toArray) [] := by rw [hargs]; exact lg_entry_eq m ([.ref (b + 0)]) 2
  rw [hent]
  generalize (lg_sl ([.ref (b + 0)]) ++ List.replicate (2 - (lg_sl ([.ref (b + 0)])).length) Slot.unset).toArray = ls at hl ⊢
  have hl : lv_has ls 2 [(0, .ref (b + 0))] := hl
  refine lv_aload_n hx hb dX12_wipe_0 rfl (lv_at hl 0 rfl) ?_
  refine z_iconst hx hb dX12_wipe_1 ?_
  refine w_puti hx hb hts (z_memU u12) tyX12 tyX12_ok nmX12 hown hK.1 hS hS0 f12_35 (by decide) (zkd_of (rfl : zcd wR 0 = 50) rfl) (Or.inl (hts _ (z_mem k979))) rfl (z := 0) (by decide +kernel) dX12_wipe_2 (fun H locs hS hS0 => ?_)
  obtain ⟨M1, e2⟩ : ∃ M1 : zM, M1 = zup M 0 35 0 := ⟨_, rfl⟩
  rw [← e2] at hS
  have h := h M1 e2
  refine lv_aload_n hx hb dX12_wipe_5 rfl (lv_at hl 0 rfl) ?_
  refine w_geti hx hb hts (z_memU u12) hown hK.1 hS f12_24 (by decide) (zkd_of (rfl : zcd wR 0 = 50) rfl) (Or.inl (hts _ (z_mem k968))) dX12_wipe_6 ?_
  refine lv_istore_n (lv' := [(1, .int (iI (M1 0 24))), (0, .ref (b + 0))]) hx hb dX12_wipe_9 rfl hl (by decide) rfl (fun ls hl => ?_)
  refine lv_aload_n hx hb dX12_wipe_10 rfl (lv_at hl 1 rfl) ?_
  refine z_iconst hx hb dX12_wipe_11 ?_
  refine w_puti hx hb hts (z_memU u12) tyX12 tyX12_ok nmX12 hown hK.1 hS hS0 f12_24 (by decide) (zkd_of (rfl : zcd wR 0 = 50) rfl) (Or.inl (hts _ (z_mem k968))) rfl (z := 0) (by decide +kernel) dX12_wipe_12 (fun H locs hS hS0 => ?_)
  obtain ⟨M3, e4⟩ : ∃ M3 : zM, M3 = zup M1 0 24 0 := ⟨_, rfl⟩
  rw [← e4] at hS
  have h := h M3 e4
  refine lv_iload_n hx hb dX12_wipe_15 rfl (lv_at hl 0 rfl) ?_
  exact w_iret hx hb hr hlocks hS hS0 rfl h dX12_wipe_16

set_option maxRecDepth 100000 in
def wR_isSpan (a0 : Int) (M : zM) (Q : Int → Prop) : Prop := pL1 (fun K2 x1 => ((sI (M 0 24)) ≤ (sI x1) → Q 1) ∧ ((sI x1) < (sI (M 0 24)) → pL1 (fun K14 x10 => ((sI (M 0 24)) ≤ (sI x10) → K2 (x1 + 1)) ∧ ((sI x10) < (sI (M 0 24)) → ((0 ≤ (sI x1) ∧ (sI x1) < 60) ∧ ((sI (M 15 (sI x1).toNat)) = (-1) → K14 (x10 + a0)) ∧ ((sI (M 15 (sI x1).toNat)) ≠ (-1) → ((0 ≤ (sI x10) ∧ (sI x10) < 60) ∧ ((sI (M 15 (sI x10).toNat)) = (-1) → K14 (x10 + a0)) ∧ ((sI (M 15 (sI x10).toNat)) ≠ (-1) → ((0 ≤ (sI x1) ∧ (sI x1) < 60) ∧ ((0 ≤ (sI x10) ∧ (sI x10) < 60) ∧ ((sI (M 15 (sI x1).toNat)) = (sI (M 15 (sI x10).toNat)) → K14 (x10 + a0)) ∧ ((sI (M 15 (sI x1).toNat)) ≠ (sI (M 15 (sI x10).toNat)) → Q 0))))))))) (x1 + a0))) 0
set_option maxHeartbeats 4000000 in
set_option maxRecDepth 100000 in
theorem cR_isSpan (l : Launch) (D : va_G) (dA : Nat → ClassId) (b : Nat) (M : zM) (a0 : Int)  (Q : Int → Prop) (h : wR_isSpan a0 M Q) : Met l yX12_isSpan (.code yX12_isSpan cX12_isSpan 4 (some .boolean) :: zt) (z_rm 0) (va_Pc [.ref (b + 0), .int (iI a0)] (wPre D dA vwCl (z_tys dA) wR nR b M)) (va_Qi (wQz (fun z9 u9 => u9 = M ∧ Q z9)) (zB D dA vwCl wR nR b) (zA nR b)) 0 0 (zA nR b) := by
  unfold wR_isSpan at h
  refine Met.ofW (cc := cX12_isSpan) (maxL := 4) (ret := (some .boolean)) (by decide) rfl ?_
  intro p e s m args below meth c s₁ B hml hv
  obtain ⟨hargs, hS, hK⟩ := hv
  have hx := B.exec
  have hb := B.bytes
  have hr := B.returns
  have hts := atoms_spec (ws := .code yX12_isSpan cX12_isSpan 4 (some .boolean) :: zt) B.pre
  have hown : s.vm.findClass RX12 = some m.cls := findClass_of_methodNamed B.named
  have hlocks := B.notSynchronized
  have hS0 : va_S (zA nR b) s.heap s.heap [] := va_S.rf
  have hl := lv_entry ([.ref (b + 0), .int (iI a0)]) (n := 4) (Nat.le_of_ble_eq_true rfl)
  have hent : entryFrame m args 4 = F0 m 0 ((lg_sl ([.ref (b + 0), .int (iI a0)]) ++ List.replicate (4 - (lg_sl ([.ref (b + 0), .int (iI a0)])).length) Slot.unset).toArray) [] := by rw [hargs]; exact lg_entry_eq m ([.ref (b + 0), .int (iI a0)]) 4
  rw [hent]
  generalize (lg_sl ([.ref (b + 0), .int (iI a0)]) ++ List.replicate (4 - (lg_sl ([.ref (b + 0), .int (iI a0)])).length) Slot.unset).toArray = ls at hl ⊢
  have hl : lv_has ls 4 [(0, .ref (b + 0)), (1, .int (iI a0))] := hl
  refine z_iconst hx hb dX12_isSpan_0 ?_
  refine lv_istore_n (lv' := [(2, .int (iI 0)), (0, .ref (b + 0)), (1, .int (iI a0))]) hx hb dX12_isSpan_1 rfl hl (by decide) rfl (fun ls hl => ?_)
  obtain ⟨I2, ⟨n3, h4⟩, h5⟩ := h
  have L6 : ∀ (n7 : Nat) (x1 : Int) (H : Heap) (locs : List Loc) (ls : Array Slot), I2 n7 x1 → zR D dA vwCl wR nR b M H → va_S (zA nR b) s.heap H locs → lv_has ls 4 [(0, .ref (b + 0)), (1, .int (iI a0)), (2, .int (iI x1))] → W p l e (headSpec (.code yX12_isSpan cX12_isSpan 4 (some .boolean) :: zt) (z_rm 0)).room s m args below meth c H locs 0 0 (MQ below (va_Qi (wQz (fun z9 u9 => u9 = M ∧ Q z9)) (zB D dA vwCl wR nR b) (zA nR b)) args s 0 0 (zA nR b)) (F0 m 2 ls []) := by
    intro n7
    induction n7 using Nat.strongRecOn with
    | ind n7 i8 =>
      intro x1 H locs ls h hS hS0 hl
      have h := h5 n7 x1 h
      refine lv_iload_n hx hb dX12_isSpan_2 rfl (lv_at hl 2 rfl) ?_
      refine lv_aload_n hx hb dX12_isSpan_3 rfl (lv_at hl 0 rfl) ?_
      refine w_geti hx hb hts (z_memU u12) hown hK.1 hS f12_24 (by decide) (zkd_of (rfl : zcd wR 0 = 50) rfl) (Or.inl (hts _ (z_mem k968))) dX12_isSpan_4 ?_
      refine w_icmp_ge (tgt := 72) hx hb rfl rfl dX12_isSpan_7 (by decide) (fun c9 => ?_) (fun c9 => ?_)
      · skip
        have h := h.1 c9
        refine z_iconst hx hb dX12_isSpan_72 ?_
        exact w_zret hx hb hr hlocks hS hS0 (sI_of (by decide)) (by decide) ⟨rfl, h⟩ dX12_isSpan_73
      · skip
        have h := h.2 c9
        refine lv_iload_n hx hb dX12_isSpan_10 rfl (lv_at hl 2 rfl) ?_
        refine lv_iload_n hx hb dX12_isSpan_11 rfl (lv_at hl 1 rfl) ?_
        refine z_iadd hx hb dX12_isSpan_12 ?_
        refine lv_istore_n (lv' := [(3, .int (iI (x1 + a0))), (0, .ref (b + 0)), (1, .int (iI a0)), (2, .int (iI x1))]) hx hb dX12_isSpan_13 rfl hl (by decide) rfl (fun ls hl => ?_)
        obtain ⟨I11, ⟨n12, h13⟩, h14⟩ := h
        have L15 : ∀ (n16 : Nat) (x10 : Int) (H : Heap) (locs : List Loc) (ls : Array Slot), I11 n16 x10 → zR D dA vwCl wR nR b M H → va_S (zA nR b) s.heap H locs → lv_has ls 4 [(0, .ref (b + 0)), (1, .int (iI a0)), (2, .int (iI x1)), (3, .int (iI x10))] → W p l e (headSpec (.code yX12_isSpan cX12_isSpan 4 (some .boolean) :: zt) (z_rm 0)).room s m args below meth c H locs 0 0 (MQ below (va_Qi (wQz (fun z9 u9 => u9 = M ∧ Q z9)) (zB D dA vwCl wR nR b) (zA nR b)) args s 0 0 (zA nR b)) (F0 m 14 ls []) := by
          intro n16
          induction n16 using Nat.strongRecOn with
          | ind n16 i17 =>
            intro x10 H locs ls h hS hS0 hl
            have h := h14 n16 x10 h
            refine lv_iload_n hx hb dX12_isSpan_14 rfl (lv_at hl 3 rfl) ?_
            refine lv_aload_n hx hb dX12_isSpan_15 rfl (lv_at hl 0 rfl) ?_
            refine w_geti hx hb hts (z_memU u12) hown hK.1 hS f12_24 (by decide) (zkd_of (rfl : zcd wR 0 = 50) rfl) (Or.inl (hts _ (z_mem k968))) dX12_isSpan_16 ?_
            refine w_icmp_ge (tgt := 66) hx hb rfl rfl dX12_isSpan_19 (by decide) (fun c18 => ?_) (fun c18 => ?_)
            · skip
              have h := h.1 c18
              refine z_iinc (lv' := [(2, .int (iI (x1 + 1))), (0, .ref (b + 0)), (1, .int (iI a0)), (3, .int (iI x10))]) hx hb dX12_isSpan_66 hl (k := 2) rfl (by decide) rfl (fun ls hl => ?_)
              refine lv_goto (tgt := 2) hx hb dX12_isSpan_69 (by decide) ?_
              obtain ⟨n19, h20, h⟩ := h
              exact i8 n19 h20 (x1 + 1) _ _ _ h hS hS0 (lv_sub hl [1, 2, 0] rfl)
            · skip
              have h := h.2 c18
              refine lv_aload_n hx hb dX12_isSpan_22 rfl (lv_at hl 0 rfl) ?_
              refine w_getr (j2 := 15) hx hb hts (z_memU u12) hown hK.1 hS f12_23 (by decide) (zkd_of (rfl : zcd wR 0 = 50) rfl) (zrf_of (rfl : zcd wR 0 = 50) rfl) (Or.inl (hts _ (z_mem k967))) dX12_isSpan_23 ?_
              refine lv_iload_n hx hb dX12_isSpan_26 rfl (lv_at hl 2 rfl) ?_
              obtain ⟨o21, h⟩ := h
              refine w_iald (n := 60) (i := (sI x1)) hx hb hK.1 (t0 := 0) rfl hS (by decide) (zkd_of (rfl : zcd wR 15 = 65) rfl) (zln_of (rfl : zcd wR 15 = 65) rfl) rfl o21.1 o21.2 (by decide) dX12_isSpan_27 ?_
              refine z_iconst hx hb dX12_isSpan_28 ?_
              refine w_icmp_eq (tgt := 59) hx hb rfl (sI_of (by decide)) dX12_isSpan_29 (by decide) (fun c22 => ?_) (fun c22 => ?_)
              · skip
                have h := h.1 c22
                refine lv_iload_n hx hb dX12_isSpan_59 rfl (lv_at hl 3 rfl) ?_
                refine lv_iload_n hx hb dX12_isSpan_60 rfl (lv_at hl 1 rfl) ?_
                refine z_iadd hx hb dX12_isSpan_61 ?_
                refine lv_istore_n (lv' := [(3, .int (iI (x10 + a0))), (0, .ref (b + 0)), (1, .int (iI a0)), (2, .int (iI x1))]) hx hb dX12_isSpan_62 rfl hl (by decide) rfl (fun ls hl => ?_)
                refine lv_goto (tgt := 14) hx hb dX12_isSpan_63 (by decide) ?_
                obtain ⟨n23, h24, h⟩ := h
                exact i17 n23 h24 (x10 + a0) _ _ _ h hS hS0 (lv_sub hl [1, 2, 3, 0] rfl)
              · skip
                have h := h.2 c22
                refine lv_aload_n hx hb dX12_isSpan_32 rfl (lv_at hl 0 rfl) ?_
                refine w_getr (j2 := 15) hx hb hts (z_memU u12) hown hK.1 hS f12_23 (by decide) (zkd_of (rfl : zcd wR 0 = 50) rfl) (zrf_of (rfl : zcd wR 0 = 50) rfl) (Or.inl (hts _ (z_mem k967))) dX12_isSpan_33 ?_
                refine lv_iload_n hx hb dX12_isSpan_36 rfl (lv_at hl 3 rfl) ?_
                obtain ⟨o25, h⟩ := h
                refine w_iald (n := 60) (i := (sI x10)) hx hb hK.1 (t0 := 0) rfl hS (by decide) (zkd_of (rfl : zcd wR 15 = 65) rfl) (zln_of (rfl : zcd wR 15 = 65) rfl) rfl o25.1 o25.2 (by decide) dX12_isSpan_37 ?_
                refine z_iconst hx hb dX12_isSpan_38 ?_
                refine w_icmp_eq (tgt := 59) hx hb rfl (sI_of (by decide)) dX12_isSpan_39 (by decide) (fun c26 => ?_) (fun c26 => ?_)
                · skip
                  have h := h.1 c26
                  refine lv_iload_n hx hb dX12_isSpan_59 rfl (lv_at hl 3 rfl) ?_
                  refine lv_iload_n hx hb dX12_isSpan_60 rfl (lv_at hl 1 rfl) ?_
                  refine z_iadd hx hb dX12_isSpan_61 ?_
                  refine lv_istore_n (lv' := [(3, .int (iI (x10 + a0))), (0, .ref (b + 0)), (1, .int (iI a0)), (2, .int (iI x1))]) hx hb dX12_isSpan_62 rfl hl (by decide) rfl (fun ls hl => ?_)
                  refine lv_goto (tgt := 14) hx hb dX12_isSpan_63 (by decide) ?_
                  obtain ⟨n27, h28, h⟩ := h
                  exact i17 n27 h28 (x10 + a0) _ _ _ h hS hS0 (lv_sub hl [1, 2, 3, 0] rfl)
                · skip
                  have h := h.2 c26
                  refine lv_aload_n hx hb dX12_isSpan_42 rfl (lv_at hl 0 rfl) ?_
                  refine w_getr (j2 := 15) hx hb hts (z_memU u12) hown hK.1 hS f12_23 (by decide) (zkd_of (rfl : zcd wR 0 = 50) rfl) (zrf_of (rfl : zcd wR 0 = 50) rfl) (Or.inl (hts _ (z_mem k967))) dX12_isSpan_43 ?_
                  refine lv_iload_n hx hb dX12_isSpan_46 rfl (lv_at hl 2 rfl) ?_
                  obtain ⟨o29, h⟩ := h
                  refine w_iald (n := 60) (i := (sI x1)) hx hb hK.1 (t0 := 0) rfl hS (by decide) (zkd_of (rfl : zcd wR 15 = 65) rfl) (zln_of (rfl : zcd wR 15 = 65) rfl) rfl o29.1 o29.2 (by decide) dX12_isSpan_47 ?_
                  refine lv_aload_n hx hb dX12_isSpan_48 rfl (lv_at hl 0 rfl) ?_
                  refine w_getr (j2 := 15) hx hb hts (z_memU u12) hown hK.1 hS f12_23 (by decide) (zkd_of (rfl : zcd wR 0 = 50) rfl) (zrf_of (rfl : zcd wR 0 = 50) rfl) (Or.inl (hts _ (z_mem k967))) dX12_isSpan_49 ?_
                  refine lv_iload_n hx hb dX12_isSpan_52 rfl (lv_at hl 3 rfl) ?_
                  obtain ⟨o30, h⟩ := h
                  refine w_iald (n := 60) (i := (sI x10)) hx hb hK.1 (t0 := 0) rfl hS (by decide) (zkd_of (rfl : zcd wR 15 = 65) rfl) (zln_of (rfl : zcd wR 15 = 65) rfl) rfl o30.1 o30.2 (by decide) dX12_isSpan_53 ?_
                  refine w_icmp_eq (tgt := 59) hx hb rfl rfl dX12_isSpan_54 (by decide) (fun c31 => ?_) (fun c31 => ?_)
                  · skip
                    have h := h.1 c31
                    refine lv_iload_n hx hb dX12_isSpan_59 rfl (lv_at hl 3 rfl) ?_
                    refine lv_iload_n hx hb dX12_isSpan_60 rfl (lv_at hl 1 rfl) ?_
                    refine z_iadd hx hb dX12_isSpan_61 ?_
                    refine lv_istore_n (lv' := [(3, .int (iI (x10 + a0))), (0, .ref (b + 0)), (1, .int (iI a0)), (2, .int (iI x1))]) hx hb dX12_isSpan_62 rfl hl (by decide) rfl (fun ls hl => ?_)
                    refine lv_goto (tgt := 14) hx hb dX12_isSpan_63 (by decide) ?_
                    obtain ⟨n32, h33, h⟩ := h
                    exact i17 n32 h33 (x10 + a0) _ _ _ h hS hS0 (lv_sub hl [1, 2, 3, 0] rfl)
                  · skip
                    have h := h.2 c31
                    refine z_iconst hx hb dX12_isSpan_57 ?_
                    exact w_zret hx hb hr hlocks hS hS0 (sI_of (by decide)) (by decide) ⟨rfl, h⟩ dX12_isSpan_58
        exact L15 n12 (x1 + a0) _ _ _ h13 hS hS0 (lv_sub hl [1, 2, 3, 0] rfl)
  exact L6 n3 0 _ _ _ h4 hS hS0 (lv_sub hl [1, 2, 0] rfl)

set_option maxRecDepth 100000 in
def wR_span (a0 : Int) (M : zM) (Q : Int → zM → Prop) : Prop := (∀ M1 : zM, M1 = zup M 0 35 0 → pL2 (fun K9 x3 x4 => (24 < (sI x4) → Q (-1) M1) ∧ ((sI x4) ≤ 24 → ((sI x3) < 0 → Q (-1) M1) ∧ (0 ≤ (sI x3) → wR_isSpan x4 M1 (fun z15 => (z15 ≠ 0 → ((sI x3) ≠ 0 → K9 (x3 + (-1)) (x4 + 1)) ∧ ((sI x3) = 0 → Q (sI x4) M1)) ∧ (z15 = 0 → K9 x3 (x4 + 1)))))) a0 1)
set_option maxHeartbeats 4000000 in
set_option maxRecDepth 100000 in
theorem cR_span (l : Launch) (D : va_G) (dA : Nat → ClassId) (b : Nat) (M : zM) (a0 : Int)  (Q : Int → zM → Prop) (h : wR_span a0 M Q) : Met l yX12_span (.code yX12_span cX12_span 4 (some .int) :: zt) (z_rm 1) (va_Pc [.ref (b + 0), .int (iI a0)] (wPre D dA vwCl (z_tys dA) wR nR b M)) (va_Qi (wQi Q) (zB D dA vwCl wR nR b) (zA nR b)) 0 0 (zA nR b) := by
  unfold wR_span at h
  refine Met.ofW (cc := cX12_span) (maxL := 4) (ret := (some .int)) (by decide) rfl ?_
  intro p e s m args below meth c s₁ B hml hv
  obtain ⟨hargs, hS, hK⟩ := hv
  have hx := B.exec
  have hb := B.bytes
  have hr := B.returns
  have hts := atoms_spec (ws := .code yX12_span cX12_span 4 (some .int) :: zt) B.pre
  have hown : s.vm.findClass RX12 = some m.cls := findClass_of_methodNamed B.named
  have hlocks := B.notSynchronized
  have hS0 : va_S (zA nR b) s.heap s.heap [] := va_S.rf
  have hl := lv_entry ([.ref (b + 0), .int (iI a0)]) (n := 4) (Nat.le_of_ble_eq_true rfl)
  have hent : entryFrame m args 4 = F0 m 0 ((lg_sl ([.ref (b + 0), .int (iI a0)]) ++ List.replicate (4 - (lg_sl ([.ref (b + 0), .int (iI a0)])).length) Slot.unset).toArray) [] := by rw [hargs]; exact lg_entry_eq m ([.ref (b + 0), .int (iI a0)]) 4
  rw [hent]
  generalize (lg_sl ([.ref (b + 0), .int (iI a0)]) ++ List.replicate (4 - (lg_sl ([.ref (b + 0), .int (iI a0)])).length) Slot.unset).toArray = ls at hl ⊢
  have hl : lv_has ls 4 [(0, .ref (b + 0)), (1, .int (iI a0))] := hl
  refine lv_aload_n hx hb dX12_span_0 rfl (lv_at hl 0 rfl) ?_
  refine z_iconst hx hb dX12_span_1 ?_
  refine w_puti hx hb hts (z_memU u12) tyX12 tyX12_ok nmX12 hown hK.1 hS hS0 f12_35 (by decide) (zkd_of (rfl : zcd wR 0 = 50) rfl) (Or.inl (hts _ (z_mem k979))) rfl (z := 0) (by decide +kernel) dX12_span_2 (fun H locs hS hS0 => ?_)
  obtain ⟨M1, e2⟩ : ∃ M1 : zM, M1 = zup M 0 35 0 := ⟨_, rfl⟩
  rw [← e2] at hS
  have h := h M1 e2
  refine lv_iload_n hx hb dX12_span_5 rfl (lv_at hl 1 rfl) ?_
  refine lv_istore_n (lv' := [(2, .int (iI a0)), (0, .ref (b + 0)), (1, .int (iI a0))]) hx hb dX12_span_6 rfl hl (by decide) rfl (fun ls hl => ?_)
  refine z_iconst hx hb dX12_span_7 ?_
  refine lv_istore_n (lv' := [(3, .int (iI 1)), (2, .int (iI a0)), (0, .ref (b + 0)), (1, .int (iI a0))]) hx hb dX12_span_8 rfl hl (by decide) rfl (fun ls hl => ?_)
  obtain ⟨I5, ⟨n6, h7⟩, h8⟩ := h
  have L9 : ∀ (n10 : Nat) (x3 x4 : Int) (H : Heap) (locs : List Loc) (ls : Array Slot), I5 n10 x3 x4 → zR D dA vwCl wR nR b M1 H → va_S (zA nR b) s.heap H locs → lv_has ls 4 [(0, .ref (b + 0)), (2, .int (iI x3)), (3, .int (iI x4))] → W p l e (headSpec (.code yX12_span cX12_span 4 (some .int) :: zt) (z_rm 1)).room s m args below meth c H locs 0 0 (MQ below (va_Qi (wQi Q) (zB D dA vwCl wR nR b) (zA nR b)) args s 0 0 (zA nR b)) (F0 m 9 ls []) := by
    intro n10
    induction n10 using Nat.strongRecOn with
    | ind n10 i11 =>
      intro x3 x4 H locs ls h hS hS0 hl
      have h := h8 n10 x3 x4 h
      refine lv_iload_n hx hb dX12_span_9 rfl (lv_at hl 2 rfl) ?_
      refine z_bipush hx hb (by decide) dX12_span_10 ?_
      refine w_icmp_gt (tgt := 45) hx hb rfl (sI_of (by decide)) dX12_span_12 (by decide) (fun c12 => ?_) (fun c12 => ?_)
      · skip
        have h := h.1 c12
        refine z_iconst hx hb dX12_span_45 ?_
        exact w_iret hx hb hr hlocks hS hS0 (sI_of (by decide)) h dX12_span_46
      · skip
        have h := h.2 c12
        refine lv_iload_n hx hb dX12_span_15 rfl (lv_at hl 1 rfl) ?_
        refine w_if_lt (tgt := 45) hx hb rfl dX12_span_16 (by decide) (fun c13 => ?_) (fun c13 => ?_)
        · skip
          have h := h.1 c13
          refine z_iconst hx hb dX12_span_45 ?_
          exact w_iret hx hb hr hlocks hS hS0 (sI_of (by decide)) h dX12_span_46
        · skip
          have h := h.2 c13
          refine lv_aload_n hx hb dX12_span_19 rfl (lv_at hl 0 rfl) ?_
          refine lv_iload_n hx hb dX12_span_20 rfl (lv_at hl 2 rfl) ?_
          refine w_callz (va_runV (As := [.int (iI x4)]) (rest := []) ⟨hx, hb, hml, hown, hts⟩ (cR_isSpan l D dA b M1 x4 _ h) (cwV 1 hts (z_gV k1284 k1285 k1416 k14 k1286) rfl rfl rfl dm_X12_isSpan ⟨Nat.le_of_ble_eq_true rfl, Nat.le_of_ble_eq_true rfl⟩) ⟨wPre_blind, (w_recv hS hK.1 (by decide) (zkd_of (rfl : zcd wR 0 = 50) rfl) (by decide) (rfl : vwCl[12]? = some (RX12, TX12, 50))), w_pre hS hK⟩ rfl rfl hl.1 rfl (lv_room (Nat.le_of_ble_eq_true rfl)) dX12_span_21 ⟨Nat.le_refl _, Nat.le_refl _⟩) hS0 (fun z15 M14 H locs r16 h hS hS0 => ?_)
          obtain ⟨e17, h⟩ := h
          rw [e17] at hS
          refine w_if_ne (tgt := 30) hx hb (sI_01 r16) dX12_span_24 (by decide) (fun c18 => ?_) (fun c18 => ?_)
          · skip
            have h := h.1 c18
            refine lv_iload_n hx hb dX12_span_30 rfl (lv_at hl 1 rfl) ?_
            refine w_if_ne (tgt := 36) hx hb rfl dX12_span_31 (by decide) (fun c19 => ?_) (fun c19 => ?_)
            · skip
              have h := h.1 c19
              refine z_iinc (lv' := [(2, .int (iI (x3 + (-1)))), (0, .ref (b + 0)), (3, .int (iI x4))]) hx hb dX12_span_36 hl (k := 1) rfl (by decide) rfl (fun ls hl => ?_)
              refine z_iinc (lv' := [(3, .int (iI (x4 + 1))), (2, .int (iI (x3 + (-1)))), (0, .ref (b + 0))]) hx hb dX12_span_39 hl (k := 2) rfl (by decide) rfl (fun ls hl => ?_)
              refine lv_goto (tgt := 9) hx hb dX12_span_42 (by decide) ?_
              obtain ⟨n20, h21, h⟩ := h
              exact i11 n20 h21 (x3 + (-1)) (x4 + 1) _ _ _ h hS hS0 (lv_sub hl [2, 1, 0] rfl)
            · skip
              have h := h.2 c19
              refine lv_iload_n hx hb dX12_span_34 rfl (lv_at hl 2 rfl) ?_
              exact w_iret hx hb hr hlocks hS hS0 rfl h dX12_span_35
          · skip
            have h := h.2 c18
            refine lv_goto (tgt := 39) hx hb dX12_span_27 (by decide) ?_
            refine z_iinc (lv' := [(3, .int (iI (x4 + 1))), (0, .ref (b + 0)), (2, .int (iI x3))]) hx hb dX12_span_39 hl (k := 2) rfl (by decide) rfl (fun ls hl => ?_)
            refine lv_goto (tgt := 9) hx hb dX12_span_42 (by decide) ?_
            obtain ⟨n22, h23, h⟩ := h
            exact i11 n22 h23 x3 (x4 + 1) _ _ _ h hS hS0 (lv_sub hl [1, 2, 0] rfl)
  exact L9 n6 a0 1 _ _ _ h7 hS hS0 (lv_sub hl [2, 1, 0] rfl)

set_option maxRecDepth 100000 in
def wR_most (a0 : Int) (a1 : Int) (M : zM) (Q : Int → Prop) : Prop := (((sI a0) ≠ 0) ∧ pL2 (fun K9 x2 x3 => ((sI (M 0 24)) ≤ (sI x3) → Q (sI x2)) ∧ ((sI x3) < (sI (M 0 24)) → ((0 ≤ (sI x3) ∧ (sI x3) < 60) ∧ ((sI (M 15 (sI x3).toNat)) = (-1) → K9 x2 (x3 + a0)) ∧ ((sI (M 15 (sI x3).toNat)) ≠ (-1) → ((0 ≤ (sI x3) ∧ (sI x3) < 60) ∧ K9 (andI x2 (M 15 (sI x3).toNat)) (x3 + a0)))))) 1022 ((sI a1).tmod (sI a0)))
set_option maxHeartbeats 4000000 in
set_option maxRecDepth 100000 in
theorem cR_most (l : Launch) (D : va_G) (dA : Nat → ClassId) (b : Nat) (M : zM) (a0 : Int) (a1 : Int)  (Q : Int → Prop) (h : wR_most a0 a1 M Q) : Met l yX12_most (.code yX12_most cX12_most 5 (some .int) :: zt) (z_rm 0) (va_Pc [.ref (b + 0), .int (iI a0), .int (iI a1)] (wPre D dA vwCl (z_tys dA) wR nR b M)) (va_Qi (wQi (fun z9 u9 => u9 = M ∧ Q z9)) (zB D dA vwCl wR nR b) (zA nR b)) 0 0 (zA nR b) := by
  unfold wR_most at h
  refine Met.ofW (cc := cX12_most) (maxL := 5) (ret := (some .int)) (by decide) rfl ?_
  intro p e s m args below meth c s₁ B hml hv
  obtain ⟨hargs, hS, hK⟩ := hv
  have hx := B.exec
  have hb := B.bytes
  have hr := B.returns
  have hts := atoms_spec (ws := .code yX12_most cX12_most 5 (some .int) :: zt) B.pre
  have hown : s.vm.findClass RX12 = some m.cls := findClass_of_methodNamed B.named
  have hlocks := B.notSynchronized
  have hS0 : va_S (zA nR b) s.heap s.heap [] := va_S.rf
  have hl := lv_entry ([.ref (b + 0), .int (iI a0), .int (iI a1)]) (n := 5) (Nat.le_of_ble_eq_true rfl)
  have hent : entryFrame m args 5 = F0 m 0 ((lg_sl ([.ref (b + 0), .int (iI a0), .int (iI a1)]) ++ List.replicate (5 - (lg_sl ([.ref (b + 0), .int (iI a0), .int (iI a1)])).length) Slot.unset).toArray) [] := by rw [hargs]; exact lg_entry_eq m ([.ref (b + 0), .int (iI a0), .int (iI a1)]) 5
  rw [hent]
  generalize (lg_sl ([.ref (b + 0), .int (iI a0), .int (iI a1)]) ++ List.replicate (5 - (lg_sl ([.ref (b + 0), .int (iI a0), .int (iI a1)])).length) Slot.unset).toArray = ls at hl ⊢
  have hl : lv_has ls 5 [(0, .ref (b + 0)), (1, .int (iI a0)), (2, .int (iI a1))] := hl
  refine z_sipush hx hb (by decide) dX12_most_0 ?_
  refine lv_istore_n (lv' := [(3, .int (iI 1022)), (0, .ref (b + 0)), (1, .int (iI a0)), (2, .int (iI a1))]) hx hb dX12_most_3 rfl hl (by decide) rfl (fun ls hl => ?_)
  refine lv_iload_n hx hb dX12_most_4 rfl (lv_at hl 3 rfl) ?_
  refine lv_iload_n hx hb dX12_most_5 rfl (lv_at hl 2 rfl) ?_
  obtain ⟨o1, h⟩ := h
  refine w_irem hx hb rfl rfl o1 dX12_most_6 ?_
  refine lv_istore (lv' := [(4, .int (iI ((sI a1).tmod (sI a0)))), (3, .int (iI 1022)), (0, .ref (b + 0)), (1, .int (iI a0)), (2, .int (iI a1))]) hx hb dX12_most_7 hl (by decide) rfl (fun ls hl => ?_)
  obtain ⟨I4, ⟨n5, h6⟩, h7⟩ := h
  have L8 : ∀ (n9 : Nat) (x2 x3 : Int) (H : Heap) (locs : List Loc) (ls : Array Slot), I4 n9 x2 x3 → zR D dA vwCl wR nR b M H → va_S (zA nR b) s.heap H locs → lv_has ls 5 [(0, .ref (b + 0)), (1, .int (iI a0)), (3, .int (iI x2)), (4, .int (iI x3))] → W p l e (headSpec (.code yX12_most cX12_most 5 (some .int) :: zt) (z_rm 0)).room s m args below meth c H locs 0 0 (MQ below (va_Qi (wQi (fun z9 u9 => u9 = M ∧ Q z9)) (zB D dA vwCl wR nR b) (zA nR b)) args s 0 0 (zA nR b)) (F0 m 9 ls []) := by
    intro n9
    induction n9 using Nat.strongRecOn with
    | ind n9 i10 =>
      intro x2 x3 H locs ls h hS hS0 hl
      have h := h7 n9 x2 x3 h
      refine lv_iload hx hb dX12_most_9 (lv_at hl 3 rfl) ?_
      refine lv_aload_n hx hb dX12_most_11 rfl (lv_at hl 0 rfl) ?_
      refine w_geti hx hb hts (z_memU u12) hown hK.1 hS f12_24 (by decide) (zkd_of (rfl : zcd wR 0 = 50) rfl) (Or.inl (hts _ (z_mem k968))) dX12_most_12 ?_
      refine w_icmp_ge (tgt := 48) hx hb rfl rfl dX12_most_15 (by decide) (fun c11 => ?_) (fun c11 => ?_)
      · skip
        have h := h.1 c11
        refine lv_iload_n hx hb dX12_most_48 rfl (lv_at hl 2 rfl) ?_
        exact w_iret hx hb hr hlocks hS hS0 rfl ⟨rfl, h⟩ dX12_most_49
      · skip
        have h := h.2 c11
        refine lv_aload_n hx hb dX12_most_18 rfl (lv_at hl 0 rfl) ?_
        refine w_getr (j2 := 15) hx hb hts (z_memU u12) hown hK.1 hS f12_23 (by decide) (zkd_of (rfl : zcd wR 0 = 50) rfl) (zrf_of (rfl : zcd wR 0 = 50) rfl) (Or.inl (hts _ (z_mem k967))) dX12_most_19 ?_
        refine lv_iload hx hb dX12_most_22 (lv_at hl 3 rfl) ?_
        obtain ⟨o12, h⟩ := h
        refine w_iald (n := 60) (i := (sI x3)) hx hb hK.1 (t0 := 0) rfl hS (by decide) (zkd_of (rfl : zcd wR 15 = 65) rfl) (zln_of (rfl : zcd wR 15 = 65) rfl) rfl o12.1 o12.2 (by decide) dX12_most_24 ?_
        refine z_iconst hx hb dX12_most_25 ?_
        refine w_icmp_eq (tgt := 39) hx hb rfl (sI_of (by decide)) dX12_most_26 (by decide) (fun c13 => ?_) (fun c13 => ?_)
        · skip
          have h := h.1 c13
          refine lv_iload hx hb dX12_most_39 (lv_at hl 3 rfl) ?_
          refine lv_iload_n hx hb dX12_most_41 rfl (lv_at hl 1 rfl) ?_
          refine z_iadd hx hb dX12_most_42 ?_
          refine lv_istore (lv' := [(4, .int (iI (x3 + a0))), (0, .ref (b + 0)), (1, .int (iI a0)), (3, .int (iI x2))]) hx hb dX12_most_43 hl (by decide) rfl (fun ls hl => ?_)
          refine lv_goto (tgt := 9) hx hb dX12_most_45 (by decide) ?_
          obtain ⟨n14, h15, h⟩ := h
          exact i10 n14 h15 x2 (x3 + a0) _ _ _ h hS hS0 (lv_sub hl [1, 2, 3, 0] rfl)
        · skip
          have h := h.2 c13
          refine lv_iload_n hx hb dX12_most_29 rfl (lv_at hl 2 rfl) ?_
          refine lv_aload_n hx hb dX12_most_30 rfl (lv_at hl 0 rfl) ?_
          refine w_getr (j2 := 15) hx hb hts (z_memU u12) hown hK.1 hS f12_23 (by decide) (zkd_of (rfl : zcd wR 0 = 50) rfl) (zrf_of (rfl : zcd wR 0 = 50) rfl) (Or.inl (hts _ (z_mem k967))) dX12_most_31 ?_
          refine lv_iload hx hb dX12_most_34 (lv_at hl 3 rfl) ?_
          obtain ⟨o16, h⟩ := h
          refine w_iald (n := 60) (i := (sI x3)) hx hb hK.1 (t0 := 0) rfl hS (by decide) (zkd_of (rfl : zcd wR 15 = 65) rfl) (zln_of (rfl : zcd wR 15 = 65) rfl) rfl o16.1 o16.2 (by decide) dX12_most_36 ?_
          refine w_iand hx hb dX12_most_37 ?_
          refine lv_istore_n (lv' := [(3, .int (iI (andI x2 (M 15 (sI x3).toNat)))), (0, .ref (b + 0)), (1, .int (iI a0)), (4, .int (iI x3))]) hx hb dX12_most_38 rfl hl (by decide) rfl (fun ls hl => ?_)
          refine lv_iload hx hb dX12_most_39 (lv_at hl 3 rfl) ?_
          refine lv_iload_n hx hb dX12_most_41 rfl (lv_at hl 2 rfl) ?_
          refine z_iadd hx hb dX12_most_42 ?_
          refine lv_istore (lv' := [(4, .int (iI (x3 + a0))), (3, .int (iI (andI x2 (M 15 (sI x3).toNat)))), (0, .ref (b + 0)), (1, .int (iI a0))]) hx hb dX12_most_43 hl (by decide) rfl (fun ls hl => ?_)
          refine lv_goto (tgt := 9) hx hb dX12_most_45 (by decide) ?_
          obtain ⟨n17, h18, h⟩ := h
          exact i10 n17 h18 (andI x2 (M 15 (sI x3).toNat)) (x3 + a0) _ _ _ h hS hS0 (lv_sub hl [2, 3, 1, 0] rfl)
  exact L8 n5 1022 ((sI a1).tmod (sI a0)) _ _ _ h6 hS hS0 (lv_sub hl [2, 3, 1, 0] rfl)

set_option maxRecDepth 100000 in
def wR_isPair (a0 : Int) (a1 : Int) (M : zM) (Q : Int → Prop) : Prop := pL1 (fun K2 x1 => ((sI (M 0 24)) ≤ (sI x1) → Q 1) ∧ ((sI x1) < (sI (M 0 24)) → ((0 ≤ (sI x1) ∧ (sI x1) < 60) ∧ ((sI (M 15 (sI x1).toNat)) = (-1) → K2 (x1 + 1)) ∧ ((sI (M 15 (sI x1).toNat)) ≠ (-1) → wR_most a0 x1 M (fun z15 => wR_most a1 x1 M (fun z19 => ((0 ≤ (sI x1) ∧ (sI x1) < 60) ∧ ((orI z15 z19) = (sI (M 15 (sI x1).toNat)) → K2 (x1 + 1)) ∧ ((orI z15 z19) ≠ (sI (M 15 (sI x1).toNat)) → Q 0)))))))) 0
set_option maxHeartbeats 4000000 in
set_option maxRecDepth 100000 in
theorem cR_isPair (l : Launch) (D : va_G) (dA : Nat → ClassId) (b : Nat) (M : zM) (a0 : Int) (a1 : Int)  (Q : Int → Prop) (h : wR_isPair a0 a1 M Q) : Met l yX12_isPair (.code yX12_isPair cX12_isPair 4 (some .boolean) :: zt) (z_rm 1) (va_Pc [.ref (b + 0), .int (iI a0), .int (iI a1)] (wPre D dA vwCl (z_tys dA) wR nR b M)) (va_Qi (wQz (fun z9 u9 => u9 = M ∧ Q z9)) (zB D dA vwCl wR nR b) (zA nR b)) 0 0 (zA nR b) := by
  unfold wR_isPair at h
  refine Met.ofW (cc := cX12_isPair) (maxL := 4) (ret := (some .boolean)) (by decide) rfl ?_
  intro p e s m args below meth c s₁ B hml hv
  obtain ⟨hargs, hS, hK⟩ := hv
  have hx := B.exec
  have hb := B.bytes
  have hr := B.returns
  have hts := atoms_spec (ws := .code yX12_isPair cX12_isPair 4 (some .boolean) :: zt) B.pre
  have hown : s.vm.findClass RX12 = some m.cls := findClass_of_methodNamed B.named
  have hlocks := B.notSynchronized
  have hS0 : va_S (zA nR b) s.heap s.heap [] := va_S.rf
  have hl := lv_entry ([.ref (b + 0), .int (iI a0), .int (iI a1)]) (n := 4) (Nat.le_of_ble_eq_true rfl)
  have hent : entryFrame m args 4 = F0 m 0 ((lg_sl ([.ref (b + 0), .int (iI a0), .int (iI a1)]) ++ List.replicate (4 - (lg_sl ([.ref (b + 0), .int (iI a0), .int (iI a1)])).length) Slot.unset).toArray) [] := by rw [hargs]; exact lg_entry_eq m ([.ref (b + 0), .int (iI a0), .int (iI a1)]) 4
  rw [hent]
  generalize (lg_sl ([.ref (b + 0), .int (iI a0), .int (iI a1)]) ++ List.replicate (4 - (lg_sl ([.ref (b + 0), .int (iI a0), .int (iI a1)])).length) Slot.unset).toArray = ls at hl ⊢
  have hl : lv_has ls 4 [(0, .ref (b + 0)), (1, .int (iI a0)), (2, .int (iI a1))] := hl
  refine z_iconst hx hb dX12_isPair_0 ?_
  refine lv_istore_n (lv' := [(3, .int (iI 0)), (0, .ref (b + 0)), (1, .int (iI a0)), (2, .int (iI a1))]) hx hb dX12_isPair_1 rfl hl (by decide) rfl (fun ls hl => ?_)
  obtain ⟨I2, ⟨n3, h4⟩, h5⟩ := h
  have L6 : ∀ (n7 : Nat) (x1 : Int) (H : Heap) (locs : List Loc) (ls : Array Slot), I2 n7 x1 → zR D dA vwCl wR nR b M H → va_S (zA nR b) s.heap H locs → lv_has ls 4 [(0, .ref (b + 0)), (1, .int (iI a0)), (2, .int (iI a1)), (3, .int (iI x1))] → W p l e (headSpec (.code yX12_isPair cX12_isPair 4 (some .boolean) :: zt) (z_rm 1)).room s m args below meth c H locs 0 0 (MQ below (va_Qi (wQz (fun z9 u9 => u9 = M ∧ Q z9)) (zB D dA vwCl wR nR b) (zA nR b)) args s 0 0 (zA nR b)) (F0 m 2 ls []) := by
    intro n7
    induction n7 using Nat.strongRecOn with
    | ind n7 i8 =>
      intro x1 H locs ls h hS hS0 hl
      have h := h5 n7 x1 h
      refine lv_iload_n hx hb dX12_isPair_2 rfl (lv_at hl 3 rfl) ?_
      refine lv_aload_n hx hb dX12_isPair_3 rfl (lv_at hl 0 rfl) ?_
      refine w_geti hx hb hts (z_memU u12) hown hK.1 hS f12_24 (by decide) (zkd_of (rfl : zcd wR 0 = 50) rfl) (Or.inl (hts _ (z_mem k968))) dX12_isPair_4 ?_
      refine w_icmp_ge (tgt := 50) hx hb rfl rfl dX12_isPair_7 (by decide) (fun c9 => ?_) (fun c9 => ?_)
      · skip
        have h := h.1 c9
        refine z_iconst hx hb dX12_isPair_50 ?_
        exact w_zret hx hb hr hlocks hS hS0 (sI_of (by decide)) (by decide) ⟨rfl, h⟩ dX12_isPair_51
      · skip
        have h := h.2 c9
        refine lv_aload_n hx hb dX12_isPair_10 rfl (lv_at hl 0 rfl) ?_
        refine w_getr (j2 := 15) hx hb hts (z_memU u12) hown hK.1 hS f12_23 (by decide) (zkd_of (rfl : zcd wR 0 = 50) rfl) (zrf_of (rfl : zcd wR 0 = 50) rfl) (Or.inl (hts _ (z_mem k967))) dX12_isPair_11 ?_
        refine lv_iload_n hx hb dX12_isPair_14 rfl (lv_at hl 3 rfl) ?_
        obtain ⟨o10, h⟩ := h
        refine w_iald (n := 60) (i := (sI x1)) hx hb hK.1 (t0 := 0) rfl hS (by decide) (zkd_of (rfl : zcd wR 15 = 65) rfl) (zln_of (rfl : zcd wR 15 = 65) rfl) rfl o10.1 o10.2 (by decide) dX12_isPair_15 ?_
        refine z_iconst hx hb dX12_isPair_16 ?_
        refine w_icmp_eq (tgt := 44) hx hb rfl (sI_of (by decide)) dX12_isPair_17 (by decide) (fun c11 => ?_) (fun c11 => ?_)
        · skip
          have h := h.1 c11
          refine z_iinc (lv' := [(3, .int (iI (x1 + 1))), (0, .ref (b + 0)), (1, .int (iI a0)), (2, .int (iI a1))]) hx hb dX12_isPair_44 hl (k := 3) rfl (by decide) rfl (fun ls hl => ?_)
          refine lv_goto (tgt := 2) hx hb dX12_isPair_47 (by decide) ?_
          obtain ⟨n12, h13, h⟩ := h
          exact i8 n12 h13 (x1 + 1) _ _ _ h hS hS0 (lv_sub hl [1, 2, 3, 0] rfl)
        · skip
          have h := h.2 c11
          refine lv_aload_n hx hb dX12_isPair_20 rfl (lv_at hl 0 rfl) ?_
          refine lv_iload_n hx hb dX12_isPair_21 rfl (lv_at hl 1 rfl) ?_
          refine lv_iload_n hx hb dX12_isPair_22 rfl (lv_at hl 3 rfl) ?_
          refine w_calli (va_runV (As := [.int (iI a0), .int (iI x1)]) (rest := []) ⟨hx, hb, hml, hown, hts⟩ (cR_most l D dA b M a0 x1 _ h) (cwV 2 hts (z_gV k1297 k1298 k1419 k14 k1299) rfl rfl rfl dm_X12_most ⟨Nat.le_of_ble_eq_true rfl, Nat.le_of_ble_eq_true rfl⟩) ⟨wPre_blind, (w_recv hS hK.1 (by decide) (zkd_of (rfl : zcd wR 0 = 50) rfl) (by decide) (rfl : vwCl[12]? = some (RX12, TX12, 50))), w_pre hS hK⟩ rfl rfl hl.1 rfl (lv_room (Nat.le_of_ble_eq_true rfl)) dX12_isPair_23 ⟨Nat.le_refl _, Nat.le_refl _⟩) hS0 (fun z15 M14 H locs r16 h hS hS0 => ?_)
          obtain ⟨e17, h⟩ := h
          rw [e17] at hS
          refine lv_aload_n hx hb dX12_isPair_26 rfl (lv_at hl 0 rfl) ?_
          refine lv_iload_n hx hb dX12_isPair_27 rfl (lv_at hl 2 rfl) ?_
          refine lv_iload_n hx hb dX12_isPair_28 rfl (lv_at hl 3 rfl) ?_
          refine w_calli (va_runV (As := [.int (iI a1), .int (iI x1)]) (rest := [.int (iI z15)]) ⟨hx, hb, hml, hown, hts⟩ (cR_most l D dA b M a1 x1 _ h) (cwV 2 hts (z_gV k1297 k1298 k1419 k14 k1299) rfl rfl rfl dm_X12_most ⟨Nat.le_of_ble_eq_true rfl, Nat.le_of_ble_eq_true rfl⟩) ⟨wPre_blind, (w_recv hS hK.1 (by decide) (zkd_of (rfl : zcd wR 0 = 50) rfl) (by decide) (rfl : vwCl[12]? = some (RX12, TX12, 50))), w_pre hS hK⟩ rfl rfl hl.1 rfl (lv_room (Nat.le_of_ble_eq_true rfl)) dX12_isPair_29 ⟨Nat.le_refl _, Nat.le_refl _⟩) hS0 (fun z19 M18 H locs r20 h hS hS0 => ?_)
          obtain ⟨e21, h⟩ := h
          rw [e21] at hS
          refine w_ior hx hb dX12_isPair_32 ?_
          refine lv_aload_n hx hb dX12_isPair_33 rfl (lv_at hl 0 rfl) ?_
          refine w_getr (j2 := 15) hx hb hts (z_memU u12) hown hK.1 hS f12_23 (by decide) (zkd_of (rfl : zcd wR 0 = 50) rfl) (zrf_of (rfl : zcd wR 0 = 50) rfl) (Or.inl (hts _ (z_mem k967))) dX12_isPair_34 ?_
          refine lv_iload_n hx hb dX12_isPair_37 rfl (lv_at hl 3 rfl) ?_
          obtain ⟨o22, h⟩ := h
          refine w_iald (n := 60) (i := (sI x1)) hx hb hK.1 (t0 := 0) rfl hS (by decide) (zkd_of (rfl : zcd wR 15 = 65) rfl) (zln_of (rfl : zcd wR 15 = 65) rfl) rfl o22.1 o22.2 (by decide) dX12_isPair_38 ?_
          refine w_icmp_eq (tgt := 44) hx hb (sI_of (orI_R _ _)) rfl dX12_isPair_39 (by decide) (fun c23 => ?_) (fun c23 => ?_)
          · skip
            have h := h.1 c23
            refine z_iinc (lv' := [(3, .int (iI (x1 + 1))), (0, .ref (b + 0)), (1, .int (iI a0)), (2, .int (iI a1))]) hx hb dX12_isPair_44 hl (k := 3) rfl (by decide) rfl (fun ls hl => ?_)
            refine lv_goto (tgt := 2) hx hb dX12_isPair_47 (by decide) ?_
            obtain ⟨n24, h25, h⟩ := h
            exact i8 n24 h25 (x1 + 1) _ _ _ h hS hS0 (lv_sub hl [1, 2, 3, 0] rfl)
          · skip
            have h := h.2 c23
            refine z_iconst hx hb dX12_isPair_42 ?_
            exact w_zret hx hb hr hlocks hS hS0 (sI_of (by decide)) (by decide) ⟨rfl, h⟩ dX12_isPair_43
  exact L6 n3 0 _ _ _ h4 hS hS0 (lv_sub hl [1, 2, 3, 0] rfl)

set_option maxRecDepth 100000 in
def wR_pairAt (a0 : Int) (M : zM) (Q : Int → Prop) : Prop := pL2 (fun K4 x1 x2 => (48 < (sI x2) → Q (-1)) ∧ ((sI x2) ≤ 48 → pL2 (fun K20 x11 x12 => ((sI x2) < (sI (2 * x12)) → K4 x11 (x2 + 1)) ∧ ((sI (2 * x12)) ≤ (sI x2) → wR_isPair x12 (x2 - x12) M (fun z24 => (z24 ≠ 0 → ((sI x11) ≠ 0 → K20 (x11 + (-1)) (x12 + 1)) ∧ ((sI x11) = 0 → Q (sI (((100 * x12) + x2) - x12)))) ∧ (z24 = 0 → K20 x11 (x12 + 1))))) x1 (max 1 (sI (x2 - 24))))) a0 2
set_option maxHeartbeats 4000000 in
set_option maxRecDepth 100000 in
theorem cR_pairAt (l : Launch) (D : va_G) (dA : Nat → ClassId) (b : Nat) (M : zM) (a0 : Int)  (Q : Int → Prop) (h : wR_pairAt a0 M Q) : Met l yX12_pairAt (.code yX12_pairAt cX12_pairAt 5 (some .int) :: zt) (z_rm 2) (va_Pc [.ref (b + 0), .int (iI a0)] (wPre D dA vwCl (z_tys dA) wR nR b M)) (va_Qi (wQi (fun z9 u9 => u9 = M ∧ Q z9)) (zB D dA vwCl wR nR b) (zA nR b)) 0 0 (zA nR b) := by
  unfold wR_pairAt at h
  refine Met.ofW (cc := cX12_pairAt) (maxL := 5) (ret := (some .int)) (by decide) rfl ?_
  intro p e s m args below meth c s₁ B hml hv
  obtain ⟨hargs, hS, hK⟩ := hv
  have hx := B.exec
  have hb := B.bytes
  have hr := B.returns
  have hts := atoms_spec (ws := .code yX12_pairAt cX12_pairAt 5 (some .int) :: zt) B.pre
  have hown : s.vm.findClass RX12 = some m.cls := findClass_of_methodNamed B.named
  have hlocks := B.notSynchronized
  have hS0 : va_S (zA nR b) s.heap s.heap [] := va_S.rf
  have hl := lv_entry ([.ref (b + 0), .int (iI a0)]) (n := 5) (Nat.le_of_ble_eq_true rfl)
  have hent : entryFrame m args 5 = F0 m 0 ((lg_sl ([.ref (b + 0), .int (iI a0)]) ++ List.replicate (5 - (lg_sl ([.ref (b + 0), .int (iI a0)])).length) Slot.unset).toArray) [] := by rw [hargs]; exact lg_entry_eq m ([.ref (b + 0), .int (iI a0)]) 5
  rw [hent]
  generalize (lg_sl ([.ref (b + 0), .int (iI a0)]) ++ List.replicate (5 - (lg_sl ([.ref (b + 0), .int (iI a0)])).length) Slot.unset).toArray = ls at hl ⊢
  have hl : lv_has ls 5 [(0, .ref (b + 0)), (1, .int (iI a0))] := hl
  refine lv_iload_n hx hb dX12_pairAt_0 rfl (lv_at hl 1 rfl) ?_
  refine lv_istore_n (lv' := [(2, .int (iI a0)), (0, .ref (b + 0)), (1, .int (iI a0))]) hx hb dX12_pairAt_1 rfl hl (by decide) rfl (fun ls hl => ?_)
  refine z_iconst hx hb dX12_pairAt_2 ?_
  refine lv_istore_n (lv' := [(3, .int (iI 2)), (2, .int (iI a0)), (0, .ref (b + 0)), (1, .int (iI a0))]) hx hb dX12_pairAt_3 rfl hl (by decide) rfl (fun ls hl => ?_)
  obtain ⟨I3, ⟨n4, h5⟩, h6⟩ := h
  have L7 : ∀ (n8 : Nat) (x1 x2 : Int) (H : Heap) (locs : List Loc) (ls : Array Slot), I3 n8 x1 x2 → zR D dA vwCl wR nR b M H → va_S (zA nR b) s.heap H locs → lv_has ls 5 [(0, .ref (b + 0)), (2, .int (iI x1)), (3, .int (iI x2))] → W p l e (headSpec (.code yX12_pairAt cX12_pairAt 5 (some .int) :: zt) (z_rm 2)).room s m args below meth c H locs 0 0 (MQ below (va_Qi (wQi (fun z9 u9 => u9 = M ∧ Q z9)) (zB D dA vwCl wR nR b) (zA nR b)) args s 0 0 (zA nR b)) (F0 m 4 ls []) := by
    intro n8
    induction n8 using Nat.strongRecOn with
    | ind n8 i9 =>
      intro x1 x2 H locs ls h hS hS0 hl
      have h := h6 n8 x1 x2 h
      refine lv_iload_n hx hb dX12_pairAt_4 rfl (lv_at hl 2 rfl) ?_
      refine z_bipush hx hb (by decide) dX12_pairAt_5 ?_
      refine w_icmp_gt (tgt := 74) hx hb rfl (sI_of (by decide)) dX12_pairAt_7 (by decide) (fun c10 => ?_) (fun c10 => ?_)
      · skip
        have h := h.1 c10
        refine z_iconst hx hb dX12_pairAt_74 ?_
        exact w_iret hx hb hr hlocks hS hS0 (sI_of (by decide)) ⟨rfl, h⟩ dX12_pairAt_75
      · skip
        have h := h.2 c10
        refine z_iconst hx hb dX12_pairAt_10 ?_
        refine lv_iload_n hx hb dX12_pairAt_11 rfl (lv_at hl 2 rfl) ?_
        refine z_bipush hx hb (by decide) dX12_pairAt_12 ?_
        refine z_isub hx hb dX12_pairAt_14 ?_
        refine w_mmax hx hb (hml.trans hl.1.symm) hown (hts _ (z_mem k1192)) (hts _ (z_mem k341)) (hts _ (z_mem k15)) (hts _ (z_mem k342)) (by exact Nat.le_of_ble_eq_true rfl) (by exact Nat.le_of_ble_eq_true rfl) (by exact Nat.le_refl _) (by exact Nat.le_refl _) (sI_of (by decide)) rfl dX12_pairAt_15 ?_
        refine lv_istore (lv' := [(4, .int (iI (max 1 (sI (x2 - 24))))), (0, .ref (b + 0)), (2, .int (iI x1)), (3, .int (iI x2))]) hx hb dX12_pairAt_18 hl (by decide) rfl (fun ls hl => ?_)
        obtain ⟨I13, ⟨n14, h15⟩, h16⟩ := h
        have L17 : ∀ (n18 : Nat) (x11 x12 : Int) (H : Heap) (locs : List Loc) (ls : Array Slot), I13 n18 x11 x12 → zR D dA vwCl wR nR b M H → va_S (zA nR b) s.heap H locs → lv_has ls 5 [(0, .ref (b + 0)), (2, .int (iI x11)), (3, .int (iI x2)), (4, .int (iI x12))] → W p l e (headSpec (.code yX12_pairAt cX12_pairAt 5 (some .int) :: zt) (z_rm 2)).room s m args below meth c H locs 0 0 (MQ below (va_Qi (wQi (fun z9 u9 => u9 = M ∧ Q z9)) (zB D dA vwCl wR nR b) (zA nR b)) args s 0 0 (zA nR b)) (F0 m 20 ls []) := by
          intro n18
          induction n18 using Nat.strongRecOn with
          | ind n18 i19 =>
            intro x11 x12 H locs ls h hS hS0 hl
            have h := h16 n18 x11 x12 h
            refine z_iconst hx hb dX12_pairAt_20 ?_
            refine lv_iload hx hb dX12_pairAt_21 (lv_at hl 3 rfl) ?_
            refine z_imul hx hb dX12_pairAt_23 ?_
            refine lv_iload_n hx hb dX12_pairAt_24 rfl (lv_at hl 2 rfl) ?_
            refine w_icmp_gt (tgt := 68) hx hb rfl rfl dX12_pairAt_25 (by decide) (fun c20 => ?_) (fun c20 => ?_)
            · skip
              have h := h.1 c20
              refine z_iinc (lv' := [(3, .int (iI (x2 + 1))), (0, .ref (b + 0)), (2, .int (iI x11)), (4, .int (iI x12))]) hx hb dX12_pairAt_68 hl (k := 2) rfl (by decide) rfl (fun ls hl => ?_)
              refine lv_goto (tgt := 4) hx hb dX12_pairAt_71 (by decide) ?_
              obtain ⟨n21, h22, h⟩ := h
              exact i9 n21 h22 x11 (x2 + 1) _ _ _ h hS hS0 (lv_sub hl [1, 2, 0] rfl)
            · skip
              have h := h.2 c20
              refine lv_aload_n hx hb dX12_pairAt_28 rfl (lv_at hl 0 rfl) ?_
              refine lv_iload hx hb dX12_pairAt_29 (lv_at hl 3 rfl) ?_
              refine lv_iload_n hx hb dX12_pairAt_31 rfl (lv_at hl 2 rfl) ?_
              refine lv_iload hx hb dX12_pairAt_32 (lv_at hl 3 rfl) ?_
              refine z_isub hx hb dX12_pairAt_34 ?_
              refine w_callz (va_runV (As := [.int (iI x12), .int (iI (x2 - x12))]) (rest := []) ⟨hx, hb, hml, hown, hts⟩ (cR_isPair l D dA b M x12 (x2 - x12) _ h) (cwV 2 hts (z_gV k1294 k1295 k1418 k14 k1296) rfl rfl rfl dm_X12_isPair ⟨Nat.le_of_ble_eq_true rfl, Nat.le_of_ble_eq_true rfl⟩) ⟨wPre_blind, (w_recv hS hK.1 (by decide) (zkd_of (rfl : zcd wR 0 = 50) rfl) (by decide) (rfl : vwCl[12]? = some (RX12, TX12, 50))), w_pre hS hK⟩ rfl rfl hl.1 rfl (lv_room (Nat.le_of_ble_eq_true rfl)) dX12_pairAt_35 ⟨Nat.le_refl _, Nat.le_refl _⟩) hS0 (fun z24 M23 H locs r25 h hS hS0 => ?_)
              obtain ⟨e26, h⟩ := h
              rw [e26] at hS
              refine w_if_ne (tgt := 44) hx hb (sI_01 r25) dX12_pairAt_38 (by decide) (fun c27 => ?_) (fun c27 => ?_)
              · skip
                have h := h.1 c27
                refine lv_iload_n hx hb dX12_pairAt_44 rfl (lv_at hl 1 rfl) ?_
                refine w_if_ne (tgt := 59) hx hb rfl dX12_pairAt_45 (by decide) (fun c28 => ?_) (fun c28 => ?_)
                · skip
                  have h := h.1 c28
                  refine z_iinc (lv' := [(2, .int (iI (x11 + (-1)))), (0, .ref (b + 0)), (3, .int (iI x2)), (4, .int (iI x12))]) hx hb dX12_pairAt_59 hl (k := 1) rfl (by decide) rfl (fun ls hl => ?_)
                  refine z_iinc (lv' := [(4, .int (iI (x12 + 1))), (2, .int (iI (x11 + (-1)))), (0, .ref (b + 0)), (3, .int (iI x2))]) hx hb dX12_pairAt_62 hl (k := 3) rfl (by decide) rfl (fun ls hl => ?_)
                  refine lv_goto (tgt := 20) hx hb dX12_pairAt_65 (by decide) ?_
                  obtain ⟨n29, h30, h⟩ := h
                  exact i19 n29 h30 (x11 + (-1)) (x12 + 1) _ _ _ h hS hS0 (lv_sub hl [2, 1, 3, 0] rfl)
                · skip
                  have h := h.2 c28
                  refine z_bipush hx hb (by decide) dX12_pairAt_48 ?_
                  refine lv_iload hx hb dX12_pairAt_50 (lv_at hl 3 rfl) ?_
                  refine z_imul hx hb dX12_pairAt_52 ?_
                  refine lv_iload_n hx hb dX12_pairAt_53 rfl (lv_at hl 2 rfl) ?_
                  refine z_iadd hx hb dX12_pairAt_54 ?_
                  refine lv_iload hx hb dX12_pairAt_55 (lv_at hl 3 rfl) ?_
                  refine z_isub hx hb dX12_pairAt_57 ?_
                  exact w_iret hx hb hr hlocks hS hS0 rfl ⟨rfl, h⟩ dX12_pairAt_58
              · skip
                have h := h.2 c27
                refine lv_goto (tgt := 62) hx hb dX12_pairAt_41 (by decide) ?_
                refine z_iinc (lv' := [(4, .int (iI (x12 + 1))), (0, .ref (b + 0)), (2, .int (iI x11)), (3, .int (iI x2))]) hx hb dX12_pairAt_62 hl (k := 3) rfl (by decide) rfl (fun ls hl => ?_)
                refine lv_goto (tgt := 20) hx hb dX12_pairAt_65 (by decide) ?_
                obtain ⟨n31, h32, h⟩ := h
                exact i19 n31 h32 x11 (x12 + 1) _ _ _ h hS hS0 (lv_sub hl [1, 2, 3, 0] rfl)
        exact L17 n14 x1 (max 1 (sI (x2 - 24))) _ _ _ h15 hS hS0 (lv_sub hl [1, 2, 3, 0] rfl)
  exact L7 n4 a0 2 _ _ _ h5 hS hS0 (lv_sub hl [2, 1, 0] rfl)

set_option maxRecDepth 100000 in
def wR_pair (a0 : Int) (M : zM) (Q : Int → zM → Prop) : Prop := (∀ M1 : zM, M1 = zup M 0 35 0 → (0 ≤ (sI a0) → wR_pairAt a0 M1 (fun z5 => Q z5 M1)) ∧ ((sI a0) < 0 → Q (-1) M1))
set_option maxHeartbeats 4000000 in
set_option maxRecDepth 100000 in
theorem cR_pair (l : Launch) (D : va_G) (dA : Nat → ClassId) (b : Nat) (M : zM) (a0 : Int)  (Q : Int → zM → Prop) (h : wR_pair a0 M Q) : Met l yX12_pair (.code yX12_pair cX12_pair 2 (some .int) :: zt) (z_rm 3) (va_Pc [.ref (b + 0), .int (iI a0)] (wPre D dA vwCl (z_tys dA) wR nR b M)) (va_Qi (wQi Q) (zB D dA vwCl wR nR b) (zA nR b)) 0 0 (zA nR b) := by
  unfold wR_pair at h
  refine Met.ofW (cc := cX12_pair) (maxL := 2) (ret := (some .int)) (by decide) rfl ?_
  intro p e s m args below meth c s₁ B hml hv
  obtain ⟨hargs, hS, hK⟩ := hv
  have hx := B.exec
  have hb := B.bytes
  have hr := B.returns
  have hts := atoms_spec (ws := .code yX12_pair cX12_pair 2 (some .int) :: zt) B.pre
  have hown : s.vm.findClass RX12 = some m.cls := findClass_of_methodNamed B.named
  have hlocks := B.notSynchronized
  have hS0 : va_S (zA nR b) s.heap s.heap [] := va_S.rf
  have hl := lv_entry ([.ref (b + 0), .int (iI a0)]) (n := 2) (Nat.le_of_ble_eq_true rfl)
  have hent : entryFrame m args 2 = F0 m 0 ((lg_sl ([.ref (b + 0), .int (iI a0)]) ++ List.replicate (2 - (lg_sl ([.ref (b + 0), .int (iI a0)])).length) Slot.unset).toArray) [] := by rw [hargs]; exact lg_entry_eq m ([.ref (b + 0), .int (iI a0)]) 2
  rw [hent]
  generalize (lg_sl ([.ref (b + 0), .int (iI a0)]) ++ List.replicate (2 - (lg_sl ([.ref (b + 0), .int (iI a0)])).length) Slot.unset).toArray = ls at hl ⊢
  have hl : lv_has ls 2 [(0, .ref (b + 0)), (1, .int (iI a0))] := hl
  refine lv_aload_n hx hb dX12_pair_0 rfl (lv_at hl 0 rfl) ?_
  refine z_iconst hx hb dX12_pair_1 ?_
  refine w_puti hx hb hts (z_memU u12) tyX12 tyX12_ok nmX12 hown hK.1 hS hS0 f12_35 (by decide) (zkd_of (rfl : zcd wR 0 = 50) rfl) (Or.inl (hts _ (z_mem k979))) rfl (z := 0) (by decide +kernel) dX12_pair_2 (fun H locs hS hS0 => ?_)
  obtain ⟨M1, e2⟩ : ∃ M1 : zM, M1 = zup M 0 35 0 := ⟨_, rfl⟩
  rw [← e2] at hS
  have h := h M1 e2
  refine lv_iload_n hx hb dX12_pair_5 rfl (lv_at hl 1 rfl) ?_
  refine w_if_ge (tgt := 13) hx hb rfl dX12_pair_6 (by decide) (fun c3 => ?_) (fun c3 => ?_)
  · skip
    have h := h.1 c3
    refine lv_aload_n hx hb dX12_pair_13 rfl (lv_at hl 0 rfl) ?_
    refine lv_iload_n hx hb dX12_pair_14 rfl (lv_at hl 1 rfl) ?_
    refine w_calli (va_runV (As := [.int (iI a0)]) (rest := []) ⟨hx, hb, hml, hown, hts⟩ (cR_pairAt l D dA b M1 a0 _ h) (cwV 1 hts (z_gV k1291 k1292 k1417 k14 k1293) rfl rfl rfl dm_X12_pairAt ⟨Nat.le_of_ble_eq_true rfl, Nat.le_of_ble_eq_true rfl⟩) ⟨wPre_blind, (w_recv hS hK.1 (by decide) (zkd_of (rfl : zcd wR 0 = 50) rfl) (by decide) (rfl : vwCl[12]? = some (RX12, TX12, 50))), w_pre hS hK⟩ rfl rfl hl.1 rfl (lv_room (Nat.le_of_ble_eq_true rfl)) dX12_pair_15 ⟨Nat.le_refl _, Nat.le_refl _⟩) hS0 (fun z5 M4 H locs r6 h hS hS0 => ?_)
    obtain ⟨e7, h⟩ := h
    rw [e7] at hS
    exact w_iret hx hb hr hlocks hS hS0 (sI_of r6) h dX12_pair_18
  · skip
    have h := h.2 c3
    refine z_iconst hx hb dX12_pair_9 ?_
    refine lv_goto (tgt := 18) hx hb dX12_pair_10 (by decide) ?_
    exact w_iret hx hb hr hlocks hS hS0 (sI_of (by decide)) h dX12_pair_18

set_option maxRecDepth 100000 in
def wR_mended (a0 : Int) (M : zM) (Q : Int → zM → Prop) : Prop := (∀ M1 : zM, M1 = zup M 0 35 0 → wR_in a0 0 ((M1 0 24) - 1) M1 (fun z4 => (z4 ≠ 0 → wR_pairAt 0 M1 (fun z9 => (z9 ≠ (-1) → wR_most (z9.tdiv 100) a0 M1 (fun z14 => wR_most (z9.tmod 100) a0 M1 (fun z18 => Q (orI z14 z18) M1))) ∧ (z9 = (-1) → Q (-1) M1))) ∧ (z4 = 0 → Q (-1) M1)))
set_option maxHeartbeats 4000000 in
set_option maxRecDepth 100000 in
theorem cR_mended (l : Launch) (D : va_G) (dA : Nat → ClassId) (b : Nat) (M : zM) (a0 : Int)  (Q : Int → zM → Prop) (h : wR_mended a0 M Q) : Met l yX12_mended (.code yX12_mended cX12_mended 3 (some .int) :: zt) (z_rm 3) (va_Pc [.ref (b + 0), .int (iI a0)] (wPre D dA vwCl (z_tys dA) wR nR b M)) (va_Qi (wQi Q) (zB D dA vwCl wR nR b) (zA nR b)) 0 0 (zA nR b) := by
  unfold wR_mended at h
  refine Met.ofW (cc := cX12_mended) (maxL := 3) (ret := (some .int)) (by decide) rfl ?_
  intro p e s m args below meth c s₁ B hml hv
  obtain ⟨hargs, hS, hK⟩ := hv
  have hx := B.exec
  have hb := B.bytes
  have hr := B.returns
  have hts := atoms_spec (ws := .code yX12_mended cX12_mended 3 (some .int) :: zt) B.pre
  have hown : s.vm.findClass RX12 = some m.cls := findClass_of_methodNamed B.named
  have hlocks := B.notSynchronized
  have hS0 : va_S (zA nR b) s.heap s.heap [] := va_S.rf
  have hl := lv_entry ([.ref (b + 0), .int (iI a0)]) (n := 3) (Nat.le_of_ble_eq_true rfl)
  have hent : entryFrame m args 3 = F0 m 0 ((lg_sl ([.ref (b + 0), .int (iI a0)]) ++ List.replicate (3 - (lg_sl ([.ref (b + 0), .int (iI a0)])).length) Slot.unset).toArray) [] := by rw [hargs]; exact lg_entry_eq m ([.ref (b + 0), .int (iI a0)]) 3
  rw [hent]
  generalize (lg_sl ([.ref (b + 0), .int (iI a0)]) ++ List.replicate (3 - (lg_sl ([.ref (b + 0), .int (iI a0)])).length) Slot.unset).toArray = ls at hl ⊢
  have hl : lv_has ls 3 [(0, .ref (b + 0)), (1, .int (iI a0))] := hl
  refine lv_aload_n hx hb dX12_mended_0 rfl (lv_at hl 0 rfl) ?_
  refine z_iconst hx hb dX12_mended_1 ?_
  refine w_puti hx hb hts (z_memU u12) tyX12 tyX12_ok nmX12 hown hK.1 hS hS0 f12_35 (by decide) (zkd_of (rfl : zcd wR 0 = 50) rfl) (Or.inl (hts _ (z_mem k979))) rfl (z := 0) (by decide +kernel) dX12_mended_2 (fun H locs hS hS0 => ?_)
  obtain ⟨M1, e2⟩ : ∃ M1 : zM, M1 = zup M 0 35 0 := ⟨_, rfl⟩
  rw [← e2] at hS
  have h := h M1 e2
  refine lv_iload_n hx hb dX12_mended_5 rfl (lv_at hl 1 rfl) ?_
  refine z_iconst hx hb dX12_mended_6 ?_
  refine lv_aload_n hx hb dX12_mended_7 rfl (lv_at hl 0 rfl) ?_
  refine w_geti hx hb hts (z_memU u12) hown hK.1 hS f12_24 (by decide) (zkd_of (rfl : zcd wR 0 = 50) rfl) (Or.inl (hts _ (z_mem k968))) dX12_mended_8 ?_
  refine z_iconst hx hb dX12_mended_11 ?_
  refine z_isub hx hb dX12_mended_12 ?_
  refine w_callz (va_runS (As := [.int (iI a0), .int (iI 0), .int (iI ((M1 0 24) - 1))]) (rest := []) ⟨hx, hb, hml, hown, hts⟩ (cR_in l D dA b M1 a0 0 ((M1 0 24) - 1) _ h) (va_cwS 3 hts (z_gS k1083 k1084 k14 k1085) rfl rfl rfl dm_X12_in.2 ⟨Nat.le_of_ble_eq_true rfl, Nat.le_of_ble_eq_true rfl⟩) ⟨wPre_blind, w_pre hS hK⟩ rfl rfl hl.1 rfl (lv_room (Nat.le_of_ble_eq_true rfl)) dX12_mended_13 ⟨Nat.le_refl _, Nat.le_refl _⟩) hS0 (fun z4 M3 H locs r5 h hS hS0 => ?_)
  obtain ⟨e6, h⟩ := h
  rw [e6] at hS
  refine w_if_ne (tgt := 21) hx hb (sI_01 r5) dX12_mended_16 (by decide) (fun c7 => ?_) (fun c7 => ?_)
  · skip
    have h := h.1 c7
    refine lv_aload_n hx hb dX12_mended_21 rfl (lv_at hl 0 rfl) ?_
    refine z_iconst hx hb dX12_mended_22 ?_
    refine w_calli (va_runV (As := [.int (iI 0)]) (rest := []) ⟨hx, hb, hml, hown, hts⟩ (cR_pairAt l D dA b M1 0 _ h) (cwV 1 hts (z_gV k1291 k1292 k1417 k14 k1293) rfl rfl rfl dm_X12_pairAt ⟨Nat.le_of_ble_eq_true rfl, Nat.le_of_ble_eq_true rfl⟩) ⟨wPre_blind, (w_recv hS hK.1 (by decide) (zkd_of (rfl : zcd wR 0 = 50) rfl) (by decide) (rfl : vwCl[12]? = some (RX12, TX12, 50))), w_pre hS hK⟩ rfl rfl hl.1 rfl (lv_room (Nat.le_of_ble_eq_true rfl)) dX12_mended_23 ⟨Nat.le_refl _, Nat.le_refl _⟩) hS0 (fun z9 M8 H locs r10 h hS hS0 => ?_)
    obtain ⟨e11, h⟩ := h
    rw [e11] at hS
    refine lv_istore_n (lv' := [(2, .int (iI z9)), (0, .ref (b + 0)), (1, .int (iI a0))]) hx hb dX12_mended_26 rfl hl (by decide) rfl (fun ls hl => ?_)
    refine lv_iload_n hx hb dX12_mended_27 rfl (lv_at hl 0 rfl) ?_
    refine z_iconst hx hb dX12_mended_28 ?_
    refine w_icmp_ne (tgt := 36) hx hb (sI_of r10) (sI_of (by decide)) dX12_mended_29 (by decide) (fun c12 => ?_) (fun c12 => ?_)
    · skip
      have h := h.1 c12
      refine lv_aload_n hx hb dX12_mended_36 rfl (lv_at hl 1 rfl) ?_
      refine lv_iload_n hx hb dX12_mended_37 rfl (lv_at hl 0 rfl) ?_
      refine z_bipush hx hb (by decide) dX12_mended_38 ?_
      refine w_idiv hx hb (sI_of r10) (sI_of (by decide)) (by decide) dX12_mended_40 ?_
      refine lv_iload_n hx hb dX12_mended_41 rfl (lv_at hl 2 rfl) ?_
      refine w_calli (va_runV (As := [.int (iI (z9.tdiv 100)), .int (iI a0)]) (rest := []) ⟨hx, hb, hml, hown, hts⟩ (cR_most l D dA b M1 (z9.tdiv 100) a0 _ h) (cwV 2 hts (z_gV k1297 k1298 k1419 k14 k1299) rfl rfl rfl dm_X12_most ⟨Nat.le_of_ble_eq_true rfl, Nat.le_of_ble_eq_true rfl⟩) ⟨wPre_blind, (w_recv hS hK.1 (by decide) (zkd_of (rfl : zcd wR 0 = 50) rfl) (by decide) (rfl : vwCl[12]? = some (RX12, TX12, 50))), w_pre hS hK⟩ rfl rfl hl.1 rfl (lv_room (Nat.le_of_ble_eq_true rfl)) dX12_mended_42 ⟨Nat.le_refl _, Nat.le_refl _⟩) hS0 (fun z14 M13 H locs r15 h hS hS0 => ?_)
      obtain ⟨e16, h⟩ := h
      rw [e16] at hS
      refine lv_aload_n hx hb dX12_mended_45 rfl (lv_at hl 1 rfl) ?_
      refine lv_iload_n hx hb dX12_mended_46 rfl (lv_at hl 0 rfl) ?_
      refine z_bipush hx hb (by decide) dX12_mended_47 ?_
      refine w_irem hx hb (sI_of r10) (sI_of (by decide)) (by decide) dX12_mended_49 ?_
      refine lv_iload_n hx hb dX12_mended_50 rfl (lv_at hl 2 rfl) ?_
      refine w_calli (va_runV (As := [.int (iI (z9.tmod 100)), .int (iI a0)]) (rest := [.int (iI z14)]) ⟨hx, hb, hml, hown, hts⟩ (cR_most l D dA b M1 (z9.tmod 100) a0 _ h) (cwV 2 hts (z_gV k1297 k1298 k1419 k14 k1299) rfl rfl rfl dm_X12_most ⟨Nat.le_of_ble_eq_true rfl, Nat.le_of_ble_eq_true rfl⟩) ⟨wPre_blind, (w_recv hS hK.1 (by decide) (zkd_of (rfl : zcd wR 0 = 50) rfl) (by decide) (rfl : vwCl[12]? = some (RX12, TX12, 50))), w_pre hS hK⟩ rfl rfl hl.1 rfl (lv_room (Nat.le_of_ble_eq_true rfl)) dX12_mended_51 ⟨Nat.le_refl _, Nat.le_refl _⟩) hS0 (fun z18 M17 H locs r19 h hS hS0 => ?_)
      obtain ⟨e20, h⟩ := h
      rw [e20] at hS
      refine w_ior hx hb dX12_mended_54 ?_
      exact w_iret hx hb hr hlocks hS hS0 (sI_of (orI_R _ _)) h dX12_mended_55
    · skip
      have h := h.2 c12
      refine z_iconst hx hb dX12_mended_32 ?_
      refine lv_goto (tgt := 55) hx hb dX12_mended_33 (by decide) ?_
      exact w_iret hx hb hr hlocks hS hS0 (sI_of (by decide)) h dX12_mended_55
  · skip
    have h := h.2 c7
    refine z_iconst hx hb dX12_mended_19 ?_
    exact w_iret hx hb hr hlocks hS hS0 (sI_of (by decide)) h dX12_mended_20
