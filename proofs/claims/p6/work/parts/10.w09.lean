/-! the W layer, 9 -/
theorem dX0_alike_0 : decode cX0_alike 0 = .ok (.iconst 0, 1) := by decide +kernel
theorem dX0_alike_1 : decode cX0_alike 1 = .ok (.istore_n 3, 1) := by decide +kernel
theorem dX0_alike_10 : decode cX0_alike 10 = .ok (.iload_n 3, 1) := by decide +kernel
theorem dX0_alike_11 : decode cX0_alike 11 = .ok (.iadd, 1) := by decide +kernel
theorem dX0_alike_12 : decode cX0_alike 12 = .ok (.invokevirtual 62, 3) := by decide +kernel
theorem dX0_alike_15 : decode cX0_alike 15 = .ok (.aload_n 0, 1) := by decide +kernel
theorem dX0_alike_16 : decode cX0_alike 16 = .ok (.iload_n 2, 1) := by decide +kernel
theorem dX0_alike_17 : decode cX0_alike 17 = .ok (.iload_n 3, 1) := by decide +kernel
theorem dX0_alike_18 : decode cX0_alike 18 = .ok (.iadd, 1) := by decide +kernel
theorem dX0_alike_19 : decode cX0_alike 19 = .ok (.invokevirtual 62, 3) := by decide +kernel
theorem dX0_alike_2 : decode cX0_alike 2 = .ok (.iload_n 3, 1) := by decide +kernel
theorem dX0_alike_22 : decode cX0_alike 22 = .ok (.if_icmp .eq 5, 3) := by decide +kernel
theorem dX0_alike_25 : decode cX0_alike 25 = .ok (.iconst 0, 1) := by decide +kernel
theorem dX0_alike_26 : decode cX0_alike 26 = .ok (.ireturn, 1) := by decide +kernel
theorem dX0_alike_27 : decode cX0_alike 27 = .ok (.iinc 3 1, 3) := by decide +kernel
theorem dX0_alike_3 : decode cX0_alike 3 = .ok (.bipush 20, 2) := by decide +kernel
theorem dX0_alike_30 : decode cX0_alike 30 = .ok (.goto (-28), 3) := by decide +kernel
theorem dX0_alike_33 : decode cX0_alike 33 = .ok (.iconst 1, 1) := by decide +kernel
theorem dX0_alike_34 : decode cX0_alike 34 = .ok (.ireturn, 1) := by decide +kernel
theorem dX0_alike_5 : decode cX0_alike 5 = .ok (.if_icmp .ge 28, 3) := by decide +kernel
theorem dX0_alike_8 : decode cX0_alike 8 = .ok (.aload_n 0, 1) := by decide +kernel
theorem dX0_alike_9 : decode cX0_alike 9 = .ok (.iload_n 1, 1) := by decide +kernel
theorem dX0_behind_0 : decode cX0_behind 0 = .ok (.aload_n 0, 1) := by decide +kernel
theorem dX0_behind_1 : decode cX0_behind 1 = .ok (.iload_n 1, 1) := by decide +kernel
theorem dX0_behind_10 : decode cX0_behind 10 = .ok (.ireturn, 1) := by decide +kernel
theorem dX0_behind_2 : decode cX0_behind 2 = .ok (.invokevirtual 62, 3) := by decide +kernel
theorem dX0_behind_5 : decode cX0_behind 5 = .ok (.iload_n 2, 1) := by decide +kernel
theorem dX0_behind_6 : decode cX0_behind 6 = .ok (.imul, 1) := by decide +kernel
theorem dX0_behind_7 : decode cX0_behind 7 = .ok (.bipush 100, 2) := by decide +kernel
theorem dX0_behind_9 : decode cX0_behind 9 = .ok (.idiv, 1) := by decide +kernel
theorem dX0_firstSilence_0 : decode cX0_firstSilence 0 = .ok (.iconst 0, 1) := by decide +kernel
theorem dX0_firstSilence_1 : decode cX0_firstSilence 1 = .ok (.istore_n 1, 1) := by decide +kernel
theorem dX0_firstSilence_11 : decode cX0_firstSilence 11 = .ok (.if_icmp .gt 38, 3) := by decide +kernel
theorem dX0_firstSilence_14 : decode cX0_firstSilence 14 = .ok (.aload_n 0, 1) := by decide +kernel
theorem dX0_firstSilence_15 : decode cX0_firstSilence 15 = .ok (.iload_n 2, 1) := by decide +kernel
theorem dX0_firstSilence_16 : decode cX0_firstSilence 16 = .ok (.invokevirtual 62, 3) := by decide +kernel
theorem dX0_firstSilence_19 : decode cX0_firstSilence 19 = .ok (.ifCond .ne 9, 3) := by decide +kernel
theorem dX0_firstSilence_2 : decode cX0_firstSilence 2 = .ok (.aload_n 0, 1) := by decide +kernel
theorem dX0_firstSilence_22 : decode cX0_firstSilence 22 = .ok (.iload_n 1, 1) := by decide +kernel
theorem dX0_firstSilence_23 : decode cX0_firstSilence 23 = .ok (.iconst 1, 1) := by decide +kernel
theorem dX0_firstSilence_24 : decode cX0_firstSilence 24 = .ok (.iadd, 1) := by decide +kernel
theorem dX0_firstSilence_25 : decode cX0_firstSilence 25 = .ok (.goto 4, 3) := by decide +kernel
theorem dX0_firstSilence_28 : decode cX0_firstSilence 28 = .ok (.iconst 0, 1) := by decide +kernel
theorem dX0_firstSilence_29 : decode cX0_firstSilence 29 = .ok (.istore_n 1, 1) := by decide +kernel
theorem dX0_firstSilence_3 : decode cX0_firstSilence 3 = .ok (.getfield 9, 3) := by decide +kernel
theorem dX0_firstSilence_30 : decode cX0_firstSilence 30 = .ok (.iload_n 1, 1) := by decide +kernel
theorem dX0_firstSilence_31 : decode cX0_firstSilence 31 = .ok (.bipush 20, 2) := by decide +kernel
theorem dX0_firstSilence_33 : decode cX0_firstSilence 33 = .ok (.if_icmp .ne 10, 3) := by decide +kernel
theorem dX0_firstSilence_36 : decode cX0_firstSilence 36 = .ok (.iload_n 2, 1) := by decide +kernel
theorem dX0_firstSilence_37 : decode cX0_firstSilence 37 = .ok (.bipush 20, 2) := by decide +kernel
theorem dX0_firstSilence_39 : decode cX0_firstSilence 39 = .ok (.isub, 1) := by decide +kernel
theorem dX0_firstSilence_40 : decode cX0_firstSilence 40 = .ok (.iconst 1, 1) := by decide +kernel
theorem dX0_firstSilence_41 : decode cX0_firstSilence 41 = .ok (.iadd, 1) := by decide +kernel
theorem dX0_firstSilence_42 : decode cX0_firstSilence 42 = .ok (.ireturn, 1) := by decide +kernel
theorem dX0_firstSilence_43 : decode cX0_firstSilence 43 = .ok (.iinc 2 1, 3) := by decide +kernel
theorem dX0_firstSilence_46 : decode cX0_firstSilence 46 = .ok (.goto (-39), 3) := by decide +kernel
theorem dX0_firstSilence_49 : decode cX0_firstSilence 49 = .ok (.iconst (-1), 1) := by decide +kernel
theorem dX0_firstSilence_50 : decode cX0_firstSilence 50 = .ok (.ireturn, 1) := by decide +kernel
theorem dX0_firstSilence_6 : decode cX0_firstSilence 6 = .ok (.istore_n 2, 1) := by decide +kernel
theorem dX0_firstSilence_7 : decode cX0_firstSilence 7 = .ok (.iload_n 2, 1) := by decide +kernel
theorem dX0_firstSilence_8 : decode cX0_firstSilence 8 = .ok (.sipush 4000, 3) := by decide +kernel
theorem dX0_loudness_0 : decode cX0_loudness 0 = .ok (.iconst 0, 1) := by decide +kernel
theorem dX0_loudness_1 : decode cX0_loudness 1 = .ok (.istore_n 2, 1) := by decide +kernel
theorem dX0_loudness_10 : decode cX0_loudness 10 = .ok (.iload_n 2, 1) := by decide +kernel
theorem dX0_loudness_11 : decode cX0_loudness 11 = .ok (.iload_n 1, 1) := by decide +kernel
theorem dX0_loudness_12 : decode cX0_loudness 12 = .ok (.iload_n 3, 1) := by decide +kernel
theorem dX0_loudness_13 : decode cX0_loudness 13 = .ok (.ishr, 1) := by decide +kernel
theorem dX0_loudness_14 : decode cX0_loudness 14 = .ok (.iconst 1, 1) := by decide +kernel
theorem dX0_loudness_15 : decode cX0_loudness 15 = .ok (.iand, 1) := by decide +kernel
theorem dX0_loudness_16 : decode cX0_loudness 16 = .ok (.aload_n 0, 1) := by decide +kernel
theorem dX0_loudness_17 : decode cX0_loudness 17 = .ok (.getfield 19, 3) := by decide +kernel
theorem dX0_loudness_2 : decode cX0_loudness 2 = .ok (.iconst 1, 1) := by decide +kernel
theorem dX0_loudness_20 : decode cX0_loudness 20 = .ok (.iload_n 3, 1) := by decide +kernel
theorem dX0_loudness_21 : decode cX0_loudness 21 = .ok (.iaload, 1) := by decide +kernel
theorem dX0_loudness_22 : decode cX0_loudness 22 = .ok (.imul, 1) := by decide +kernel
theorem dX0_loudness_23 : decode cX0_loudness 23 = .ok (.iadd, 1) := by decide +kernel
theorem dX0_loudness_24 : decode cX0_loudness 24 = .ok (.istore_n 2, 1) := by decide +kernel
theorem dX0_loudness_25 : decode cX0_loudness 25 = .ok (.iinc 3 1, 3) := by decide +kernel
theorem dX0_loudness_28 : decode cX0_loudness 28 = .ok (.goto (-24), 3) := by decide +kernel
theorem dX0_loudness_3 : decode cX0_loudness 3 = .ok (.istore_n 3, 1) := by decide +kernel
theorem dX0_loudness_31 : decode cX0_loudness 31 = .ok (.iload_n 2, 1) := by decide +kernel
theorem dX0_loudness_32 : decode cX0_loudness 32 = .ok (.ireturn, 1) := by decide +kernel
theorem dX0_loudness_4 : decode cX0_loudness 4 = .ok (.iload_n 3, 1) := by decide +kernel
theorem dX0_loudness_5 : decode cX0_loudness 5 = .ok (.bipush 9, 2) := by decide +kernel
theorem dX0_loudness_7 : decode cX0_loudness 7 = .ok (.if_icmp .gt 24, 3) := by decide +kernel
theorem dX0_outAt_0 : decode cX0_outAt 0 = .ok (.iload_n 1, 1) := by decide +kernel
theorem dX0_outAt_1 : decode cX0_outAt 1 = .ok (.ifCond .lt 21, 3) := by decide +kernel
theorem dX0_outAt_10 : decode cX0_outAt 10 = .ok (.if_icmp .ge 12, 3) := by decide +kernel
theorem dX0_outAt_13 : decode cX0_outAt 13 = .ok (.aload_n 0, 1) := by decide +kernel
theorem dX0_outAt_14 : decode cX0_outAt 14 = .ok (.getfield 34, 3) := by decide +kernel
theorem dX0_outAt_17 : decode cX0_outAt 17 = .ok (.iload_n 1, 1) := by decide +kernel
theorem dX0_outAt_18 : decode cX0_outAt 18 = .ok (.iaload, 1) := by decide +kernel
theorem dX0_outAt_19 : decode cX0_outAt 19 = .ok (.goto 4, 3) := by decide +kernel
theorem dX0_outAt_22 : decode cX0_outAt 22 = .ok (.iconst 0, 1) := by decide +kernel
theorem dX0_outAt_23 : decode cX0_outAt 23 = .ok (.ireturn, 1) := by decide +kernel
theorem dX0_outAt_4 : decode cX0_outAt 4 = .ok (.iload_n 1, 1) := by decide +kernel
theorem dX0_outAt_5 : decode cX0_outAt 5 = .ok (.aload_n 0, 1) := by decide +kernel
theorem dX0_outAt_6 : decode cX0_outAt 6 = .ok (.getfield 34, 3) := by decide +kernel
theorem dX0_outAt_9 : decode cX0_outAt 9 = .ok (.arraylength, 1) := by decide +kernel
theorem dX0_place_0 : decode cX0_place 0 = .ok (.aload_n 0, 1) := by decide +kernel
theorem dX0_place_1 : decode cX0_place 1 = .ok (.iload_n 1, 1) := by decide +kernel
theorem dX0_place_10 : decode cX0_place 10 = .ok (.aload_n 0, 1) := by decide +kernel
theorem dX0_place_11 : decode cX0_place 11 = .ok (.iload_n 3, 1) := by decide +kernel
theorem dX0_place_12 : decode cX0_place 12 = .ok (.putfield 28, 3) := by decide +kernel
theorem dX0_place_15 : decode cX0_place 15 = .ok (.aload_n 0, 1) := by decide +kernel
theorem dX0_place_16 : decode cX0_place 16 = .ok (.iload 4, 2) := by decide +kernel
theorem dX0_place_18 : decode cX0_place 18 = .ok (.putfield 31, 3) := by decide +kernel
theorem dX0_place_2 : decode cX0_place 2 = .ok (.putfield 22, 3) := by decide +kernel
theorem dX0_place_21 : decode cX0_place 21 = .ok (.return_, 1) := by decide +kernel
theorem dX0_place_5 : decode cX0_place 5 = .ok (.aload_n 0, 1) := by decide +kernel
theorem dX0_place_6 : decode cX0_place 6 = .ok (.iload_n 2, 1) := by decide +kernel
theorem dX0_place_7 : decode cX0_place 7 = .ok (.putfield 25, 3) := by decide +kernel
theorem dX0_run_0 : decode cX0_run 0 = .ok (.iconst 0, 1) := by decide +kernel
theorem dX0_run_1 : decode cX0_run 1 = .ok (.istore_n 3, 1) := by decide +kernel
theorem dX0_run_12 : decode cX0_run 12 = .ok (.arraylength, 1) := by decide +kernel
theorem dX0_run_13 : decode cX0_run 13 = .ok (.if_icmp .ge 81, 3) := by decide +kernel
theorem dX0_run_16 : decode cX0_run 16 = .ok (.iload_n 3, 1) := by decide +kernel
theorem dX0_run_17 : decode cX0_run 17 = .ok (.aload_n 0, 1) := by decide +kernel
theorem dX0_run_18 : decode cX0_run 18 = .ok (.getfield 9, 3) := by decide +kernel
theorem dX0_run_2 : decode cX0_run 2 = .ok (.iload_n 3, 1) := by decide +kernel
theorem dX0_run_21 : decode cX0_run 21 = .ok (.if_icmp .ge 16, 3) := by decide +kernel
theorem dX0_run_24 : decode cX0_run 24 = .ok (.aload_n 0, 1) := by decide +kernel
theorem dX0_run_25 : decode cX0_run 25 = .ok (.aload_n 1, 1) := by decide +kernel
theorem dX0_run_26 : decode cX0_run 26 = .ok (.iload_n 3, 1) := by decide +kernel
theorem dX0_run_27 : decode cX0_run 27 = .ok (.i2l, 1) := by decide +kernel
theorem dX0_run_28 : decode cX0_run 28 = .ok (.invokevirtual 43, 3) := by decide +kernel
theorem dX0_run_3 : decode cX0_run 3 = .ok (.iload_n 2, 1) := by decide +kernel
theorem dX0_run_31 : decode cX0_run 31 = .ok (.invokevirtual 49, 3) := by decide +kernel
theorem dX0_run_34 : decode cX0_run 34 = .ok (.goto 4, 3) := by decide +kernel
theorem dX0_run_37 : decode cX0_run 37 = .ok (.iconst 0, 1) := by decide +kernel
theorem dX0_run_38 : decode cX0_run 38 = .ok (.istore 4, 2) := by decide +kernel
theorem dX0_run_4 : decode cX0_run 4 = .ok (.if_icmp .gt 90, 3) := by decide +kernel
theorem dX0_run_40 : decode cX0_run 40 = .ok (.iload 4, 2) := by decide +kernel
theorem dX0_run_42 : decode cX0_run 42 = .ok (.aload_n 0, 1) := by decide +kernel
theorem dX0_run_43 : decode cX0_run 43 = .ok (.iload_n 3, 1) := by decide +kernel
theorem dX0_run_44 : decode cX0_run 44 = .ok (.aload_n 0, 1) := by decide +kernel
theorem dX0_run_45 : decode cX0_run 45 = .ok (.getfield 22, 3) := by decide +kernel
theorem dX0_run_48 : decode cX0_run 48 = .ok (.isub, 1) := by decide +kernel
theorem dX0_run_49 : decode cX0_run 49 = .ok (.aload_n 0, 1) := by decide +kernel
theorem dX0_run_50 : decode cX0_run 50 = .ok (.getfield 25, 3) := by decide +kernel
theorem dX0_run_53 : decode cX0_run 53 = .ok (.invokevirtual 53, 3) := by decide +kernel
theorem dX0_run_56 : decode cX0_run 56 = .ok (.iadd, 1) := by decide +kernel
theorem dX0_run_57 : decode cX0_run 57 = .ok (.aload_n 0, 1) := by decide +kernel
theorem dX0_run_58 : decode cX0_run 58 = .ok (.iload_n 3, 1) := by decide +kernel
theorem dX0_run_59 : decode cX0_run 59 = .ok (.aload_n 0, 1) := by decide +kernel
theorem dX0_run_60 : decode cX0_run 60 = .ok (.getfield 28, 3) := by decide +kernel
theorem dX0_run_63 : decode cX0_run 63 = .ok (.isub, 1) := by decide +kernel
theorem dX0_run_64 : decode cX0_run 64 = .ok (.aload_n 0, 1) := by decide +kernel
theorem dX0_run_65 : decode cX0_run 65 = .ok (.getfield 31, 3) := by decide +kernel
theorem dX0_run_68 : decode cX0_run 68 = .ok (.invokevirtual 53, 3) := by decide +kernel
theorem dX0_run_7 : decode cX0_run 7 = .ok (.iload_n 3, 1) := by decide +kernel
theorem dX0_run_71 : decode cX0_run 71 = .ok (.iadd, 1) := by decide +kernel
theorem dX0_run_72 : decode cX0_run 72 = .ok (.istore 5, 2) := by decide +kernel
theorem dX0_run_74 : decode cX0_run 74 = .ok (.aload_n 0, 1) := by decide +kernel
theorem dX0_run_75 : decode cX0_run 75 = .ok (.getfield 34, 3) := by decide +kernel
theorem dX0_run_78 : decode cX0_run 78 = .ok (.iload_n 3, 1) := by decide +kernel
theorem dX0_run_79 : decode cX0_run 79 = .ok (.iload 5, 2) := by decide +kernel
theorem dX0_run_8 : decode cX0_run 8 = .ok (.aload_n 0, 1) := by decide +kernel
theorem dX0_run_81 : decode cX0_run 81 = .ok (.sipush 5000, 3) := by decide +kernel
theorem dX0_run_84 : decode cX0_run 84 = .ok (.invokestatic 57, 3) := by decide +kernel
theorem dX0_run_87 : decode cX0_run 87 = .ok (.iastore, 1) := by decide +kernel
theorem dX0_run_88 : decode cX0_run 88 = .ok (.iinc 3 1, 3) := by decide +kernel
theorem dX0_run_9 : decode cX0_run 9 = .ok (.getfield 34, 3) := by decide +kernel
theorem dX0_run_91 : decode cX0_run 91 = .ok (.goto (-89), 3) := by decide +kernel
theorem dX0_run_94 : decode cX0_run 94 = .ok (.return_, 1) := by decide +kernel
theorem dX0_weigh_0 : decode cX0_weigh 0 = .ok (.aload_n 0, 1) := by decide +kernel
theorem dX0_weigh_1 : decode cX0_weigh 1 = .ok (.getfield 19, 3) := by decide +kernel
theorem dX0_weigh_11 : decode cX0_weigh 11 = .ok (.iload_n 1, 1) := by decide +kernel
theorem dX0_weigh_12 : decode cX0_weigh 12 = .ok (.iload_n 2, 1) := by decide +kernel
theorem dX0_weigh_13 : decode cX0_weigh 13 = .ok (.iastore, 1) := by decide +kernel
theorem dX0_weigh_14 : decode cX0_weigh 14 = .ok (.iload_n 3, 1) := by decide +kernel
theorem dX0_weigh_15 : decode cX0_weigh 15 = .ok (.ireturn, 1) := by decide +kernel
theorem dX0_weigh_4 : decode cX0_weigh 4 = .ok (.iload_n 1, 1) := by decide +kernel
theorem dX0_weigh_5 : decode cX0_weigh 5 = .ok (.iaload, 1) := by decide +kernel
theorem dX0_weigh_6 : decode cX0_weigh 6 = .ok (.istore_n 3, 1) := by decide +kernel
theorem dX0_weigh_7 : decode cX0_weigh 7 = .ok (.aload_n 0, 1) := by decide +kernel
theorem dX0_weigh_8 : decode cX0_weigh 8 = .ok (.getfield 19, 3) := by decide +kernel
theorem dX11_cut_0 : decode cX11_cut 0 = .ok (.aload_n 0, 1) := by decide +kernel
theorem dX11_cut_1 : decode cX11_cut 1 = .ok (.getfield 26, 3) := by decide +kernel
theorem dX11_cut_10 : decode cX11_cut 10 = .ok (.ifnull 14, 3) := by decide +kernel
theorem dX11_cut_13 : decode cX11_cut 13 = .ok (.aload_n 3, 1) := by decide +kernel
theorem dX11_cut_14 : decode cX11_cut 14 = .ok (.getfield 108, 3) := by decide +kernel
theorem dX11_cut_17 : decode cX11_cut 17 = .ok (.iload_n 2, 1) := by decide +kernel
theorem dX11_cut_18 : decode cX11_cut 18 = .ok (.invokevirtual 98, 3) := by decide +kernel
theorem dX11_cut_21 : decode cX11_cut 21 = .ok (.ifCond .ne 5, 3) := by decide +kernel
theorem dX11_cut_24 : decode cX11_cut 24 = .ok (.iconst (-1), 1) := by decide +kernel
theorem dX11_cut_25 : decode cX11_cut 25 = .ok (.ireturn, 1) := by decide +kernel
theorem dX11_cut_26 : decode cX11_cut 26 = .ok (.aload_n 3, 1) := by decide +kernel
theorem dX11_cut_27 : decode cX11_cut 27 = .ok (.iload_n 2, 1) := by decide +kernel
theorem dX11_cut_28 : decode cX11_cut 28 = .ok (.invokevirtual 226, 3) := by decide +kernel
theorem dX11_cut_31 : decode cX11_cut 31 = .ok (.aload_n 3, 1) := by decide +kernel
theorem dX11_cut_32 : decode cX11_cut 32 = .ok (.getfield 108, 3) := by decide +kernel
theorem dX11_cut_35 : decode cX11_cut 35 = .ok (.getfield 117, 3) := by decide +kernel
theorem dX11_cut_38 : decode cX11_cut 38 = .ok (.ireturn, 1) := by decide +kernel
theorem dX11_cut_4 : decode cX11_cut 4 = .ok (.iload_n 1, 1) := by decide +kernel
theorem dX11_cut_5 : decode cX11_cut 5 = .ok (.invokevirtual 104, 3) := by decide +kernel
theorem dX11_cut_8 : decode cX11_cut 8 = .ok (.astore_n 3, 1) := by decide +kernel
theorem dX11_cut_9 : decode cX11_cut 9 = .ok (.aload_n 3, 1) := by decide +kernel
theorem dX11_heads_0 : decode cX11_heads 0 = .ok (.iload_n 1, 1) := by decide +kernel
theorem dX11_heads_1 : decode cX11_heads 1 = .ok (.iconst 1, 1) := by decide +kernel
theorem dX11_heads_10 : decode cX11_heads 10 = .ok (.iload_n 2, 1) := by decide +kernel
theorem dX11_heads_11 : decode cX11_heads 11 = .ok (.iconst 0, 1) := by decide +kernel
theorem dX11_heads_12 : decode cX11_heads 12 = .ok (.bipush 100, 2) := by decide +kernel
theorem dX11_heads_14 : decode cX11_heads 14 = .ok (.invokestatic 113, 3) := by decide +kernel
theorem dX11_heads_17 : decode cX11_heads 17 = .ok (.ifCond .eq 24, 3) := by decide +kernel
theorem dX11_heads_2 : decode cX11_heads 2 = .ok (.bipush 20, 2) := by decide +kernel
theorem dX11_heads_20 : decode cX11_heads 20 = .ok (.iload_n 3, 1) := by decide +kernel
theorem dX11_heads_21 : decode cX11_heads 21 = .ok (.iconst 1, 1) := by decide +kernel
theorem dX11_heads_22 : decode cX11_heads 22 = .ok (.bipush 20, 2) := by decide +kernel
theorem dX11_heads_24 : decode cX11_heads 24 = .ok (.invokestatic 113, 3) := by decide +kernel
theorem dX11_heads_27 : decode cX11_heads 27 = .ok (.ifCond .eq 14, 3) := by decide +kernel
theorem dX11_heads_30 : decode cX11_heads 30 = .ok (.iload 4, 2) := by decide +kernel
theorem dX11_heads_32 : decode cX11_heads 32 = .ok (.iconst 0, 1) := by decide +kernel
theorem dX11_heads_33 : decode cX11_heads 33 = .ok (.bipush 100, 2) := by decide +kernel
theorem dX11_heads_35 : decode cX11_heads 35 = .ok (.invokestatic 113, 3) := by decide +kernel
theorem dX11_heads_38 : decode cX11_heads 38 = .ok (.ifCond .ne 5, 3) := by decide +kernel
theorem dX11_heads_4 : decode cX11_heads 4 = .ok (.invokestatic 113, 3) := by decide +kernel
theorem dX11_heads_41 : decode cX11_heads 41 = .ok (.iconst 0, 1) := by decide +kernel
theorem dX11_heads_42 : decode cX11_heads 42 = .ok (.ireturn, 1) := by decide +kernel
theorem dX11_heads_43 : decode cX11_heads 43 = .ok (.aload_n 0, 1) := by decide +kernel
theorem dX11_heads_44 : decode cX11_heads 44 = .ok (.getfield 47, 3) := by decide +kernel
theorem dX11_heads_47 : decode cX11_heads 47 = .ok (.iload_n 1, 1) := by decide +kernel
theorem dX11_heads_48 : decode cX11_heads 48 = .ok (.iload_n 2, 1) := by decide +kernel
theorem dX11_heads_49 : decode cX11_heads 49 = .ok (.iload_n 3, 1) := by decide +kernel
theorem dX11_heads_50 : decode cX11_heads 50 = .ok (.iload 4, 2) := by decide +kernel
theorem dX11_heads_52 : decode cX11_heads 52 = .ok (.invokevirtual 233, 3) := by decide +kernel
theorem dX11_heads_55 : decode cX11_heads 55 = .ok (.iconst 1, 1) := by decide +kernel
theorem dX11_heads_56 : decode cX11_heads 56 = .ok (.ireturn, 1) := by decide +kernel
theorem dX11_heads_7 : decode cX11_heads 7 = .ok (.ifCond .eq 34, 3) := by decide +kernel
theorem dX11_out_0 : decode cX11_out 0 = .ok (.iload_n 1, 1) := by decide +kernel
theorem dX11_out_1 : decode cX11_out 1 = .ok (.iconst 0, 1) := by decide +kernel
theorem dX11_out_11 : decode cX11_out 11 = .ok (.iconst (-1), 1) := by decide +kernel
theorem dX11_out_12 : decode cX11_out 12 = .ok (.ireturn, 1) := by decide +kernel
theorem dX11_out_13 : decode cX11_out 13 = .ok (.aload_n 0, 1) := by decide +kernel
theorem dX11_out_14 : decode cX11_out 14 = .ok (.getfield 47, 3) := by decide +kernel
theorem dX11_out_17 : decode cX11_out 17 = .ok (.aload_n 0, 1) := by decide +kernel
theorem dX11_out_18 : decode cX11_out 18 = .ok (.getfield 26, 3) := by decide +kernel
theorem dX11_out_2 : decode cX11_out 2 = .ok (.sipush 4000, 3) := by decide +kernel
theorem dX11_out_21 : decode cX11_out 21 = .ok (.iload_n 1, 1) := by decide +kernel
theorem dX11_out_22 : decode cX11_out 22 = .ok (.invokevirtual 240, 3) := by decide +kernel
theorem dX11_out_25 : decode cX11_out 25 = .ok (.aload_n 0, 1) := by decide +kernel
theorem dX11_out_26 : decode cX11_out 26 = .ok (.getfield 47, 3) := by decide +kernel
theorem dX11_out_29 : decode cX11_out 29 = .ok (.iload_n 1, 1) := by decide +kernel
theorem dX11_out_30 : decode cX11_out 30 = .ok (.invokevirtual 244, 3) := by decide +kernel
theorem dX11_out_33 : decode cX11_out 33 = .ok (.ireturn, 1) := by decide +kernel
theorem dX11_out_5 : decode cX11_out 5 = .ok (.invokestatic 113, 3) := by decide +kernel
theorem dX11_out_8 : decode cX11_out 8 = .ok (.ifCond .ne 5, 3) := by decide +kernel
theorem dX11_stop_0 : decode cX11_stop 0 = .ok (.iload_n 1, 1) := by decide +kernel
theorem dX11_stop_1 : decode cX11_stop 1 = .ok (.iconst 0, 1) := by decide +kernel
theorem dX11_stop_11 : decode cX11_stop 11 = .ok (.iconst (-1), 1) := by decide +kernel
theorem dX11_stop_12 : decode cX11_stop 12 = .ok (.ireturn, 1) := by decide +kernel
theorem dX11_stop_13 : decode cX11_stop 13 = .ok (.aload_n 0, 1) := by decide +kernel
theorem dX11_stop_14 : decode cX11_stop 14 = .ok (.getfield 47, 3) := by decide +kernel
theorem dX11_stop_17 : decode cX11_stop 17 = .ok (.getfield 237, 3) := by decide +kernel
theorem dX11_stop_2 : decode cX11_stop 2 = .ok (.sipush 2000, 3) := by decide +kernel
theorem dX11_stop_20 : decode cX11_stop 20 = .ok (.istore_n 2, 1) := by decide +kernel
theorem dX11_stop_21 : decode cX11_stop 21 = .ok (.aload_n 0, 1) := by decide +kernel
theorem dX11_stop_22 : decode cX11_stop 22 = .ok (.getfield 47, 3) := by decide +kernel
theorem dX11_stop_25 : decode cX11_stop 25 = .ok (.iload_n 1, 1) := by decide +kernel
theorem dX11_stop_26 : decode cX11_stop 26 = .ok (.putfield 237, 3) := by decide +kernel
theorem dX11_stop_29 : decode cX11_stop 29 = .ok (.iload_n 2, 1) := by decide +kernel
theorem dX11_stop_30 : decode cX11_stop 30 = .ok (.ireturn, 1) := by decide +kernel
theorem dX11_stop_5 : decode cX11_stop 5 = .ok (.invokestatic 113, 3) := by decide +kernel
theorem dX11_stop_8 : decode cX11_stop 8 = .ok (.ifCond .ne 5, 3) := by decide +kernel
theorem dX11_weight_0 : decode cX11_weight 0 = .ok (.iload_n 1, 1) := by decide +kernel
theorem dX11_weight_1 : decode cX11_weight 1 = .ok (.invokestatic 205, 3) := by decide +kernel
theorem dX11_weight_12 : decode cX11_weight 12 = .ok (.invokestatic 113, 3) := by decide +kernel
theorem dX11_weight_15 : decode cX11_weight 15 = .ok (.ifCond .ne 5, 3) := by decide +kernel
theorem dX11_weight_18 : decode cX11_weight 18 = .ok (.iconst (-1), 1) := by decide +kernel
theorem dX11_weight_19 : decode cX11_weight 19 = .ok (.ireturn, 1) := by decide +kernel
theorem dX11_weight_20 : decode cX11_weight 20 = .ok (.aload_n 0, 1) := by decide +kernel
theorem dX11_weight_21 : decode cX11_weight 21 = .ok (.getfield 47, 3) := by decide +kernel
theorem dX11_weight_24 : decode cX11_weight 24 = .ok (.iload_n 1, 1) := by decide +kernel
theorem dX11_weight_25 : decode cX11_weight 25 = .ok (.iload_n 2, 1) := by decide +kernel
theorem dX11_weight_26 : decode cX11_weight 26 = .ok (.invokevirtual 230, 3) := by decide +kernel
theorem dX11_weight_29 : decode cX11_weight 29 = .ok (.ireturn, 1) := by decide +kernel
theorem dX11_weight_4 : decode cX11_weight 4 = .ok (.ifCond .eq 14, 3) := by decide +kernel
theorem dX11_weight_7 : decode cX11_weight 7 = .ok (.iload_n 2, 1) := by decide +kernel
theorem dX11_weight_8 : decode cX11_weight 8 = .ok (.iconst 0, 1) := by decide +kernel
theorem dX11_weight_9 : decode cX11_weight 9 = .ok (.sipush 200, 3) := by decide +kernel
theorem dm_X0_weigh : yX0_weigh.cls = RX0 ∧ yX0_weigh.cls ≠ "java/lang/invoke/MethodHandle" ∧ yX0_weigh.cls ≠ "java/lang/invoke/VarHandle" ∧ (parseMethodDescriptor yX0_weigh.desc).map (fun d => d.parameters.length) = some 2 := by decide +kernel
theorem dm_X0_place : yX0_place.cls = RX0 ∧ yX0_place.cls ≠ "java/lang/invoke/MethodHandle" ∧ yX0_place.cls ≠ "java/lang/invoke/VarHandle" ∧ (parseMethodDescriptor yX0_place.desc).map (fun d => d.parameters.length) = some 4 := by decide +kernel
theorem dm_X0_outAt : yX0_outAt.cls = RX0 ∧ yX0_outAt.cls ≠ "java/lang/invoke/MethodHandle" ∧ yX0_outAt.cls ≠ "java/lang/invoke/VarHandle" ∧ (parseMethodDescriptor yX0_outAt.desc).map (fun d => d.parameters.length) = some 1 := by decide +kernel
theorem dm_X0_loudness : yX0_loudness.cls = RX0 ∧ yX0_loudness.cls ≠ "java/lang/invoke/MethodHandle" ∧ yX0_loudness.cls ≠ "java/lang/invoke/VarHandle" ∧ (parseMethodDescriptor yX0_loudness.desc).map (fun d => d.parameters.length) = some 1 := by decide +kernel
theorem dm_X0_behind : yX0_behind.cls = RX0 ∧ yX0_behind.cls ≠ "java/lang/invoke/MethodHandle" ∧ yX0_behind.cls ≠ "java/lang/invoke/VarHandle" ∧ (parseMethodDescriptor yX0_behind.desc).map (fun d => d.parameters.length) = some 2 := by decide +kernel
theorem dm_X0_run : yX0_run.cls = RX0 ∧ yX0_run.cls ≠ "java/lang/invoke/MethodHandle" ∧ yX0_run.cls ≠ "java/lang/invoke/VarHandle" ∧ (parseMethodDescriptor yX0_run.desc).map (fun d => d.parameters.length) = some 2 := by decide +kernel
set_option maxRecDepth 100000 in
def wC_cut (a0 : Int) (a1 : Int) (M : zM) (Q : Int → zM → Prop) : Prop := wC_Studio_find a0 M (fun z2 => (z2 = none → Q (-1) M) ∧ (∀ q4, z2 = some q4 → (q4 < nC ∧ zcd wC q4 = 14) ∧ (wC_Strip_has (q4 + 1) a1 M (fun z14 => (z14 ≠ 0 → wC_Ring_cutBy q4 a1 M (fun M18 => Q (sI (M18 (q4 + 1) 1)) M18)) ∧ (z14 = 0 → Q (-1) M)))))
set_option maxHeartbeats 4000000 in
set_option maxRecDepth 100000 in
theorem cC_cut (l : Launch) (D : va_G) (dA : Nat → ClassId) (b : Nat) (M : zM) (a0 : Int) (a1 : Int)  (Q : Int → zM → Prop) (h : wC_cut a0 a1 M Q) : Met l yX11_cut (.code yX11_cut cX11_cut 4 (some .int) :: zt) (z_rm 5) (va_Pc [.ref (b + 0), .int (iI a0), .int (iI a1)] (wPre D dA vwCl (z_tys dA) wC nC b M)) (va_Qi (wQi Q) (zB D dA vwCl wC nC b) (zA nC b)) 0 0 (zA nC b) := by
  unfold wC_cut at h
  refine Met.ofW (cc := cX11_cut) (maxL := 4) (ret := (some .int)) (by decide) rfl ?_
  intro p e s m args below meth c s₁ B hml hv
  obtain ⟨hargs, hS, hK⟩ := hv
  have hx := B.exec
  have hb := B.bytes
  have hr := B.returns
  have hts := atoms_spec (ws := .code yX11_cut cX11_cut 4 (some .int) :: zt) B.pre
  have hown : s.vm.findClass RX11 = some m.cls := findClass_of_methodNamed B.named
  have hlocks := B.notSynchronized
  have hS0 : va_S (zA nC b) s.heap s.heap [] := va_S.rf
  have hl := lv_entry ([.ref (b + 0), .int (iI a0), .int (iI a1)]) (n := 4) (Nat.le_of_ble_eq_true rfl)
  have hent : entryFrame m args 4 = F0 m 0 ((lg_sl ([.ref (b + 0), .int (iI a0), .int (iI a1)]) ++ List.replicate (4 - (lg_sl ([.ref (b + 0), .int (iI a0), .int (iI a1)])).length) Slot.unset).toArray) [] := by rw [hargs]; exact lg_entry_eq m ([.ref (b + 0), .int (iI a0), .int (iI a1)]) 4
  rw [hent]
  generalize (lg_sl ([.ref (b + 0), .int (iI a0), .int (iI a1)]) ++ List.replicate (4 - (lg_sl ([.ref (b + 0), .int (iI a0), .int (iI a1)])).length) Slot.unset).toArray = ls at hl ⊢
  have hl : lv_has ls 4 [(0, .ref (b + 0)), (1, .int (iI a0)), (2, .int (iI a1))] := hl
  refine lv_aload_n hx hb dX11_cut_0 rfl (lv_at hl 0 rfl) ?_
  refine w_getr (j2 := 32) hx hb hts (z_memU u11) hown hK.1 hS f11_2 (by decide) (zkd_of (rfl : zcd wC 0 = 0) rfl) (zrf_of (rfl : zcd wC 0 = 0) rfl) (Or.inl (hts _ (z_mem k244))) dX11_cut_1 ?_
  refine lv_iload_n hx hb dX11_cut_4 rfl (lv_at hl 1 rfl) ?_
  refine w_callq (va_runV (As := [.int (iI a0)]) (rest := []) ⟨hx, hb, hml, hown, hts⟩ (cC_Studio_find l D dA b M a0 _ h) (cwV 1 hts (z_gV k411 k412 k413 k4 k414) rfl rfl rfl dm_X9_find ⟨Nat.le_of_ble_eq_true rfl, Nat.le_of_ble_eq_true rfl⟩) ⟨wPre_blind, (w_recv hS hK.1 (by decide) (zkd_of (rfl : zcd wC 32 = 8) rfl) (by decide) (rfl : vwCl[9]? = some (RX9, TX9, 3))), w_pre hS hK⟩ rfl rfl hl.1 rfl (lv_room (Nat.le_of_ble_eq_true rfl)) dX11_cut_5 ⟨Nat.le_refl _, Nat.le_refl _⟩) hS0 (fun z2 M1 H locs h hS hS0 => ?_)
  obtain ⟨e3, h⟩ := h
  rw [e3] at hS
  rcases z2 with _ | q4
  · skip
    have h := h.1 rfl
    refine lv_astore_nN (lv' := [(3, .null), (0, .ref (b + 0)), (1, .int (iI a0)), (2, .int (iI a1))]) hx hb dX11_cut_8 rfl hl (by decide) rfl (fun ls hl => ?_)
    refine lv_aload_nN hx hb dX11_cut_9 rfl (lv_at hl 0 rfl) ?_
    refine lv_ifnullN (tgt := 24) hx hb dX11_cut_10 (by decide) ?_
    refine z_iconst hx hb dX11_cut_24 ?_
    exact w_iret hx hb hr hlocks hS hS0 (sI_of (by decide)) h dX11_cut_25
  · skip
    obtain ⟨⟨lt5, cd6⟩, h⟩ := h.2 q4 rfl
    obtain ⟨lt7, cd8, lt9, cd10, lt11, cd12⟩ := nx_ring q4 lt5 cd6
    refine lv_astore_n (lv' := [(3, .ref (b + q4)), (0, .ref (b + 0)), (1, .int (iI a0)), (2, .int (iI a1))]) hx hb dX11_cut_8 rfl hl (by decide) rfl (fun ls hl => ?_)
    refine lv_aload_n hx hb dX11_cut_9 rfl (lv_at hl 0 rfl) ?_
    refine lv_ifnull hx hb dX11_cut_10 ?_
    refine lv_aload_n hx hb dX11_cut_13 rfl (lv_at hl 0 rfl) ?_
    refine w_getr (j2 := (q4 + 1)) hx hb hts (z_memU u6) hown hK.1 hS f6_0 lt5 (zkd_of cd6 rfl) (zrf_of cd6 rfl) (Or.inl (hts _ (z_mem k96))) dX11_cut_14 ?_
    refine lv_iload_n hx hb dX11_cut_17 rfl (lv_at hl 3 rfl) ?_
    refine w_callz (va_runV (As := [.int (iI a1)]) (rest := []) ⟨hx, hb, hml, hown, hts⟩ (cC_Strip_has l D dA b M (q4 + 1) a1 lt7 cd8 _ h) (cwV 1 hts (z_gV k385 k327 k328 k3 k329) rfl rfl rfl dm_X8_has ⟨Nat.le_of_ble_eq_true rfl, Nat.le_of_ble_eq_true rfl⟩) ⟨wPre_blind, (w_recv hS hK.1 lt7 (zkd_of cd8 rfl) (by decide) (rfl : vwCl[8]? = some (RX8, TX8, 2))), w_pre hS hK⟩ rfl rfl hl.1 rfl (lv_room (Nat.le_of_ble_eq_true rfl)) dX11_cut_18 ⟨Nat.le_refl _, Nat.le_refl _⟩) hS0 (fun z14 M13 H locs r15 h hS hS0 => ?_)
    obtain ⟨e16, h⟩ := h
    rw [e16] at hS
    refine w_if_ne (tgt := 26) hx hb (sI_01 r15) dX11_cut_21 (by decide) (fun c17 => ?_) (fun c17 => ?_)
    · skip
      have h := h.1 c17
      refine lv_aload_n hx hb dX11_cut_26 rfl (lv_at hl 0 rfl) ?_
      refine lv_iload_n hx hb dX11_cut_27 rfl (lv_at hl 3 rfl) ?_
      refine w_callv (va_runV (As := [.int (iI a1)]) (rest := []) ⟨hx, hb, hml, hown, hts⟩ (cC_Ring_cutBy l D dA b M q4 a1 lt5 cd6 _ h) (cwV 1 hts (z_gV k674 k667 k668 k6 k669) rfl rfl rfl dm_X6_cutBy ⟨Nat.le_of_ble_eq_true rfl, Nat.le_of_ble_eq_true rfl⟩) ⟨wPre_blind, (w_recv hS hK.1 lt5 (zkd_of cd6 rfl) (by decide) (rfl : vwCl[6]? = some (RX6, TX6, 6))), w_pre hS hK⟩ rfl rfl hl.1 rfl (lv_room (Nat.le_of_ble_eq_true rfl)) dX11_cut_28 ⟨Nat.le_refl _, Nat.le_refl _⟩) hS0 (fun M18 H locs h hS hS0 => ?_)
      refine lv_aload_n hx hb dX11_cut_31 rfl (lv_at hl 0 rfl) ?_
      refine w_getr (j2 := (q4 + 1)) hx hb hts (z_memU u6) hown hK.1 hS f6_0 lt5 (zkd_of cd6 rfl) (zrf_of cd6 rfl) (Or.inl (hts _ (z_mem k96))) dX11_cut_32 ?_
      refine w_geti hx hb hts (z_memU u8) hown hK.1 hS f8_1 lt7 (zkd_of cd8 rfl) (Or.inl (hts _ (z_mem k50))) dX11_cut_35 ?_
      exact w_iret hx hb hr hlocks hS hS0 rfl h dX11_cut_38
    · skip
      have h := h.2 c17
      refine z_iconst hx hb dX11_cut_24 ?_
      exact w_iret hx hb hr hlocks hS hS0 (sI_of (by decide)) h dX11_cut_25

set_option maxRecDepth 100000 in
def wC_Echo_weigh (a0 : Int) (a1 : Int) (M : zM) (Q : Int → zM → Prop) : Prop := ((0 ≤ (sI a0) ∧ (sI a0) < 10) ∧ ((0 ≤ (sI a0) ∧ (sI a0) < 10) ∧ (∀ M3 : zM, M3 = zup M 80 (sI a0).toNat a1 → Q (sI (M 80 (sI a0).toNat)) M3)))
set_option maxHeartbeats 4000000 in
set_option maxRecDepth 100000 in
theorem cC_Echo_weigh (l : Launch) (D : va_G) (dA : Nat → ClassId) (b : Nat) (M : zM) (a0 : Int) (a1 : Int)  (Q : Int → zM → Prop) (h : wC_Echo_weigh a0 a1 M Q) : Met l yX0_weigh (.code yX0_weigh cX0_weigh 4 (some .int) :: zt) (z_rm 0) (va_Pc [.ref (b + 78), .int (iI a0), .int (iI a1)] (wPre D dA vwCl (z_tys dA) wC nC b M)) (va_Qi (wQi Q) (zB D dA vwCl wC nC b) (zA nC b)) 0 0 (zA nC b) := by
  unfold wC_Echo_weigh at h
  refine Met.ofW (cc := cX0_weigh) (maxL := 4) (ret := (some .int)) (by decide) rfl ?_
  intro p e s m args below meth c s₁ B hml hv
  obtain ⟨hargs, hS, hK⟩ := hv
  have hx := B.exec
  have hb := B.bytes
  have hr := B.returns
  have hts := atoms_spec (ws := .code yX0_weigh cX0_weigh 4 (some .int) :: zt) B.pre
  have hown : s.vm.findClass RX0 = some m.cls := findClass_of_methodNamed B.named
  have hlocks := B.notSynchronized
  have hS0 : va_S (zA nC b) s.heap s.heap [] := va_S.rf
  have hl := lv_entry ([.ref (b + 78), .int (iI a0), .int (iI a1)]) (n := 4) (Nat.le_of_ble_eq_true rfl)
  have hent : entryFrame m args 4 = F0 m 0 ((lg_sl ([.ref (b + 78), .int (iI a0), .int (iI a1)]) ++ List.replicate (4 - (lg_sl ([.ref (b + 78), .int (iI a0), .int (iI a1)])).length) Slot.unset).toArray) [] := by rw [hargs]; exact lg_entry_eq m ([.ref (b + 78), .int (iI a0), .int (iI a1)]) 4
  rw [hent]
  generalize (lg_sl ([.ref (b + 78), .int (iI a0), .int (iI a1)]) ++ List.replicate (4 - (lg_sl ([.ref (b + 78), .int (iI a0), .int (iI a1)])).length) Slot.unset).toArray = ls at hl ⊢
  have hl : lv_has ls 4 [(0, .ref (b + 78)), (1, .int (iI a0)), (2, .int (iI a1))] := hl
  refine lv_aload_n hx hb dX0_weigh_0 rfl (lv_at hl 0 rfl) ?_
  refine w_getr (j2 := 80) hx hb hts (z_memU u0) hown hK.1 hS f0_2 (by decide) (zkd_of (rfl : zcd wC 78 = 30) rfl) (zrf_of (rfl : zcd wC 78 = 30) rfl) (Or.inl (hts _ (z_mem k176))) dX0_weigh_1 ?_
  refine lv_iload_n hx hb dX0_weigh_4 rfl (lv_at hl 1 rfl) ?_
  obtain ⟨o1, h⟩ := h
  refine w_iald (n := 10) (i := (sI a0)) hx hb hK.1 (t0 := 0) rfl hS (by decide) (zkd_of (rfl : zcd wC 80 = 32) rfl) (zln_of (rfl : zcd wC 80 = 32) rfl) rfl o1.1 o1.2 (by decide) dX0_weigh_5 ?_
  refine lv_istore_n (lv' := [(3, .int (iI (M 80 (sI a0).toNat))), (0, .ref (b + 78)), (1, .int (iI a0)), (2, .int (iI a1))]) hx hb dX0_weigh_6 rfl hl (by decide) rfl (fun ls hl => ?_)
  refine lv_aload_n hx hb dX0_weigh_7 rfl (lv_at hl 1 rfl) ?_
  refine w_getr (j2 := 80) hx hb hts (z_memU u0) hown hK.1 hS f0_2 (by decide) (zkd_of (rfl : zcd wC 78 = 30) rfl) (zrf_of (rfl : zcd wC 78 = 30) rfl) (Or.inl (hts _ (z_mem k176))) dX0_weigh_8 ?_
  refine lv_iload_n hx hb dX0_weigh_11 rfl (lv_at hl 2 rfl) ?_
  refine lv_iload_n hx hb dX0_weigh_12 rfl (lv_at hl 3 rfl) ?_
  obtain ⟨o2, h⟩ := h
  refine w_iast (z := a1) (n := 10) (i := (sI a0)) hx hb hK.1 (t0 := 0) rfl hS hS0 (by decide) (zkd_of (rfl : zcd wC 80 = 32) rfl) (zln_of (rfl : zcd wC 80 = 32) rfl) rfl o2.1 o2.2 (by decide) dX0_weigh_13 (fun H locs hS hS0 => ?_)
  obtain ⟨M3, e4⟩ : ∃ M3 : zM, M3 = zup M 80 (sI a0).toNat a1 := ⟨_, rfl⟩
  rw [← e4] at hS
  have h := h M3 e4
  refine lv_iload_n hx hb dX0_weigh_14 rfl (lv_at hl 0 rfl) ?_
  exact w_iret hx hb hr hlocks hS hS0 rfl h dX0_weigh_15

set_option maxRecDepth 100000 in
def wC_weight (a0 : Int) (a1 : Int) (M : zM) (Q : Int → zM → Prop) : Prop := wC_isSound a0 M (fun z2 => (z2 = 0 → Q (-1) M) ∧ (z2 ≠ 0 → wC_within a1 0 200 M (fun z7 => (z7 ≠ 0 → wC_Echo_weigh a0 a1 M (fun z12 M11 => Q z12 M11)) ∧ (z7 = 0 → Q (-1) M))))
set_option maxHeartbeats 4000000 in
set_option maxRecDepth 100000 in
theorem cC_weight (l : Launch) (D : va_G) (dA : Nat → ClassId) (b : Nat) (M : zM) (a0 : Int) (a1 : Int)  (Q : Int → zM → Prop) (h : wC_weight a0 a1 M Q) : Met l yX11_weight (.code yX11_weight cX11_weight 3 (some .int) :: zt) (z_rm 2) (va_Pc [.ref (b + 0), .int (iI a0), .int (iI a1)] (wPre D dA vwCl (z_tys dA) wC nC b M)) (va_Qi (wQi Q) (zB D dA vwCl wC nC b) (zA nC b)) 0 0 (zA nC b) := by
  unfold wC_weight at h
  refine Met.ofW (cc := cX11_weight) (maxL := 3) (ret := (some .int)) (by decide) rfl ?_
  intro p e s m args below meth c s₁ B hml hv
  obtain ⟨hargs, hS, hK⟩ := hv
  have hx := B.exec
  have hb := B.bytes
  have hr := B.returns
  have hts := atoms_spec (ws := .code yX11_weight cX11_weight 3 (some .int) :: zt) B.pre
  have hown : s.vm.findClass RX11 = some m.cls := findClass_of_methodNamed B.named
  have hlocks := B.notSynchronized
  have hS0 : va_S (zA nC b) s.heap s.heap [] := va_S.rf
  have hl := lv_entry ([.ref (b + 0), .int (iI a0), .int (iI a1)]) (n := 3) (Nat.le_of_ble_eq_true rfl)
  have hent : entryFrame m args 3 = F0 m 0 ((lg_sl ([.ref (b + 0), .int (iI a0), .int (iI a1)]) ++ List.replicate (3 - (lg_sl ([.ref (b + 0), .int (iI a0), .int (iI a1)])).length) Slot.unset).toArray) [] := by rw [hargs]; exact lg_entry_eq m ([.ref (b + 0), .int (iI a0), .int (iI a1)]) 3
  rw [hent]
  generalize (lg_sl ([.ref (b + 0), .int (iI a0), .int (iI a1)]) ++ List.replicate (3 - (lg_sl ([.ref (b + 0), .int (iI a0), .int (iI a1)])).length) Slot.unset).toArray = ls at hl ⊢
  have hl : lv_has ls 3 [(0, .ref (b + 0)), (1, .int (iI a0)), (2, .int (iI a1))] := hl
  refine lv_iload_n hx hb dX11_weight_0 rfl (lv_at hl 1 rfl) ?_
  refine w_callz (va_runS (As := [.int (iI a0)]) (rest := []) ⟨hx, hb, hml, hown, hts⟩ (cC_isSound l D dA b M a0 _ h) (va_cwS 1 hts (z_gS k601 k602 k1 k603) rfl rfl rfl dm_X11_isSound.2 ⟨Nat.le_of_ble_eq_true rfl, Nat.le_of_ble_eq_true rfl⟩) ⟨wPre_blind, w_pre hS hK⟩ rfl rfl hl.1 rfl (lv_room (Nat.le_of_ble_eq_true rfl)) dX11_weight_1 ⟨Nat.le_refl _, Nat.le_refl _⟩) hS0 (fun z2 M1 H locs r3 h hS hS0 => ?_)
  obtain ⟨e4, h⟩ := h
  rw [e4] at hS
  refine w_if_eq (tgt := 18) hx hb (sI_01 r3) dX11_weight_4 (by decide) (fun c5 => ?_) (fun c5 => ?_)
  · skip
    have h := h.1 c5
    refine z_iconst hx hb dX11_weight_18 ?_
    exact w_iret hx hb hr hlocks hS hS0 (sI_of (by decide)) h dX11_weight_19
  · skip
    have h := h.2 c5
    refine lv_iload_n hx hb dX11_weight_7 rfl (lv_at hl 2 rfl) ?_
    refine z_iconst hx hb dX11_weight_8 ?_
    refine z_sipush hx hb (by decide) dX11_weight_9 ?_
    refine w_callz (va_runS (As := [.int (iI a1), .int (iI 0), .int (iI 200)]) (rest := []) ⟨hx, hb, hml, hown, hts⟩ (cC_within l D dA b M a1 0 200 _ h) (va_cwS 3 hts (z_gS k382 k383 k1 k384) rfl rfl rfl dm_X11_within.2 ⟨Nat.le_of_ble_eq_true rfl, Nat.le_of_ble_eq_true rfl⟩) ⟨wPre_blind, w_pre hS hK⟩ rfl rfl hl.1 rfl (lv_room (Nat.le_of_ble_eq_true rfl)) dX11_weight_12 ⟨Nat.le_refl _, Nat.le_refl _⟩) hS0 (fun z7 M6 H locs r8 h hS hS0 => ?_)
    obtain ⟨e9, h⟩ := h
    rw [e9] at hS
    refine w_if_ne (tgt := 20) hx hb (sI_01 r8) dX11_weight_15 (by decide) (fun c10 => ?_) (fun c10 => ?_)
    · skip
      have h := h.1 c10
      refine lv_aload_n hx hb dX11_weight_20 rfl (lv_at hl 0 rfl) ?_
      refine w_getr (j2 := 78) hx hb hts (z_memU u11) hown hK.1 hS f11_5 (by decide) (zkd_of (rfl : zcd wC 0 = 0) rfl) (zrf_of (rfl : zcd wC 0 = 0) rfl) (Or.inl (hts _ (z_mem k247))) dX11_weight_21 ?_
      refine lv_iload_n hx hb dX11_weight_24 rfl (lv_at hl 1 rfl) ?_
      refine lv_iload_n hx hb dX11_weight_25 rfl (lv_at hl 2 rfl) ?_
      refine w_calli (va_runV (As := [.int (iI a0), .int (iI a1)]) (rest := []) ⟨hx, hb, hml, hown, hts⟩ (cC_Echo_weigh l D dA b M a0 a1 _ h) (cwV 2 hts (z_gV k679 k680 k681 k9 k682) rfl rfl rfl dm_X0_weigh ⟨Nat.le_of_ble_eq_true rfl, Nat.le_of_ble_eq_true rfl⟩) ⟨wPre_blind, (w_recv hS hK.1 (by decide) (zkd_of (rfl : zcd wC 78 = 30) rfl) (by decide) (rfl : vwCl[0]? = some (RX0, TX0, 8))), w_pre hS hK⟩ rfl rfl hl.1 rfl (lv_room (Nat.le_of_ble_eq_true rfl)) dX11_weight_26 ⟨Nat.le_refl _, Nat.le_refl _⟩) hS0 (fun z12 M11 H locs r13 h hS hS0 => ?_)
      exact w_iret hx hb hr hlocks hS hS0 (sI_of r13) h dX11_weight_29
    · skip
      have h := h.2 c10
      refine z_iconst hx hb dX11_weight_18 ?_
      exact w_iret hx hb hr hlocks hS hS0 (sI_of (by decide)) h dX11_weight_19

set_option maxRecDepth 100000 in
def wC_Echo_place (a0 : Int) (a1 : Int) (a2 : Int) (a3 : Int) (M : zM) (Q : zM → Prop) : Prop := (∀ M1 : zM, M1 = zup M 78 3 a0 → (∀ M3 : zM, M3 = zup M1 78 4 a1 → (∀ M5 : zM, M5 = zup M3 78 5 a2 → (∀ M7 : zM, M7 = zup M5 78 6 a3 → Q M7))))
set_option maxHeartbeats 4000000 in
set_option maxRecDepth 100000 in
theorem cC_Echo_place (l : Launch) (D : va_G) (dA : Nat → ClassId) (b : Nat) (M : zM) (a0 : Int) (a1 : Int) (a2 : Int) (a3 : Int)  (Q : zM → Prop) (h : wC_Echo_place a0 a1 a2 a3 M Q) : Met l yX0_place (.code yX0_place cX0_place 5 none :: zt) (z_rm 0) (va_Pc [.ref (b + 78), .int (iI a0), .int (iI a1), .int (iI a2), .int (iI a3)] (wPre D dA vwCl (z_tys dA) wC nC b M)) (va_Qv (wQv Q) (zB D dA vwCl wC nC b) (zA nC b)) 0 0 (zA nC b) := by
  unfold wC_Echo_place at h
  refine Met.ofW (cc := cX0_place) (maxL := 5) (ret := none) (by decide) rfl ?_
  intro p e s m args below meth c s₁ B hml hv
  obtain ⟨hargs, hS, hK⟩ := hv
  have hx := B.exec
  have hb := B.bytes
  have hr := B.returns
  have hts := atoms_spec (ws := .code yX0_place cX0_place 5 none :: zt) B.pre
  have hown : s.vm.findClass RX0 = some m.cls := findClass_of_methodNamed B.named
  have hlocks := B.notSynchronized
  have hS0 : va_S (zA nC b) s.heap s.heap [] := va_S.rf
  have hl := lv_entry ([.ref (b + 78), .int (iI a0), .int (iI a1), .int (iI a2), .int (iI a3)]) (n := 5) (Nat.le_of_ble_eq_true rfl)
  have hent : entryFrame m args 5 = F0 m 0 ((lg_sl ([.ref (b + 78), .int (iI a0), .int (iI a1), .int (iI a2), .int (iI a3)]) ++ List.replicate (5 - (lg_sl ([.ref (b + 78), .int (iI a0), .int (iI a1), .int (iI a2), .int (iI a3)])).length) Slot.unset).toArray) [] := by rw [hargs]; exact lg_entry_eq m ([.ref (b + 78), .int (iI a0), .int (iI a1), .int (iI a2), .int (iI a3)]) 5
  rw [hent]
  generalize (lg_sl ([.ref (b + 78), .int (iI a0), .int (iI a1), .int (iI a2), .int (iI a3)]) ++ List.replicate (5 - (lg_sl ([.ref (b + 78), .int (iI a0), .int (iI a1), .int (iI a2), .int (iI a3)])).length) Slot.unset).toArray = ls at hl ⊢
  have hl : lv_has ls 5 [(0, .ref (b + 78)), (1, .int (iI a0)), (2, .int (iI a1)), (3, .int (iI a2)), (4, .int (iI a3))] := hl
  refine lv_aload_n hx hb dX0_place_0 rfl (lv_at hl 0 rfl) ?_
  refine lv_iload_n hx hb dX0_place_1 rfl (lv_at hl 1 rfl) ?_
  refine w_puti hx hb hts (z_memU u0) tyX0 tyX0_ok nmX0 hown hK.1 hS hS0 f0_3 (by decide) (zkd_of (rfl : zcd wC 78 = 30) rfl) (Or.inl (hts _ (z_mem k177))) rfl (z := a0) (by decide +kernel) dX0_place_2 (fun H locs hS hS0 => ?_)
  obtain ⟨M1, e2⟩ : ∃ M1 : zM, M1 = zup M 78 3 a0 := ⟨_, rfl⟩
  rw [← e2] at hS
  have h := h M1 e2
  refine lv_aload_n hx hb dX0_place_5 rfl (lv_at hl 0 rfl) ?_
  refine lv_iload_n hx hb dX0_place_6 rfl (lv_at hl 2 rfl) ?_
  refine w_puti hx hb hts (z_memU u0) tyX0 tyX0_ok nmX0 hown hK.1 hS hS0 f0_4 (by decide) (zkd_of (rfl : zcd wC 78 = 30) rfl) (Or.inl (hts _ (z_mem k178))) rfl (z := a1) (by decide +kernel) dX0_place_7 (fun H locs hS hS0 => ?_)
  obtain ⟨M3, e4⟩ : ∃ M3 : zM, M3 = zup M1 78 4 a1 := ⟨_, rfl⟩
  rw [← e4] at hS
  have h := h M3 e4
  refine lv_aload_n hx hb dX0_place_10 rfl (lv_at hl 0 rfl) ?_
  refine lv_iload_n hx hb dX0_place_11 rfl (lv_at hl 3 rfl) ?_
  refine w_puti hx hb hts (z_memU u0) tyX0 tyX0_ok nmX0 hown hK.1 hS hS0 f0_5 (by decide) (zkd_of (rfl : zcd wC 78 = 30) rfl) (Or.inl (hts _ (z_mem k179))) rfl (z := a2) (by decide +kernel) dX0_place_12 (fun H locs hS hS0 => ?_)
  obtain ⟨M5, e6⟩ : ∃ M5 : zM, M5 = zup M3 78 5 a2 := ⟨_, rfl⟩
  rw [← e6] at hS
  have h := h M5 e6
  refine lv_aload_n hx hb dX0_place_15 rfl (lv_at hl 0 rfl) ?_
  refine lv_iload hx hb dX0_place_16 (lv_at hl 4 rfl) ?_
  refine w_puti hx hb hts (z_memU u0) tyX0 tyX0_ok nmX0 hown hK.1 hS hS0 f0_6 (by decide) (zkd_of (rfl : zcd wC 78 = 30) rfl) (Or.inl (hts _ (z_mem k180))) rfl (z := a3) (by decide +kernel) dX0_place_18 (fun H locs hS hS0 => ?_)
  obtain ⟨M7, e8⟩ : ∃ M7 : zM, M7 = zup M5 78 6 a3 := ⟨_, rfl⟩
  rw [← e8] at hS
  have h := h M7 e8
  exact w_vret hx hb hr hlocks hS hS0 h dX0_place_21

set_option maxRecDepth 100000 in
def wC_heads (a0 : Int) (a1 : Int) (a2 : Int) (a3 : Int) (M : zM) (Q : Int → zM → Prop) : Prop := wC_within a0 1 20 M (fun z2 => (z2 = 0 → Q 0 M) ∧ (z2 ≠ 0 → wC_within a1 0 100 M (fun z7 => (z7 = 0 → Q 0 M) ∧ (z7 ≠ 0 → wC_within a2 1 20 M (fun z12 => (z12 = 0 → Q 0 M) ∧ (z12 ≠ 0 → wC_within a3 0 100 M (fun z17 => (z17 ≠ 0 → wC_Echo_place a0 a1 a2 a3 M (fun M21 => Q 1 M21)) ∧ (z17 = 0 → Q 0 M))))))))
set_option maxHeartbeats 4000000 in
set_option maxRecDepth 100000 in
theorem cC_heads (l : Launch) (D : va_G) (dA : Nat → ClassId) (b : Nat) (M : zM) (a0 : Int) (a1 : Int) (a2 : Int) (a3 : Int)  (Q : Int → zM → Prop) (h : wC_heads a0 a1 a2 a3 M Q) : Met l yX11_heads (.code yX11_heads cX11_heads 5 (some .boolean) :: zt) (z_rm 1) (va_Pc [.ref (b + 0), .int (iI a0), .int (iI a1), .int (iI a2), .int (iI a3)] (wPre D dA vwCl (z_tys dA) wC nC b M)) (va_Qi (wQz Q) (zB D dA vwCl wC nC b) (zA nC b)) 0 0 (zA nC b) := by
  unfold wC_heads at h
  refine Met.ofW (cc := cX11_heads) (maxL := 5) (ret := (some .boolean)) (by decide) rfl ?_
  intro p e s m args below meth c s₁ B hml hv
  obtain ⟨hargs, hS, hK⟩ := hv
  have hx := B.exec
  have hb := B.bytes
  have hr := B.returns
  have hts := atoms_spec (ws := .code yX11_heads cX11_heads 5 (some .boolean) :: zt) B.pre
  have hown : s.vm.findClass RX11 = some m.cls := findClass_of_methodNamed B.named
  have hlocks := B.notSynchronized
  have hS0 : va_S (zA nC b) s.heap s.heap [] := va_S.rf
  have hl := lv_entry ([.ref (b + 0), .int (iI a0), .int (iI a1), .int (iI a2), .int (iI a3)]) (n := 5) (Nat.le_of_ble_eq_true rfl)
  have hent : entryFrame m args 5 = F0 m 0 ((lg_sl ([.ref (b + 0), .int (iI a0), .int (iI a1), .int (iI a2), .int (iI a3)]) ++ List.replicate (5 - (lg_sl ([.ref (b + 0), .int (iI a0), .int (iI a1), .int (iI a2), .int (iI a3)])).length) Slot.unset).toArray) [] := by rw [hargs]; exact lg_entry_eq m ([.ref (b + 0), .int (iI a0), .int (iI a1), .int (iI a2), .int (iI a3)]) 5
  rw [hent]
  generalize (lg_sl ([.ref (b + 0), .int (iI a0), .int (iI a1), .int (iI a2), .int (iI a3)]) ++ List.replicate (5 - (lg_sl ([.ref (b + 0), .int (iI a0), .int (iI a1), .int (iI a2), .int (iI a3)])).length) Slot.unset).toArray = ls at hl ⊢
  have hl : lv_has ls 5 [(0, .ref (b + 0)), (1, .int (iI a0)), (2, .int (iI a1)), (3, .int (iI a2)), (4, .int (iI a3))] := hl
  refine lv_iload_n hx hb dX11_heads_0 rfl (lv_at hl 1 rfl) ?_
  refine z_iconst hx hb dX11_heads_1 ?_
  refine z_bipush hx hb (by decide) dX11_heads_2 ?_
  refine w_callz (va_runS (As := [.int (iI a0), .int (iI 1), .int (iI 20)]) (rest := []) ⟨hx, hb, hml, hown, hts⟩ (cC_within l D dA b M a0 1 20 _ h) (va_cwS 3 hts (z_gS k382 k383 k1 k384) rfl rfl rfl dm_X11_within.2 ⟨Nat.le_of_ble_eq_true rfl, Nat.le_of_ble_eq_true rfl⟩) ⟨wPre_blind, w_pre hS hK⟩ rfl rfl hl.1 rfl (lv_room (Nat.le_of_ble_eq_true rfl)) dX11_heads_4 ⟨Nat.le_refl _, Nat.le_refl _⟩) hS0 (fun z2 M1 H locs r3 h hS hS0 => ?_)
  obtain ⟨e4, h⟩ := h
  rw [e4] at hS
  refine w_if_eq (tgt := 41) hx hb (sI_01 r3) dX11_heads_7 (by decide) (fun c5 => ?_) (fun c5 => ?_)
  · skip
    have h := h.1 c5
    refine z_iconst hx hb dX11_heads_41 ?_
    exact w_zret hx hb hr hlocks hS hS0 (sI_of (by decide)) (by decide) h dX11_heads_42
  · skip
    have h := h.2 c5
    refine lv_iload_n hx hb dX11_heads_10 rfl (lv_at hl 2 rfl) ?_
    refine z_iconst hx hb dX11_heads_11 ?_
    refine z_bipush hx hb (by decide) dX11_heads_12 ?_
    refine w_callz (va_runS (As := [.int (iI a1), .int (iI 0), .int (iI 100)]) (rest := []) ⟨hx, hb, hml, hown, hts⟩ (cC_within l D dA b M a1 0 100 _ h) (va_cwS 3 hts (z_gS k382 k383 k1 k384) rfl rfl rfl dm_X11_within.2 ⟨Nat.le_of_ble_eq_true rfl, Nat.le_of_ble_eq_true rfl⟩) ⟨wPre_blind, w_pre hS hK⟩ rfl rfl hl.1 rfl (lv_room (Nat.le_of_ble_eq_true rfl)) dX11_heads_14 ⟨Nat.le_refl _, Nat.le_refl _⟩) hS0 (fun z7 M6 H locs r8 h hS hS0 => ?_)
    obtain ⟨e9, h⟩ := h
    rw [e9] at hS
    refine w_if_eq (tgt := 41) hx hb (sI_01 r8) dX11_heads_17 (by decide) (fun c10 => ?_) (fun c10 => ?_)
    · skip
      have h := h.1 c10
      refine z_iconst hx hb dX11_heads_41 ?_
      exact w_zret hx hb hr hlocks hS hS0 (sI_of (by decide)) (by decide) h dX11_heads_42
    · skip
      have h := h.2 c10
      refine lv_iload_n hx hb dX11_heads_20 rfl (lv_at hl 3 rfl) ?_
      refine z_iconst hx hb dX11_heads_21 ?_
      refine z_bipush hx hb (by decide) dX11_heads_22 ?_
      refine w_callz (va_runS (As := [.int (iI a2), .int (iI 1), .int (iI 20)]) (rest := []) ⟨hx, hb, hml, hown, hts⟩ (cC_within l D dA b M a2 1 20 _ h) (va_cwS 3 hts (z_gS k382 k383 k1 k384) rfl rfl rfl dm_X11_within.2 ⟨Nat.le_of_ble_eq_true rfl, Nat.le_of_ble_eq_true rfl⟩) ⟨wPre_blind, w_pre hS hK⟩ rfl rfl hl.1 rfl (lv_room (Nat.le_of_ble_eq_true rfl)) dX11_heads_24 ⟨Nat.le_refl _, Nat.le_refl _⟩) hS0 (fun z12 M11 H locs r13 h hS hS0 => ?_)
      obtain ⟨e14, h⟩ := h
      rw [e14] at hS
      refine w_if_eq (tgt := 41) hx hb (sI_01 r13) dX11_heads_27 (by decide) (fun c15 => ?_) (fun c15 => ?_)
      · skip
        have h := h.1 c15
        refine z_iconst hx hb dX11_heads_41 ?_
        exact w_zret hx hb hr hlocks hS hS0 (sI_of (by decide)) (by decide) h dX11_heads_42
      · skip
        have h := h.2 c15
        refine lv_iload hx hb dX11_heads_30 (lv_at hl 4 rfl) ?_
        refine z_iconst hx hb dX11_heads_32 ?_
        refine z_bipush hx hb (by decide) dX11_heads_33 ?_
        refine w_callz (va_runS (As := [.int (iI a3), .int (iI 0), .int (iI 100)]) (rest := []) ⟨hx, hb, hml, hown, hts⟩ (cC_within l D dA b M a3 0 100 _ h) (va_cwS 3 hts (z_gS k382 k383 k1 k384) rfl rfl rfl dm_X11_within.2 ⟨Nat.le_of_ble_eq_true rfl, Nat.le_of_ble_eq_true rfl⟩) ⟨wPre_blind, w_pre hS hK⟩ rfl rfl hl.1 rfl (lv_room (Nat.le_of_ble_eq_true rfl)) dX11_heads_35 ⟨Nat.le_refl _, Nat.le_refl _⟩) hS0 (fun z17 M16 H locs r18 h hS hS0 => ?_)
        obtain ⟨e19, h⟩ := h
        rw [e19] at hS
        refine w_if_ne (tgt := 43) hx hb (sI_01 r18) dX11_heads_38 (by decide) (fun c20 => ?_) (fun c20 => ?_)
        · skip
          have h := h.1 c20
          refine lv_aload_n hx hb dX11_heads_43 rfl (lv_at hl 0 rfl) ?_
          refine w_getr (j2 := 78) hx hb hts (z_memU u11) hown hK.1 hS f11_5 (by decide) (zkd_of (rfl : zcd wC 0 = 0) rfl) (zrf_of (rfl : zcd wC 0 = 0) rfl) (Or.inl (hts _ (z_mem k247))) dX11_heads_44 ?_
          refine lv_iload_n hx hb dX11_heads_47 rfl (lv_at hl 1 rfl) ?_
          refine lv_iload_n hx hb dX11_heads_48 rfl (lv_at hl 2 rfl) ?_
          refine lv_iload_n hx hb dX11_heads_49 rfl (lv_at hl 3 rfl) ?_
          refine lv_iload hx hb dX11_heads_50 (lv_at hl 4 rfl) ?_
          refine w_callv (va_runV (As := [.int (iI a0), .int (iI a1), .int (iI a2), .int (iI a3)]) (rest := []) ⟨hx, hb, hml, hown, hts⟩ (cC_Echo_place l D dA b M a0 a1 a2 a3 _ h) (cwV 4 hts (z_gV k687 k688 k689 k9 k690) rfl rfl rfl dm_X0_place ⟨Nat.le_of_ble_eq_true rfl, Nat.le_of_ble_eq_true rfl⟩) ⟨wPre_blind, (w_recv hS hK.1 (by decide) (zkd_of (rfl : zcd wC 78 = 30) rfl) (by decide) (rfl : vwCl[0]? = some (RX0, TX0, 8))), w_pre hS hK⟩ rfl rfl hl.1 rfl (lv_room (Nat.le_of_ble_eq_true rfl)) dX11_heads_52 ⟨Nat.le_refl _, Nat.le_refl _⟩) hS0 (fun M21 H locs h hS hS0 => ?_)
          refine z_iconst hx hb dX11_heads_55 ?_
          exact w_zret hx hb hr hlocks hS hS0 (sI_of (by decide)) (by decide) h dX11_heads_56
        · skip
          have h := h.2 c20
          refine z_iconst hx hb dX11_heads_41 ?_
          exact w_zret hx hb hr hlocks hS hS0 (sI_of (by decide)) (by decide) h dX11_heads_42

set_option maxRecDepth 100000 in
def wC_stop (a0 : Int) (M : zM) (Q : Int → zM → Prop) : Prop := wC_within a0 0 2000 M (fun z2 => (z2 ≠ 0 → (∀ M6 : zM, M6 = zup M 78 0 a0 → Q (sI (M 78 0)) M6)) ∧ (z2 = 0 → Q (-1) M))
set_option maxHeartbeats 4000000 in
set_option maxRecDepth 100000 in
theorem cC_stop (l : Launch) (D : va_G) (dA : Nat → ClassId) (b : Nat) (M : zM) (a0 : Int)  (Q : Int → zM → Prop) (h : wC_stop a0 M Q) : Met l yX11_stop (.code yX11_stop cX11_stop 3 (some .int) :: zt) (z_rm 1) (va_Pc [.ref (b + 0), .int (iI a0)] (wPre D dA vwCl (z_tys dA) wC nC b M)) (va_Qi (wQi Q) (zB D dA vwCl wC nC b) (zA nC b)) 0 0 (zA nC b) := by
  unfold wC_stop at h
  refine Met.ofW (cc := cX11_stop) (maxL := 3) (ret := (some .int)) (by decide) rfl ?_
  intro p e s m args below meth c s₁ B hml hv
  obtain ⟨hargs, hS, hK⟩ := hv
  have hx := B.exec
  have hb := B.bytes
  have hr := B.returns
  have hts := atoms_spec (ws := .code yX11_stop cX11_stop 3 (some .int) :: zt) B.pre
  have hown : s.vm.findClass RX11 = some m.cls := findClass_of_methodNamed B.named
  have hlocks := B.notSynchronized
  have hS0 : va_S (zA nC b) s.heap s.heap [] := va_S.rf
  have hl := lv_entry ([.ref (b + 0), .int (iI a0)]) (n := 3) (Nat.le_of_ble_eq_true rfl)
  have hent : entryFrame m args 3 = F0 m 0 ((lg_sl ([.ref (b + 0), .int (iI a0)]) ++ List.replicate (3 - (lg_sl ([.ref (b + 0), .int (iI a0)])).length) Slot.unset).toArray) [] := by rw [hargs]; exact lg_entry_eq m ([.ref (b + 0), .int (iI a0)]) 3
  rw [hent]
  generalize (lg_sl ([.ref (b + 0), .int (iI a0)]) ++ List.replicate (3 - (lg_sl ([.ref (b + 0), .int (iI a0)])).length) Slot.unset).toArray = ls at hl ⊢
  have hl : lv_has ls 3 [(0, .ref (b + 0)), (1, .int (iI a0))] := hl
  refine lv_iload_n hx hb dX11_stop_0 rfl (lv_at hl 1 rfl) ?_
  refine z_iconst hx hb dX11_stop_1 ?_
  refine z_sipush hx hb (by decide) dX11_stop_2 ?_
  refine w_callz (va_runS (As := [.int (iI a0), .int (iI 0), .int (iI 2000)]) (rest := []) ⟨hx, hb, hml, hown, hts⟩ (cC_within l D dA b M a0 0 2000 _ h) (va_cwS 3 hts (z_gS k382 k383 k1 k384) rfl rfl rfl dm_X11_within.2 ⟨Nat.le_of_ble_eq_true rfl, Nat.le_of_ble_eq_true rfl⟩) ⟨wPre_blind, w_pre hS hK⟩ rfl rfl hl.1 rfl (lv_room (Nat.le_of_ble_eq_true rfl)) dX11_stop_5 ⟨Nat.le_refl _, Nat.le_refl _⟩) hS0 (fun z2 M1 H locs r3 h hS hS0 => ?_)
  obtain ⟨e4, h⟩ := h
  rw [e4] at hS
  refine w_if_ne (tgt := 13) hx hb (sI_01 r3) dX11_stop_8 (by decide) (fun c5 => ?_) (fun c5 => ?_)
  · skip
    have h := h.1 c5
    refine lv_aload_n hx hb dX11_stop_13 rfl (lv_at hl 0 rfl) ?_
    refine w_getr (j2 := 78) hx hb hts (z_memU u11) hown hK.1 hS f11_5 (by decide) (zkd_of (rfl : zcd wC 0 = 0) rfl) (zrf_of (rfl : zcd wC 0 = 0) rfl) (Or.inl (hts _ (z_mem k247))) dX11_stop_14 ?_
    refine w_geti hx hb hts (z_memU u0) hown hK.1 hS f0_0 (by decide) (zkd_of (rfl : zcd wC 78 = 30) rfl) (Or.inl (hts _ (z_mem k173))) dX11_stop_17 ?_
    refine lv_istore_n (lv' := [(2, .int (iI (M 78 0))), (0, .ref (b + 0)), (1, .int (iI a0))]) hx hb dX11_stop_20 rfl hl (by decide) rfl (fun ls hl => ?_)
    refine lv_aload_n hx hb dX11_stop_21 rfl (lv_at hl 1 rfl) ?_
    refine w_getr (j2 := 78) hx hb hts (z_memU u11) hown hK.1 hS f11_5 (by decide) (zkd_of (rfl : zcd wC 0 = 0) rfl) (zrf_of (rfl : zcd wC 0 = 0) rfl) (Or.inl (hts _ (z_mem k247))) dX11_stop_22 ?_
    refine lv_iload_n hx hb dX11_stop_25 rfl (lv_at hl 2 rfl) ?_
    refine w_puti hx hb hts (z_memU u0) tyX0 tyX0_ok nmX0 hown hK.1 hS hS0 f0_0 (by decide) (zkd_of (rfl : zcd wC 78 = 30) rfl) (Or.inl (hts _ (z_mem k173))) rfl (z := a0) (by decide +kernel) dX11_stop_26 (fun H locs hS hS0 => ?_)
    obtain ⟨M6, e7⟩ : ∃ M6 : zM, M6 = zup M 78 0 a0 := ⟨_, rfl⟩
    rw [← e7] at hS
    have h := h M6 e7
    refine lv_iload_n hx hb dX11_stop_29 rfl (lv_at hl 0 rfl) ?_
    exact w_iret hx hb hr hlocks hS hS0 rfl h dX11_stop_30
  · skip
    have h := h.2 c5
    refine z_iconst hx hb dX11_stop_11 ?_
    exact w_iret hx hb hr hlocks hS hS0 (sI_of (by decide)) h dX11_stop_12

set_option maxRecDepth 100000 in
def wC_Echo_loudness (a0 : Int) (M : zM) (Q : Int → Prop) : Prop := pL2 (fun K4 x1 x2 => (9 < (sI x2) → Q (sI x1)) ∧ ((sI x2) ≤ 9 → ((0 ≤ (sI x2) ∧ (sI x2) < 10) ∧ (∀ t12 : Int, t12 = (x1 + ((andI (shrI a0 x2) 1) * (M 80 (sI x2).toNat))) → K4 t12 (x2 + 1))))) 0 1
set_option maxHeartbeats 4000000 in
set_option maxRecDepth 100000 in
theorem cC_Echo_loudness (l : Launch) (D : va_G) (dA : Nat → ClassId) (b : Nat) (M : zM) (a0 : Int)  (Q : Int → Prop) (h : wC_Echo_loudness a0 M Q) : Met l yX0_loudness (.code yX0_loudness cX0_loudness 4 (some .int) :: zt) (z_rm 0) (va_Pc [.ref (b + 78), .int (iI a0)] (wPre D dA vwCl (z_tys dA) wC nC b M)) (va_Qi (wQi (fun z9 u9 => u9 = M ∧ Q z9)) (zB D dA vwCl wC nC b) (zA nC b)) 0 0 (zA nC b) := by
  unfold wC_Echo_loudness at h
  refine Met.ofW (cc := cX0_loudness) (maxL := 4) (ret := (some .int)) (by decide) rfl ?_
  intro p e s m args below meth c s₁ B hml hv
  obtain ⟨hargs, hS, hK⟩ := hv
  have hx := B.exec
  have hb := B.bytes
  have hr := B.returns
  have hts := atoms_spec (ws := .code yX0_loudness cX0_loudness 4 (some .int) :: zt) B.pre
  have hown : s.vm.findClass RX0 = some m.cls := findClass_of_methodNamed B.named
  have hlocks := B.notSynchronized
  have hS0 : va_S (zA nC b) s.heap s.heap [] := va_S.rf
  have hl := lv_entry ([.ref (b + 78), .int (iI a0)]) (n := 4) (Nat.le_of_ble_eq_true rfl)
  have hent : entryFrame m args 4 = F0 m 0 ((lg_sl ([.ref (b + 78), .int (iI a0)]) ++ List.replicate (4 - (lg_sl ([.ref (b + 78), .int (iI a0)])).length) Slot.unset).toArray) [] := by rw [hargs]; exact lg_entry_eq m ([.ref (b + 78), .int (iI a0)]) 4
  rw [hent]
  generalize (lg_sl ([.ref (b + 78), .int (iI a0)]) ++ List.replicate (4 - (lg_sl ([.ref (b + 78), .int (iI a0)])).length) Slot.unset).toArray = ls at hl ⊢
  have hl : lv_has ls 4 [(0, .ref (b + 78)), (1, .int (iI a0))] := hl
  refine z_iconst hx hb dX0_loudness_0 ?_
  refine lv_istore_n (lv' := [(2, .int (iI 0)), (0, .ref (b + 78)), (1, .int (iI a0))]) hx hb dX0_loudness_1 rfl hl (by decide) rfl (fun ls hl => ?_)
  refine z_iconst hx hb dX0_loudness_2 ?_
  refine lv_istore_n (lv' := [(3, .int (iI 1)), (2, .int (iI 0)), (0, .ref (b + 78)), (1, .int (iI a0))]) hx hb dX0_loudness_3 rfl hl (by decide) rfl (fun ls hl => ?_)
  obtain ⟨I3, ⟨n4, h5⟩, h6⟩ := h
  have L7 : ∀ (n8 : Nat) (x1 x2 : Int) (H : Heap) (locs : List Loc) (ls : Array Slot), I3 n8 x1 x2 → zR D dA vwCl wC nC b M H → va_S (zA nC b) s.heap H locs → lv_has ls 4 [(0, .ref (b + 78)), (1, .int (iI a0)), (2, .int (iI x1)), (3, .int (iI x2))] → W p l e (headSpec (.code yX0_loudness cX0_loudness 4 (some .int) :: zt) (z_rm 0)).room s m args below meth c H locs 0 0 (MQ below (va_Qi (wQi (fun z9 u9 => u9 = M ∧ Q z9)) (zB D dA vwCl wC nC b) (zA nC b)) args s 0 0 (zA nC b)) (F0 m 4 ls []) := by
    intro n8
    induction n8 using Nat.strongRecOn with
    | ind n8 i9 =>
      intro x1 x2 H locs ls h hS hS0 hl
      have h := h6 n8 x1 x2 h
      refine lv_iload_n hx hb dX0_loudness_4 rfl (lv_at hl 3 rfl) ?_
      refine z_bipush hx hb (by decide) dX0_loudness_5 ?_
      refine w_icmp_gt (tgt := 31) hx hb rfl (sI_of (by decide)) dX0_loudness_7 (by decide) (fun c10 => ?_) (fun c10 => ?_)
      · skip
        have h := h.1 c10
        refine lv_iload_n hx hb dX0_loudness_31 rfl (lv_at hl 2 rfl) ?_
        exact w_iret hx hb hr hlocks hS hS0 rfl ⟨rfl, h⟩ dX0_loudness_32
      · skip
        have h := h.2 c10
        refine lv_iload_n hx hb dX0_loudness_10 rfl (lv_at hl 2 rfl) ?_
        refine lv_iload_n hx hb dX0_loudness_11 rfl (lv_at hl 1 rfl) ?_
        refine lv_iload_n hx hb dX0_loudness_12 rfl (lv_at hl 3 rfl) ?_
        refine w_ishr hx hb dX0_loudness_13 ?_
        refine z_iconst hx hb dX0_loudness_14 ?_
        refine w_iand hx hb dX0_loudness_15 ?_
        refine lv_aload_n hx hb dX0_loudness_16 rfl (lv_at hl 0 rfl) ?_
        refine w_getr (j2 := 80) hx hb hts (z_memU u0) hown hK.1 hS f0_2 (by decide) (zkd_of (rfl : zcd wC 78 = 30) rfl) (zrf_of (rfl : zcd wC 78 = 30) rfl) (Or.inl (hts _ (z_mem k176))) dX0_loudness_17 ?_
        refine lv_iload_n hx hb dX0_loudness_20 rfl (lv_at hl 3 rfl) ?_
        obtain ⟨o11, h⟩ := h
        refine w_iald (n := 10) (i := (sI x2)) hx hb hK.1 (t0 := 0) rfl hS (by decide) (zkd_of (rfl : zcd wC 80 = 32) rfl) (zln_of (rfl : zcd wC 80 = 32) rfl) rfl o11.1 o11.2 (by decide) dX0_loudness_21 ?_
        refine z_imul hx hb dX0_loudness_22 ?_
        refine z_iadd hx hb dX0_loudness_23 ?_
        obtain ⟨t12, e13⟩ : ∃ t12 : Int, t12 = (x1 + ((andI (shrI a0 x2) 1) * (M 80 (sI x2).toNat))) := ⟨_, rfl⟩
        refine z_top (y := t12) e13.symm ?_
        have h := h t12 e13
        refine lv_istore_n (lv' := [(2, .int (iI t12)), (0, .ref (b + 78)), (1, .int (iI a0)), (3, .int (iI x2))]) hx hb dX0_loudness_24 rfl hl (by decide) rfl (fun ls hl => ?_)
        refine z_iinc (lv' := [(3, .int (iI (x2 + 1))), (2, .int (iI t12)), (0, .ref (b + 78)), (1, .int (iI a0))]) hx hb dX0_loudness_25 hl (k := 3) rfl (by decide) rfl (fun ls hl => ?_)
        refine lv_goto (tgt := 4) hx hb dX0_loudness_28 (by decide) ?_
        obtain ⟨n14, h15, h⟩ := h
        exact i9 n14 h15 t12 (x2 + 1) _ _ _ h hS hS0 (lv_sub hl [2, 3, 1, 0] rfl)
  exact L7 n4 0 1 _ _ _ h5 hS hS0 (lv_sub hl [2, 3, 1, 0] rfl)

set_option maxRecDepth 100000 in
def wC_Echo_outAt (a0 : Int) (M : zM) (Q : Int → Prop) : Prop := ((sI a0) < 0 → Q 0) ∧ (0 ≤ (sI a0) → (4001 ≤ (sI a0) → Q 0) ∧ ((sI a0) < 4001 → ((0 ≤ (sI a0) ∧ (sI a0) < 4001) ∧ Q (sI (M 81 (sI a0).toNat)))))
set_option maxHeartbeats 4000000 in
set_option maxRecDepth 100000 in
theorem cC_Echo_outAt (l : Launch) (D : va_G) (dA : Nat → ClassId) (b : Nat) (M : zM) (a0 : Int)  (Q : Int → Prop) (h : wC_Echo_outAt a0 M Q) : Met l yX0_outAt (.code yX0_outAt cX0_outAt 2 (some .int) :: zt) (z_rm 0) (va_Pc [.ref (b + 78), .int (iI a0)] (wPre D dA vwCl (z_tys dA) wC nC b M)) (va_Qi (wQi (fun z9 u9 => u9 = M ∧ Q z9)) (zB D dA vwCl wC nC b) (zA nC b)) 0 0 (zA nC b) := by
  unfold wC_Echo_outAt at h
  refine Met.ofW (cc := cX0_outAt) (maxL := 2) (ret := (some .int)) (by decide) rfl ?_
  intro p e s m args below meth c s₁ B hml hv
  obtain ⟨hargs, hS, hK⟩ := hv
  have hx := B.exec
  have hb := B.bytes
  have hr := B.returns
  have hts := atoms_spec (ws := .code yX0_outAt cX0_outAt 2 (some .int) :: zt) B.pre
  have hown : s.vm.findClass RX0 = some m.cls := findClass_of_methodNamed B.named
  have hlocks := B.notSynchronized
  have hS0 : va_S (zA nC b) s.heap s.heap [] := va_S.rf
  have hl := lv_entry ([.ref (b + 78), .int (iI a0)]) (n := 2) (Nat.le_of_ble_eq_true rfl)
  have hent : entryFrame m args 2 = F0 m 0 ((lg_sl ([.ref (b + 78), .int (iI a0)]) ++ List.replicate (2 - (lg_sl ([.ref (b + 78), .int (iI a0)])).length) Slot.unset).toArray) [] := by rw [hargs]; exact lg_entry_eq m ([.ref (b + 78), .int (iI a0)]) 2
  rw [hent]
  generalize (lg_sl ([.ref (b + 78), .int (iI a0)]) ++ List.replicate (2 - (lg_sl ([.ref (b + 78), .int (iI a0)])).length) Slot.unset).toArray = ls at hl ⊢
  have hl : lv_has ls 2 [(0, .ref (b + 78)), (1, .int (iI a0))] := hl
  refine lv_iload_n hx hb dX0_outAt_0 rfl (lv_at hl 1 rfl) ?_
  refine w_if_lt (tgt := 22) hx hb rfl dX0_outAt_1 (by decide) (fun c1 => ?_) (fun c1 => ?_)
  · skip
    have h := h.1 c1
    refine z_iconst hx hb dX0_outAt_22 ?_
    exact w_iret hx hb hr hlocks hS hS0 (sI_of (by decide)) ⟨rfl, h⟩ dX0_outAt_23
  · skip
    have h := h.2 c1
    refine lv_iload_n hx hb dX0_outAt_4 rfl (lv_at hl 1 rfl) ?_
    refine lv_aload_n hx hb dX0_outAt_5 rfl (lv_at hl 0 rfl) ?_
    refine w_getr (j2 := 81) hx hb hts (z_memU u0) hown hK.1 hS f0_7 (by decide) (zkd_of (rfl : zcd wC 78 = 30) rfl) (zrf_of (rfl : zcd wC 78 = 30) rfl) (Or.inl (hts _ (z_mem k181))) dX0_outAt_6 ?_
    refine w_alen (n := 4001) hx hb hK.1 (t0 := 0) rfl hS (by decide) (zkd_of (rfl : zcd wC 81 = 33) rfl) (zln_of (rfl : zcd wC 81 = 33) rfl) dX0_outAt_9 ?_
    refine z_top (show (((4001 : Nat) : Int)) = 4001 from by decide) ?_
    refine w_icmp_ge (tgt := 22) hx hb rfl (sI_of (by decide)) dX0_outAt_10 (by decide) (fun c2 => ?_) (fun c2 => ?_)
    · skip
      have h := h.1 c2
      refine z_iconst hx hb dX0_outAt_22 ?_
      exact w_iret hx hb hr hlocks hS hS0 (sI_of (by decide)) ⟨rfl, h⟩ dX0_outAt_23
    · skip
      have h := h.2 c2
      refine lv_aload_n hx hb dX0_outAt_13 rfl (lv_at hl 0 rfl) ?_
      refine w_getr (j2 := 81) hx hb hts (z_memU u0) hown hK.1 hS f0_7 (by decide) (zkd_of (rfl : zcd wC 78 = 30) rfl) (zrf_of (rfl : zcd wC 78 = 30) rfl) (Or.inl (hts _ (z_mem k181))) dX0_outAt_14 ?_
      refine lv_iload_n hx hb dX0_outAt_17 rfl (lv_at hl 1 rfl) ?_
      obtain ⟨o3, h⟩ := h
      refine w_iald (n := 4001) (i := (sI a0)) hx hb hK.1 (t0 := 0) rfl hS (by decide) (zkd_of (rfl : zcd wC 81 = 33) rfl) (zln_of (rfl : zcd wC 81 = 33) rfl) rfl o3.1 o3.2 (by decide) dX0_outAt_18 ?_
      refine lv_goto (tgt := 23) hx hb dX0_outAt_19 (by decide) ?_
      exact w_iret hx hb hr hlocks hS hS0 rfl ⟨rfl, h⟩ dX0_outAt_23

set_option maxRecDepth 100000 in
def wC_Echo_behind (a0 : Int) (a1 : Int) (M : zM) (Q : Int → Prop) : Prop := wC_Echo_outAt a0 M (fun z2 => Q (sI ((sI (z2 * a1)).tdiv 100)))
set_option maxHeartbeats 4000000 in
set_option maxRecDepth 100000 in
theorem cC_Echo_behind (l : Launch) (D : va_G) (dA : Nat → ClassId) (b : Nat) (M : zM) (a0 : Int) (a1 : Int)  (Q : Int → Prop) (h : wC_Echo_behind a0 a1 M Q) : Met l yX0_behind (.code yX0_behind cX0_behind 3 (some .int) :: zt) (z_rm 1) (va_Pc [.ref (b + 78), .int (iI a0), .int (iI a1)] (wPre D dA vwCl (z_tys dA) wC nC b M)) (va_Qi (wQi (fun z9 u9 => u9 = M ∧ Q z9)) (zB D dA vwCl wC nC b) (zA nC b)) 0 0 (zA nC b) := by
  unfold wC_Echo_behind at h
  refine Met.ofW (cc := cX0_behind) (maxL := 3) (ret := (some .int)) (by decide) rfl ?_
  intro p e s m args below meth c s₁ B hml hv
  obtain ⟨hargs, hS, hK⟩ := hv
  have hx := B.exec
  have hb := B.bytes
  have hr := B.returns
  have hts := atoms_spec (ws := .code yX0_behind cX0_behind 3 (some .int) :: zt) B.pre
  have hown : s.vm.findClass RX0 = some m.cls := findClass_of_methodNamed B.named
  have hlocks := B.notSynchronized
  have hS0 : va_S (zA nC b) s.heap s.heap [] := va_S.rf
  have hl := lv_entry ([.ref (b + 78), .int (iI a0), .int (iI a1)]) (n := 3) (Nat.le_of_ble_eq_true rfl)
  have hent : entryFrame m args 3 = F0 m 0 ((lg_sl ([.ref (b + 78), .int (iI a0), .int (iI a1)]) ++ List.replicate (3 - (lg_sl ([.ref (b + 78), .int (iI a0), .int (iI a1)])).length) Slot.unset).toArray) [] := by rw [hargs]; exact lg_entry_eq m ([.ref (b + 78), .int (iI a0), .int (iI a1)]) 3
  rw [hent]
  generalize (lg_sl ([.ref (b + 78), .int (iI a0), .int (iI a1)]) ++ List.replicate (3 - (lg_sl ([.ref (b + 78), .int (iI a0), .int (iI a1)])).length) Slot.unset).toArray = ls at hl ⊢
  have hl : lv_has ls 3 [(0, .ref (b + 78)), (1, .int (iI a0)), (2, .int (iI a1))] := hl
  refine lv_aload_n hx hb dX0_behind_0 rfl (lv_at hl 0 rfl) ?_
  refine lv_iload_n hx hb dX0_behind_1 rfl (lv_at hl 1 rfl) ?_
  refine w_calli (va_runV (As := [.int (iI a0)]) (rest := []) ⟨hx, hb, hml, hown, hts⟩ (cC_Echo_outAt l D dA b M a0 _ h) (cwV 1 hts (z_gV k710 k711 k712 k9 k713) rfl rfl rfl dm_X0_outAt ⟨Nat.le_of_ble_eq_true rfl, Nat.le_of_ble_eq_true rfl⟩) ⟨wPre_blind, (w_recv hS hK.1 (by decide) (zkd_of (rfl : zcd wC 78 = 30) rfl) (by decide) (rfl : vwCl[0]? = some (RX0, TX0, 8))), w_pre hS hK⟩ rfl rfl hl.1 rfl (lv_room (Nat.le_of_ble_eq_true rfl)) dX0_behind_2 ⟨Nat.le_refl _, Nat.le_refl _⟩) hS0 (fun z2 M1 H locs r3 h hS hS0 => ?_)
  obtain ⟨e4, h⟩ := h
  rw [e4] at hS
  refine lv_iload_n hx hb dX0_behind_5 rfl (lv_at hl 2 rfl) ?_
  refine z_imul hx hb dX0_behind_6 ?_
  refine z_bipush hx hb (by decide) dX0_behind_7 ?_
  refine w_idiv hx hb rfl (sI_of (by decide)) (by decide) dX0_behind_9 ?_
  exact w_iret hx hb hr hlocks hS hS0 rfl ⟨rfl, h⟩ dX0_behind_10

set_option maxRecDepth 100000 in
def wC_Echo_run (a1 : Int) (M : zM) (Q : zM → Prop) : Prop := wL1 (fun K2 x1 M2 => ((sI a1) < (sI x1) → Q M2) ∧ ((sI x1) ≤ (sI a1) → (4001 ≤ (sI x1) → Q M2) ∧ ((sI x1) < 4001 → pJ1 (fun J38 => ((sI (M2 78 0)) ≤ (sI x1) → J38 0) ∧ ((sI x1) < (sI (M2 78 0)) → wC_Studio_heardInAll (sI x1) M2 (fun z39 => wC_Echo_loudness z39 M2 (fun z43 => J38 z43)))) (fun (x21 : Int) => wC_Echo_behind (x1 - (M2 78 3)) (M2 78 4) M2 (fun z25 => wC_Echo_behind (x1 - (M2 78 5)) (M2 78 6) M2 (fun z29 => ((0 ≤ (sI x1) ∧ (sI x1) < 4001) ∧ (∀ M33 : zM, M33 = zup M2 81 (sI x1).toNat (min (sI ((x21 + z25) + z29)) 5000) → K2 (x1 + 1) M33)))))))) 0 M
set_option maxHeartbeats 4000000 in
set_option maxRecDepth 100000 in
theorem cC_Echo_run (l : Launch) (D : va_G) (dA : Nat → ClassId) (b : Nat) (M : zM) (a1 : Int)  (Q : zM → Prop) (h : wC_Echo_run a1 M Q) : Met l yX0_run (.code yX0_run cX0_run 6 none :: zt) (z_rm 4) (va_Pc [.ref (b + 78), .ref (b + 32), .int (iI a1)] (wPre D dA vwCl (z_tys dA) wC nC b M)) (va_Qv (wQv Q) (zB D dA vwCl wC nC b) (zA nC b)) 0 0 (zA nC b) := by
  unfold wC_Echo_run at h
  refine Met.ofW (cc := cX0_run) (maxL := 6) (ret := none) (by decide) rfl ?_
  intro p e s m args below meth c s₁ B hml hv
  obtain ⟨hargs, hS, hK⟩ := hv
  have hx := B.exec
  have hb := B.bytes
  have hr := B.returns
  have hts := atoms_spec (ws := .code yX0_run cX0_run 6 none :: zt) B.pre
  have hown : s.vm.findClass RX0 = some m.cls := findClass_of_methodNamed B.named
  have hlocks := B.notSynchronized
  have hS0 : va_S (zA nC b) s.heap s.heap [] := va_S.rf
  have hl := lv_entry ([.ref (b + 78), .ref (b + 32), .int (iI a1)]) (n := 6) (Nat.le_of_ble_eq_true rfl)
  have hent : entryFrame m args 6 = F0 m 0 ((lg_sl ([.ref (b + 78), .ref (b + 32), .int (iI a1)]) ++ List.replicate (6 - (lg_sl ([.ref (b + 78), .ref (b + 32), .int (iI a1)])).length) Slot.unset).toArray) [] := by rw [hargs]; exact lg_entry_eq m ([.ref (b + 78), .ref (b + 32), .int (iI a1)]) 6
  rw [hent]
  generalize (lg_sl ([.ref (b + 78), .ref (b + 32), .int (iI a1)]) ++ List.replicate (6 - (lg_sl ([.ref (b + 78), .ref (b + 32), .int (iI a1)])).length) Slot.unset).toArray = ls at hl ⊢
  have hl : lv_has ls 6 [(0, .ref (b + 78)), (1, .ref (b + 32)), (2, .int (iI a1))] := hl
  refine z_iconst hx hb dX0_run_0 ?_
  refine lv_istore_n (lv' := [(3, .int (iI 0)), (0, .ref (b + 78)), (1, .ref (b + 32)), (2, .int (iI a1))]) hx hb dX0_run_1 rfl hl (by decide) rfl (fun ls hl => ?_)
  obtain ⟨I3, ⟨n4, h5⟩, h6⟩ := h
  have L7 : ∀ (n8 : Nat) (x1 : Int) (M2 : zM) (H : Heap) (locs : List Loc) (ls : Array Slot), I3 n8 x1 M2 → zR D dA vwCl wC nC b M2 H → va_S (zA nC b) s.heap H locs → lv_has ls 6 [(0, .ref (b + 78)), (1, .ref (b + 32)), (2, .int (iI a1)), (3, .int (iI x1))] → W p l e (headSpec (.code yX0_run cX0_run 6 none :: zt) (z_rm 4)).room s m args below meth c H locs 0 0 (MQ below (va_Qv (wQv Q) (zB D dA vwCl wC nC b) (zA nC b)) args s 0 0 (zA nC b)) (F0 m 2 ls []) := by
    intro n8
    induction n8 using Nat.strongRecOn with
    | ind n8 i9 =>
      intro x1 M2 H locs ls h hS hS0 hl
      have h := h6 n8 x1 M2 h
      refine lv_iload_n hx hb dX0_run_2 rfl (lv_at hl 3 rfl) ?_
      refine lv_iload_n hx hb dX0_run_3 rfl (lv_at hl 2 rfl) ?_
      refine w_icmp_gt (tgt := 94) hx hb rfl rfl dX0_run_4 (by decide) (fun c10 => ?_) (fun c10 => ?_)
      · skip
        have h := h.1 c10
        exact w_vret hx hb hr hlocks hS hS0 h dX0_run_94
      · skip
        have h := h.2 c10
        refine lv_iload_n hx hb dX0_run_7 rfl (lv_at hl 3 rfl) ?_
        refine lv_aload_n hx hb dX0_run_8 rfl (lv_at hl 0 rfl) ?_
        refine w_getr (j2 := 81) hx hb hts (z_memU u0) hown hK.1 hS f0_7 (by decide) (zkd_of (rfl : zcd wC 78 = 30) rfl) (zrf_of (rfl : zcd wC 78 = 30) rfl) (Or.inl (hts _ (z_mem k181))) dX0_run_9 ?_
        refine w_alen (n := 4001) hx hb hK.1 (t0 := 0) rfl hS (by decide) (zkd_of (rfl : zcd wC 81 = 33) rfl) (zln_of (rfl : zcd wC 81 = 33) rfl) dX0_run_12 ?_
        refine z_top (show (((4001 : Nat) : Int)) = 4001 from by decide) ?_
        refine w_icmp_ge (tgt := 94) hx hb rfl (sI_of (by decide)) dX0_run_13 (by decide) (fun c11 => ?_) (fun c11 => ?_)
        · skip
          have h := h.1 c11
          exact w_vret hx hb hr hlocks hS hS0 h dX0_run_94
        · skip
          have h := h.2 c11
          refine lv_iload_n hx hb dX0_run_16 rfl (lv_at hl 3 rfl) ?_
          refine lv_aload_n hx hb dX0_run_17 rfl (lv_at hl 0 rfl) ?_
          refine w_geti hx hb hts (z_memU u0) hown hK.1 hS f0_0 (by decide) (zkd_of (rfl : zcd wC 78 = 30) rfl) (Or.inl (hts _ (z_mem k172))) dX0_run_18 ?_
          obtain ⟨J38, B23, h⟩ := h
          have L22 : ∀ (x21 : Int) (H : Heap) (locs : List Loc) (ls : Array Slot), J38 x21 → zR D dA vwCl wC nC b M2 H → va_S (zA nC b) s.heap H locs → lv_has ls 6 [(0, .ref (b + 78)), (1, .ref (b + 32)), (2, .int (iI a1)), (3, .int (iI x1))] → W p l e (headSpec (.code yX0_run cX0_run 6 none :: zt) (z_rm 4)).room s m args below meth c H locs 0 0 (MQ below (va_Qv (wQv Q) (zB D dA vwCl wC nC b) (zA nC b)) args s 0 0 (zA nC b)) (F0 m 38 ls [.int (iI x21)]) := by
            intro x21 H locs ls h hS hS0 hl
            have h := B23 x21 h
            refine lv_istore (lv' := [(4, .int (iI x21)), (0, .ref (b + 78)), (1, .ref (b + 32)), (2, .int (iI a1)), (3, .int (iI x1))]) hx hb dX0_run_38 hl (by decide) rfl (fun ls hl => ?_)
            refine lv_iload hx hb dX0_run_40 (lv_at hl 0 rfl) ?_
            refine lv_aload_n hx hb dX0_run_42 rfl (lv_at hl 1 rfl) ?_
            refine lv_iload_n hx hb dX0_run_43 rfl (lv_at hl 4 rfl) ?_
            refine lv_aload_n hx hb dX0_run_44 rfl (lv_at hl 1 rfl) ?_
            refine w_geti hx hb hts (z_memU u0) hown hK.1 hS f0_3 (by decide) (zkd_of (rfl : zcd wC 78 = 30) rfl) (Or.inl (hts _ (z_mem k177))) dX0_run_45 ?_
            refine z_isub hx hb dX0_run_48 ?_
            refine lv_aload_n hx hb dX0_run_49 rfl (lv_at hl 1 rfl) ?_
            refine w_geti hx hb hts (z_memU u0) hown hK.1 hS f0_4 (by decide) (zkd_of (rfl : zcd wC 78 = 30) rfl) (Or.inl (hts _ (z_mem k178))) dX0_run_50 ?_
            refine w_calli (va_runV (As := [.int (iI (x1 - (M2 78 3))), .int (iI (M2 78 4))]) (rest := [.int (iI x21)]) ⟨hx, hb, hml, hown, hts⟩ (cC_Echo_behind l D dA b M2 (x1 - (M2 78 3)) (M2 78 4) _ h) (cwV 2 hts (z_gV k707 k708 k1377 k9 k709) rfl rfl rfl dm_X0_behind ⟨Nat.le_of_ble_eq_true rfl, Nat.le_of_ble_eq_true rfl⟩) ⟨wPre_blind, (w_recv hS hK.1 (by decide) (zkd_of (rfl : zcd wC 78 = 30) rfl) (by decide) (rfl : vwCl[0]? = some (RX0, TX0, 8))), w_pre hS hK⟩ rfl rfl hl.1 rfl (lv_room (Nat.le_of_ble_eq_true rfl)) dX0_run_53 ⟨Nat.le_refl _, Nat.le_refl _⟩) hS0 (fun z25 M24 H locs r26 h hS hS0 => ?_)
            obtain ⟨e27, h⟩ := h
            rw [e27] at hS
            refine z_iadd hx hb dX0_run_56 ?_
            refine lv_aload_n hx hb dX0_run_57 rfl (lv_at hl 1 rfl) ?_
            refine lv_iload_n hx hb dX0_run_58 rfl (lv_at hl 4 rfl) ?_
            refine lv_aload_n hx hb dX0_run_59 rfl (lv_at hl 1 rfl) ?_
            refine w_geti hx hb hts (z_memU u0) hown hK.1 hS f0_5 (by decide) (zkd_of (rfl : zcd wC 78 = 30) rfl) (Or.inl (hts _ (z_mem k179))) dX0_run_60 ?_
            refine z_isub hx hb dX0_run_63 ?_
            refine lv_aload_n hx hb dX0_run_64 rfl (lv_at hl 1 rfl) ?_
            refine w_geti hx hb hts (z_memU u0) hown hK.1 hS f0_6 (by decide) (zkd_of (rfl : zcd wC 78 = 30) rfl) (Or.inl (hts _ (z_mem k180))) dX0_run_65 ?_
            refine w_calli (va_runV (As := [.int (iI (x1 - (M2 78 5))), .int (iI (M2 78 6))]) (rest := [.int (iI (x21 + z25))]) ⟨hx, hb, hml, hown, hts⟩ (cC_Echo_behind l D dA b M2 (x1 - (M2 78 5)) (M2 78 6) _ h) (cwV 2 hts (z_gV k707 k708 k1377 k9 k709) rfl rfl rfl dm_X0_behind ⟨Nat.le_of_ble_eq_true rfl, Nat.le_of_ble_eq_true rfl⟩) ⟨wPre_blind, (w_recv hS hK.1 (by decide) (zkd_of (rfl : zcd wC 78 = 30) rfl) (by decide) (rfl : vwCl[0]? = some (RX0, TX0, 8))), w_pre hS hK⟩ rfl rfl hl.1 rfl (lv_room (Nat.le_of_ble_eq_true rfl)) dX0_run_68 ⟨Nat.le_refl _, Nat.le_refl _⟩) hS0 (fun z29 M28 H locs r30 h hS hS0 => ?_)
            obtain ⟨e31, h⟩ := h
            rw [e31] at hS
            refine z_iadd hx hb dX0_run_71 ?_
            refine lv_istore (lv' := [(5, .int (iI ((x21 + z25) + z29))), (4, .int (iI x21)), (0, .ref (b + 78)), (1, .ref (b + 32)), (2, .int (iI a1)), (3, .int (iI x1))]) hx hb dX0_run_72 hl (by decide) rfl (fun ls hl => ?_)
            refine lv_aload_n hx hb dX0_run_74 rfl (lv_at hl 2 rfl) ?_
            refine w_getr (j2 := 81) hx hb hts (z_memU u0) hown hK.1 hS f0_7 (by decide) (zkd_of (rfl : zcd wC 78 = 30) rfl) (zrf_of (rfl : zcd wC 78 = 30) rfl) (Or.inl (hts _ (z_mem k181))) dX0_run_75 ?_
            refine lv_iload_n hx hb dX0_run_78 rfl (lv_at hl 5 rfl) ?_
            refine lv_iload hx hb dX0_run_79 (lv_at hl 0 rfl) ?_
            refine z_sipush hx hb (by decide) dX0_run_81 ?_
            refine w_mmin hx hb (hml.trans hl.1.symm) hown (hts _ (z_mem k714)) (hts _ (z_mem k320)) (hts _ (z_mem k15)) (hts _ (z_mem k321)) (by exact Nat.le_of_ble_eq_true rfl) (by exact Nat.le_of_ble_eq_true rfl) (by exact Nat.le_refl _) (by exact Nat.le_refl _) rfl (sI_of (by decide)) dX0_run_84 ?_
            obtain ⟨o32, h⟩ := h
            refine w_iast (z := (min (sI ((x21 + z25) + z29)) 5000)) (n := 4001) (i := (sI x1)) hx hb hK.1 (t0 := 0) rfl hS hS0 (by decide) (zkd_of (rfl : zcd wC 81 = 33) rfl) (zln_of (rfl : zcd wC 81 = 33) rfl) rfl o32.1 o32.2 (by decide) dX0_run_87 (fun H locs hS hS0 => ?_)
            obtain ⟨M33, e34⟩ : ∃ M33 : zM, M33 = zup M2 81 (sI x1).toNat (min (sI ((x21 + z25) + z29)) 5000) := ⟨_, rfl⟩
            rw [← e34] at hS
            have h := h M33 e34
            refine z_iinc (lv' := [(3, .int (iI (x1 + 1))), (5, .int (iI ((x21 + z25) + z29))), (4, .int (iI x21)), (0, .ref (b + 78)), (1, .ref (b + 32)), (2, .int (iI a1))]) hx hb dX0_run_88 hl (k := 5) rfl (by decide) rfl (fun ls hl => ?_)
            refine lv_goto (tgt := 2) hx hb dX0_run_91 (by decide) ?_
            obtain ⟨n35, h36, h⟩ := h
            exact i9 n35 h36 (x1 + 1) M33 _ _ _ h hS hS0 (lv_sub hl [3, 4, 5, 0] rfl)
          refine w_icmp_ge (tgt := 37) hx hb rfl rfl dX0_run_21 (by decide) (fun c37 => ?_) (fun c37 => ?_)
          · skip
            have h := h.1 c37
            refine z_iconst hx hb dX0_run_37 ?_
            exact L22 0 _ _ _ h hS hS0 (lv_sub hl [0, 1, 2, 3] rfl)
          · skip
            have h := h.2 c37
            refine lv_aload_n hx hb dX0_run_24 rfl (lv_at hl 0 rfl) ?_
            refine lv_aload_n hx hb dX0_run_25 rfl (lv_at hl 1 rfl) ?_
            refine lv_iload_n hx hb dX0_run_26 rfl (lv_at hl 3 rfl) ?_
            refine w_i2l hx hb rfl dX0_run_27 ?_
            refine w_calli (va_runV (As := [.long (iL (sI x1))]) (rest := [.ref (b + 78)]) ⟨hx, hb, hml, hown, hts⟩ (cC_Studio_heardInAll l D dA b M2 (sI x1) _ h) (cwV 1 hts (z_gV k703 k475 k476 k4 k477) rfl rfl rfl dm_X9_heardInAll ⟨Nat.le_of_ble_eq_true rfl, Nat.le_of_ble_eq_true rfl⟩) ⟨wPre_blind, (w_recv hS hK.1 (by decide) (zkd_of (rfl : zcd wC 32 = 8) rfl) (by decide) (rfl : vwCl[9]? = some (RX9, TX9, 3))), w_pre hS hK⟩ rfl rfl hl.1 rfl (lv_room (Nat.le_of_ble_eq_true rfl)) dX0_run_28 ⟨Nat.le_refl _, Nat.le_refl _⟩) hS0 (fun z39 M38 H locs r40 h hS hS0 => ?_)
            obtain ⟨e41, h⟩ := h
            rw [e41] at hS
            refine w_calli (va_runV (As := [.int (iI z39)]) (rest := []) ⟨hx, hb, hml, hown, hts⟩ (cC_Echo_loudness l D dA b M2 z39 _ h) (cwV 1 hts (z_gV k704 k705 k1376 k9 k706) rfl rfl rfl dm_X0_loudness ⟨Nat.le_of_ble_eq_true rfl, Nat.le_of_ble_eq_true rfl⟩) ⟨wPre_blind, (w_recv hS hK.1 (by decide) (zkd_of (rfl : zcd wC 78 = 30) rfl) (by decide) (rfl : vwCl[0]? = some (RX0, TX0, 8))), w_pre hS hK⟩ rfl rfl hl.1 rfl (lv_room (Nat.le_of_ble_eq_true rfl)) dX0_run_31 ⟨Nat.le_refl _, Nat.le_refl _⟩) hS0 (fun z43 M42 H locs r44 h hS hS0 => ?_)
            obtain ⟨e45, h⟩ := h
            rw [e45] at hS
            refine lv_goto (tgt := 38) hx hb dX0_run_34 (by decide) ?_
            exact L22 z43 _ _ _ h hS hS0 (lv_sub hl [0, 1, 2, 3] rfl)
  exact L7 n4 0 M _ _ _ h5 hS hS0 (lv_sub hl [1, 2, 3, 0] rfl)

set_option maxRecDepth 100000 in
def wC_out (a0 : Int) (M : zM) (Q : Int → zM → Prop) : Prop := wC_within a0 0 4000 M (fun z2 => (z2 ≠ 0 → wC_Echo_run a0 M (fun M6 => wC_Echo_outAt a0 M6 (fun z8 => Q z8 M6))) ∧ (z2 = 0 → Q (-1) M))
set_option maxHeartbeats 4000000 in
set_option maxRecDepth 100000 in
theorem cC_out (l : Launch) (D : va_G) (dA : Nat → ClassId) (b : Nat) (M : zM) (a0 : Int)  (Q : Int → zM → Prop) (h : wC_out a0 M Q) : Met l yX11_out (.code yX11_out cX11_out 2 (some .int) :: zt) (z_rm 5) (va_Pc [.ref (b + 0), .int (iI a0)] (wPre D dA vwCl (z_tys dA) wC nC b M)) (va_Qi (wQi Q) (zB D dA vwCl wC nC b) (zA nC b)) 0 0 (zA nC b) := by
  unfold wC_out at h
  refine Met.ofW (cc := cX11_out) (maxL := 2) (ret := (some .int)) (by decide) rfl ?_
  intro p e s m args below meth c s₁ B hml hv
  obtain ⟨hargs, hS, hK⟩ := hv
  have hx := B.exec
  have hb := B.bytes
  have hr := B.returns
  have hts := atoms_spec (ws := .code yX11_out cX11_out 2 (some .int) :: zt) B.pre
  have hown : s.vm.findClass RX11 = some m.cls := findClass_of_methodNamed B.named
  have hlocks := B.notSynchronized
  have hS0 : va_S (zA nC b) s.heap s.heap [] := va_S.rf
  have hl := lv_entry ([.ref (b + 0), .int (iI a0)]) (n := 2) (Nat.le_of_ble_eq_true rfl)
  have hent : entryFrame m args 2 = F0 m 0 ((lg_sl ([.ref (b + 0), .int (iI a0)]) ++ List.replicate (2 - (lg_sl ([.ref (b + 0), .int (iI a0)])).length) Slot.unset).toArray) [] := by rw [hargs]; exact lg_entry_eq m ([.ref (b + 0), .int (iI a0)]) 2
  rw [hent]
  generalize (lg_sl ([.ref (b + 0), .int (iI a0)]) ++ List.replicate (2 - (lg_sl ([.ref (b + 0), .int (iI a0)])).length) Slot.unset).toArray = ls at hl ⊢
  have hl : lv_has ls 2 [(0, .ref (b + 0)), (1, .int (iI a0))] := hl
  refine lv_iload_n hx hb dX11_out_0 rfl (lv_at hl 1 rfl) ?_
  refine z_iconst hx hb dX11_out_1 ?_
  refine z_sipush hx hb (by decide) dX11_out_2 ?_
  refine w_callz (va_runS (As := [.int (iI a0), .int (iI 0), .int (iI 4000)]) (rest := []) ⟨hx, hb, hml, hown, hts⟩ (cC_within l D dA b M a0 0 4000 _ h) (va_cwS 3 hts (z_gS k382 k383 k1 k384) rfl rfl rfl dm_X11_within.2 ⟨Nat.le_of_ble_eq_true rfl, Nat.le_of_ble_eq_true rfl⟩) ⟨wPre_blind, w_pre hS hK⟩ rfl rfl hl.1 rfl (lv_room (Nat.le_of_ble_eq_true rfl)) dX11_out_5 ⟨Nat.le_refl _, Nat.le_refl _⟩) hS0 (fun z2 M1 H locs r3 h hS hS0 => ?_)
  obtain ⟨e4, h⟩ := h
  rw [e4] at hS
  refine w_if_ne (tgt := 13) hx hb (sI_01 r3) dX11_out_8 (by decide) (fun c5 => ?_) (fun c5 => ?_)
  · skip
    have h := h.1 c5
    refine lv_aload_n hx hb dX11_out_13 rfl (lv_at hl 0 rfl) ?_
    refine w_getr (j2 := 78) hx hb hts (z_memU u11) hown hK.1 hS f11_5 (by decide) (zkd_of (rfl : zcd wC 0 = 0) rfl) (zrf_of (rfl : zcd wC 0 = 0) rfl) (Or.inl (hts _ (z_mem k247))) dX11_out_14 ?_
    refine lv_aload_n hx hb dX11_out_17 rfl (lv_at hl 0 rfl) ?_
    refine w_getr (j2 := 32) hx hb hts (z_memU u11) hown hK.1 hS f11_2 (by decide) (zkd_of (rfl : zcd wC 0 = 0) rfl) (zrf_of (rfl : zcd wC 0 = 0) rfl) (Or.inl (hts _ (z_mem k244))) dX11_out_18 ?_
    refine lv_iload_n hx hb dX11_out_21 rfl (lv_at hl 1 rfl) ?_
    refine w_callv (va_runV (As := [.ref (b + 32), .int (iI a0)]) (rest := []) ⟨hx, hb, hml, hown, hts⟩ (cC_Echo_run l D dA b M a0 _ h) (cwV 2 hts (z_gV k699 k700 k701 k9 k702) rfl rfl rfl dm_X0_run ⟨Nat.le_of_ble_eq_true rfl, Nat.le_of_ble_eq_true rfl⟩) ⟨wPre_blind, (w_recv hS hK.1 (by decide) (zkd_of (rfl : zcd wC 78 = 30) rfl) (by decide) (rfl : vwCl[0]? = some (RX0, TX0, 8))), w_pre hS hK⟩ rfl rfl hl.1 rfl (lv_room (Nat.le_of_ble_eq_true rfl)) dX11_out_22 ⟨Nat.le_refl _, Nat.le_refl _⟩) hS0 (fun M6 H locs h hS hS0 => ?_)
    refine lv_aload_n hx hb dX11_out_25 rfl (lv_at hl 0 rfl) ?_
    refine w_getr (j2 := 78) hx hb hts (z_memU u11) hown hK.1 hS f11_5 (by decide) (zkd_of (rfl : zcd wC 0 = 0) rfl) (zrf_of (rfl : zcd wC 0 = 0) rfl) (Or.inl (hts _ (z_mem k247))) dX11_out_26 ?_
    refine lv_iload_n hx hb dX11_out_29 rfl (lv_at hl 1 rfl) ?_
    refine w_calli (va_runV (As := [.int (iI a0)]) (rest := []) ⟨hx, hb, hml, hown, hts⟩ (cC_Echo_outAt l D dA b M6 a0 _ h) (cwV 1 hts (z_gV k715 k711 k712 k9 k713) rfl rfl rfl dm_X0_outAt ⟨Nat.le_of_ble_eq_true rfl, Nat.le_of_ble_eq_true rfl⟩) ⟨wPre_blind, (w_recv hS hK.1 (by decide) (zkd_of (rfl : zcd wC 78 = 30) rfl) (by decide) (rfl : vwCl[0]? = some (RX0, TX0, 8))), w_pre hS hK⟩ rfl rfl hl.1 rfl (lv_room (Nat.le_of_ble_eq_true rfl)) dX11_out_30 ⟨Nat.le_refl _, Nat.le_refl _⟩) hS0 (fun z8 M7 H locs r9 h hS hS0 => ?_)
    obtain ⟨e10, h⟩ := h
    rw [e10] at hS
    exact w_iret hx hb hr hlocks hS hS0 (sI_of r9) h dX11_out_33
  · skip
    have h := h.2 c5
    refine z_iconst hx hb dX11_out_11 ?_
    exact w_iret hx hb hr hlocks hS hS0 (sI_of (by decide)) h dX11_out_12

set_option maxRecDepth 100000 in
def wC_Echo_firstSilence  (M : zM) (Q : Int → Prop) : Prop := pL2 (fun K7 x1 x2 => (4000 < (sI x2) → Q (-1)) ∧ ((sI x2) ≤ 4000 → wC_Echo_outAt x2 M (fun z12 => pJ1 (fun J29 => (z12 ≠ 0 → J29 0) ∧ (z12 = 0 → J29 (x1 + 1))) (fun (x16 : Int) => ((sI x16) ≠ 20 → K7 x16 (x2 + 1)) ∧ ((sI x16) = 20 → Q (sI ((x2 - 20) + 1))))))) 0 (M 78 0)
set_option maxHeartbeats 4000000 in
set_option maxRecDepth 100000 in
theorem cC_Echo_firstSilence (l : Launch) (D : va_G) (dA : Nat → ClassId) (b : Nat) (M : zM)   (Q : Int → Prop) (h : wC_Echo_firstSilence  M Q) : Met l yX0_firstSilence (.code yX0_firstSilence cX0_firstSilence 3 (some .int) :: zt) (z_rm 1) (va_Pc [.ref (b + 78)] (wPre D dA vwCl (z_tys dA) wC nC b M)) (va_Qi (wQi (fun z9 u9 => u9 = M ∧ Q z9)) (zB D dA vwCl wC nC b) (zA nC b)) 0 0 (zA nC b) := by
  unfold wC_Echo_firstSilence at h
  refine Met.ofW (cc := cX0_firstSilence) (maxL := 3) (ret := (some .int)) (by decide) rfl ?_
  intro p e s m args below meth c s₁ B hml hv
  obtain ⟨hargs, hS, hK⟩ := hv
  have hx := B.exec
  have hb := B.bytes
  have hr := B.returns
  have hts := atoms_spec (ws := .code yX0_firstSilence cX0_firstSilence 3 (some .int) :: zt) B.pre
  have hown : s.vm.findClass RX0 = some m.cls := findClass_of_methodNamed B.named
  have hlocks := B.notSynchronized
  have hS0 : va_S (zA nC b) s.heap s.heap [] := va_S.rf
  have hl := lv_entry ([.ref (b + 78)]) (n := 3) (Nat.le_of_ble_eq_true rfl)
  have hent : entryFrame m args 3 = F0 m 0 ((lg_sl ([.ref (b + 78)]) ++ List.replicate (3 - (lg_sl ([.ref (b + 78)])).length) Slot.unset).toArray) [] := by rw [hargs]; exact lg_entry_eq m ([.ref (b + 78)]) 3
  rw [hent]
  generalize (lg_sl ([.ref (b + 78)]) ++ List.replicate (3 - (lg_sl ([.ref (b + 78)])).length) Slot.unset).toArray = ls at hl ⊢
  have hl : lv_has ls 3 [(0, .ref (b + 78))] := hl
  refine z_iconst hx hb dX0_firstSilence_0 ?_
  refine lv_istore_n (lv' := [(1, .int (iI 0)), (0, .ref (b + 78))]) hx hb dX0_firstSilence_1 rfl hl (by decide) rfl (fun ls hl => ?_)
  refine lv_aload_n hx hb dX0_firstSilence_2 rfl (lv_at hl 1 rfl) ?_
  refine w_geti hx hb hts (z_memU u0) hown hK.1 hS f0_0 (by decide) (zkd_of (rfl : zcd wC 78 = 30) rfl) (Or.inl (hts _ (z_mem k172))) dX0_firstSilence_3 ?_
  refine lv_istore_n (lv' := [(2, .int (iI (M 78 0))), (1, .int (iI 0)), (0, .ref (b + 78))]) hx hb dX0_firstSilence_6 rfl hl (by decide) rfl (fun ls hl => ?_)
  obtain ⟨I3, ⟨n4, h5⟩, h6⟩ := h
  have L7 : ∀ (n8 : Nat) (x1 x2 : Int) (H : Heap) (locs : List Loc) (ls : Array Slot), I3 n8 x1 x2 → zR D dA vwCl wC nC b M H → va_S (zA nC b) s.heap H locs → lv_has ls 3 [(0, .ref (b + 78)), (1, .int (iI x1)), (2, .int (iI x2))] → W p l e (headSpec (.code yX0_firstSilence cX0_firstSilence 3 (some .int) :: zt) (z_rm 1)).room s m args below meth c H locs 0 0 (MQ below (va_Qi (wQi (fun z9 u9 => u9 = M ∧ Q z9)) (zB D dA vwCl wC nC b) (zA nC b)) args s 0 0 (zA nC b)) (F0 m 7 ls []) := by
    intro n8
    induction n8 using Nat.strongRecOn with
    | ind n8 i9 =>
      intro x1 x2 H locs ls h hS hS0 hl
      have h := h6 n8 x1 x2 h
      refine lv_iload_n hx hb dX0_firstSilence_7 rfl (lv_at hl 2 rfl) ?_
      refine z_sipush hx hb (by decide) dX0_firstSilence_8 ?_
      refine w_icmp_gt (tgt := 49) hx hb rfl (sI_of (by decide)) dX0_firstSilence_11 (by decide) (fun c10 => ?_) (fun c10 => ?_)
      · skip
        have h := h.1 c10
        refine z_iconst hx hb dX0_firstSilence_49 ?_
        exact w_iret hx hb hr hlocks hS hS0 (sI_of (by decide)) ⟨rfl, h⟩ dX0_firstSilence_50
      · skip
        have h := h.2 c10
        refine lv_aload_n hx hb dX0_firstSilence_14 rfl (lv_at hl 0 rfl) ?_
        refine lv_iload_n hx hb dX0_firstSilence_15 rfl (lv_at hl 2 rfl) ?_
        refine w_calli (va_runV (As := [.int (iI x2)]) (rest := []) ⟨hx, hb, hml, hown, hts⟩ (cC_Echo_outAt l D dA b M x2 _ h) (cwV 1 hts (z_gV k710 k711 k712 k9 k713) rfl rfl rfl dm_X0_outAt ⟨Nat.le_of_ble_eq_true rfl, Nat.le_of_ble_eq_true rfl⟩) ⟨wPre_blind, (w_recv hS hK.1 (by decide) (zkd_of (rfl : zcd wC 78 = 30) rfl) (by decide) (rfl : vwCl[0]? = some (RX0, TX0, 8))), w_pre hS hK⟩ rfl rfl hl.1 rfl (lv_room (Nat.le_of_ble_eq_true rfl)) dX0_firstSilence_16 ⟨Nat.le_refl _, Nat.le_refl _⟩) hS0 (fun z12 M11 H locs r13 h hS hS0 => ?_)
        obtain ⟨e14, h⟩ := h
        rw [e14] at hS
        obtain ⟨J29, B18, h⟩ := h
        have L17 : ∀ (x16 : Int) (H : Heap) (locs : List Loc) (ls : Array Slot), J29 x16 → zR D dA vwCl wC nC b M H → va_S (zA nC b) s.heap H locs → lv_has ls 3 [(0, .ref (b + 78)), (2, .int (iI x2))] → W p l e (headSpec (.code yX0_firstSilence cX0_firstSilence 3 (some .int) :: zt) (z_rm 1)).room s m args below meth c H locs 0 0 (MQ below (va_Qi (wQi (fun z9 u9 => u9 = M ∧ Q z9)) (zB D dA vwCl wC nC b) (zA nC b)) args s 0 0 (zA nC b)) (F0 m 29 ls [.int (iI x16)]) := by
          intro x16 H locs ls h hS hS0 hl
          have h := B18 x16 h
          refine lv_istore_n (lv' := [(1, .int (iI x16)), (0, .ref (b + 78)), (2, .int (iI x2))]) hx hb dX0_firstSilence_29 rfl hl (by decide) rfl (fun ls hl => ?_)
          refine lv_iload_n hx hb dX0_firstSilence_30 rfl (lv_at hl 0 rfl) ?_
          refine z_bipush hx hb (by decide) dX0_firstSilence_31 ?_
          refine w_icmp_ne (tgt := 43) hx hb rfl (sI_of (by decide)) dX0_firstSilence_33 (by decide) (fun c19 => ?_) (fun c19 => ?_)
          · skip
            have h := h.1 c19
            refine z_iinc (lv' := [(2, .int (iI (x2 + 1))), (1, .int (iI x16)), (0, .ref (b + 78))]) hx hb dX0_firstSilence_43 hl (k := 2) rfl (by decide) rfl (fun ls hl => ?_)
            refine lv_goto (tgt := 7) hx hb dX0_firstSilence_46 (by decide) ?_
            obtain ⟨n20, h21, h⟩ := h
            exact i9 n20 h21 x16 (x2 + 1) _ _ _ h hS hS0 (lv_sub hl [2, 1, 0] rfl)
          · skip
            have h := h.2 c19
            refine lv_iload_n hx hb dX0_firstSilence_36 rfl (lv_at hl 2 rfl) ?_
            refine z_bipush hx hb (by decide) dX0_firstSilence_37 ?_
            refine z_isub hx hb dX0_firstSilence_39 ?_
            refine z_iconst hx hb dX0_firstSilence_40 ?_
            refine z_iadd hx hb dX0_firstSilence_41 ?_
            exact w_iret hx hb hr hlocks hS hS0 rfl ⟨rfl, h⟩ dX0_firstSilence_42
        refine w_if_ne (tgt := 28) hx hb (sI_of r13) dX0_firstSilence_19 (by decide) (fun c22 => ?_) (fun c22 => ?_)
        · skip
          have h := h.1 c22
          refine z_iconst hx hb dX0_firstSilence_28 ?_
          exact L17 0 _ _ _ h hS hS0 (lv_sub hl [0, 2] rfl)
        · skip
          have h := h.2 c22
          refine lv_iload_n hx hb dX0_firstSilence_22 rfl (lv_at hl 1 rfl) ?_
          refine z_iconst hx hb dX0_firstSilence_23 ?_
          refine z_iadd hx hb dX0_firstSilence_24 ?_
          refine lv_goto (tgt := 29) hx hb dX0_firstSilence_25 (by decide) ?_
          exact L17 (x1 + 1) _ _ _ h hS hS0 (lv_sub hl [0, 2] rfl)
  exact L7 n4 0 (M 78 0) _ _ _ h5 hS hS0 (lv_sub hl [2, 1, 0] rfl)

set_option maxRecDepth 100000 in
def wC_Echo_alike (a0 : Int) (a1 : Int) (M : zM) (Q : Int → Prop) : Prop := pL1 (fun K2 x1 => (20 ≤ (sI x1) → Q 1) ∧ ((sI x1) < 20 → wC_Echo_outAt (a0 + x1) M (fun z11 => wC_Echo_outAt (a1 + x1) M (fun z15 => (z11 = z15 → K2 (x1 + 1)) ∧ (z11 ≠ z15 → Q 0))))) 0
set_option maxHeartbeats 4000000 in
set_option maxRecDepth 100000 in
theorem cC_Echo_alike (l : Launch) (D : va_G) (dA : Nat → ClassId) (b : Nat) (M : zM) (a0 : Int) (a1 : Int)  (Q : Int → Prop) (h : wC_Echo_alike a0 a1 M Q) : Met l yX0_alike (.code yX0_alike cX0_alike 4 (some .boolean) :: zt) (z_rm 1) (va_Pc [.ref (b + 78), .int (iI a0), .int (iI a1)] (wPre D dA vwCl (z_tys dA) wC nC b M)) (va_Qi (wQz (fun z9 u9 => u9 = M ∧ Q z9)) (zB D dA vwCl wC nC b) (zA nC b)) 0 0 (zA nC b) := by
  unfold wC_Echo_alike at h
  refine Met.ofW (cc := cX0_alike) (maxL := 4) (ret := (some .boolean)) (by decide) rfl ?_
  intro p e s m args below meth c s₁ B hml hv
  obtain ⟨hargs, hS, hK⟩ := hv
  have hx := B.exec
  have hb := B.bytes
  have hr := B.returns
  have hts := atoms_spec (ws := .code yX0_alike cX0_alike 4 (some .boolean) :: zt) B.pre
  have hown : s.vm.findClass RX0 = some m.cls := findClass_of_methodNamed B.named
  have hlocks := B.notSynchronized
  have hS0 : va_S (zA nC b) s.heap s.heap [] := va_S.rf
  have hl := lv_entry ([.ref (b + 78), .int (iI a0), .int (iI a1)]) (n := 4) (Nat.le_of_ble_eq_true rfl)
  have hent : entryFrame m args 4 = F0 m 0 ((lg_sl ([.ref (b + 78), .int (iI a0), .int (iI a1)]) ++ List.replicate (4 - (lg_sl ([.ref (b + 78), .int (iI a0), .int (iI a1)])).length) Slot.unset).toArray) [] := by rw [hargs]; exact lg_entry_eq m ([.ref (b + 78), .int (iI a0), .int (iI a1)]) 4
  rw [hent]
  generalize (lg_sl ([.ref (b + 78), .int (iI a0), .int (iI a1)]) ++ List.replicate (4 - (lg_sl ([.ref (b + 78), .int (iI a0), .int (iI a1)])).length) Slot.unset).toArray = ls at hl ⊢
  have hl : lv_has ls 4 [(0, .ref (b + 78)), (1, .int (iI a0)), (2, .int (iI a1))] := hl
  refine z_iconst hx hb dX0_alike_0 ?_
  refine lv_istore_n (lv' := [(3, .int (iI 0)), (0, .ref (b + 78)), (1, .int (iI a0)), (2, .int (iI a1))]) hx hb dX0_alike_1 rfl hl (by decide) rfl (fun ls hl => ?_)
  obtain ⟨I2, ⟨n3, h4⟩, h5⟩ := h
  have L6 : ∀ (n7 : Nat) (x1 : Int) (H : Heap) (locs : List Loc) (ls : Array Slot), I2 n7 x1 → zR D dA vwCl wC nC b M H → va_S (zA nC b) s.heap H locs → lv_has ls 4 [(0, .ref (b + 78)), (1, .int (iI a0)), (2, .int (iI a1)), (3, .int (iI x1))] → W p l e (headSpec (.code yX0_alike cX0_alike 4 (some .boolean) :: zt) (z_rm 1)).room s m args below meth c H locs 0 0 (MQ below (va_Qi (wQz (fun z9 u9 => u9 = M ∧ Q z9)) (zB D dA vwCl wC nC b) (zA nC b)) args s 0 0 (zA nC b)) (F0 m 2 ls []) := by
    intro n7
    induction n7 using Nat.strongRecOn with
    | ind n7 i8 =>
      intro x1 H locs ls h hS hS0 hl
      have h := h5 n7 x1 h
      refine lv_iload_n hx hb dX0_alike_2 rfl (lv_at hl 3 rfl) ?_
      refine z_bipush hx hb (by decide) dX0_alike_3 ?_
      refine w_icmp_ge (tgt := 33) hx hb rfl (sI_of (by decide)) dX0_alike_5 (by decide) (fun c9 => ?_) (fun c9 => ?_)
      · skip
        have h := h.1 c9
        refine z_iconst hx hb dX0_alike_33 ?_
        exact w_zret hx hb hr hlocks hS hS0 (sI_of (by decide)) (by decide) ⟨rfl, h⟩ dX0_alike_34
      · skip
        have h := h.2 c9
        refine lv_aload_n hx hb dX0_alike_8 rfl (lv_at hl 0 rfl) ?_
        refine lv_iload_n hx hb dX0_alike_9 rfl (lv_at hl 1 rfl) ?_
        refine lv_iload_n hx hb dX0_alike_10 rfl (lv_at hl 3 rfl) ?_
        refine z_iadd hx hb dX0_alike_11 ?_
        refine w_calli (va_runV (As := [.int (iI (a0 + x1))]) (rest := []) ⟨hx, hb, hml, hown, hts⟩ (cC_Echo_outAt l D dA b M (a0 + x1) _ h) (cwV 1 hts (z_gV k710 k711 k712 k9 k713) rfl rfl rfl dm_X0_outAt ⟨Nat.le_of_ble_eq_true rfl, Nat.le_of_ble_eq_true rfl⟩) ⟨wPre_blind, (w_recv hS hK.1 (by decide) (zkd_of (rfl : zcd wC 78 = 30) rfl) (by decide) (rfl : vwCl[0]? = some (RX0, TX0, 8))), w_pre hS hK⟩ rfl rfl hl.1 rfl (lv_room (Nat.le_of_ble_eq_true rfl)) dX0_alike_12 ⟨Nat.le_refl _, Nat.le_refl _⟩) hS0 (fun z11 M10 H locs r12 h hS hS0 => ?_)
        obtain ⟨e13, h⟩ := h
        rw [e13] at hS
        refine lv_aload_n hx hb dX0_alike_15 rfl (lv_at hl 0 rfl) ?_
        refine lv_iload_n hx hb dX0_alike_16 rfl (lv_at hl 2 rfl) ?_
        refine lv_iload_n hx hb dX0_alike_17 rfl (lv_at hl 3 rfl) ?_
        refine z_iadd hx hb dX0_alike_18 ?_
        refine w_calli (va_runV (As := [.int (iI (a1 + x1))]) (rest := [.int (iI z11)]) ⟨hx, hb, hml, hown, hts⟩ (cC_Echo_outAt l D dA b M (a1 + x1) _ h) (cwV 1 hts (z_gV k710 k711 k712 k9 k713) rfl rfl rfl dm_X0_outAt ⟨Nat.le_of_ble_eq_true rfl, Nat.le_of_ble_eq_true rfl⟩) ⟨wPre_blind, (w_recv hS hK.1 (by decide) (zkd_of (rfl : zcd wC 78 = 30) rfl) (by decide) (rfl : vwCl[0]? = some (RX0, TX0, 8))), w_pre hS hK⟩ rfl rfl hl.1 rfl (lv_room (Nat.le_of_ble_eq_true rfl)) dX0_alike_19 ⟨Nat.le_refl _, Nat.le_refl _⟩) hS0 (fun z15 M14 H locs r16 h hS hS0 => ?_)
        obtain ⟨e17, h⟩ := h
        rw [e17] at hS
        refine w_icmp_eq (tgt := 27) hx hb (sI_of r12) (sI_of r16) dX0_alike_22 (by decide) (fun c18 => ?_) (fun c18 => ?_)
        · skip
          have h := h.1 c18
          refine z_iinc (lv' := [(3, .int (iI (x1 + 1))), (0, .ref (b + 78)), (1, .int (iI a0)), (2, .int (iI a1))]) hx hb dX0_alike_27 hl (k := 3) rfl (by decide) rfl (fun ls hl => ?_)
          refine lv_goto (tgt := 2) hx hb dX0_alike_30 (by decide) ?_
          obtain ⟨n19, h20, h⟩ := h
          exact i8 n19 h20 (x1 + 1) _ _ _ h hS hS0 (lv_sub hl [1, 2, 3, 0] rfl)
        · skip
          have h := h.2 c18
          refine z_iconst hx hb dX0_alike_25 ?_
          exact w_zret hx hb hr hlocks hS hS0 (sI_of (by decide)) (by decide) ⟨rfl, h⟩ dX0_alike_26
  exact L6 n3 0 _ _ _ h4 hS hS0 (lv_sub hl [1, 2, 3, 0] rfl)
