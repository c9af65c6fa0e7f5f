theorem dX11_all_0 : decode cX11_all 0 = .ok (.aload_n 0, 1) := by decide +kernel
theorem dX11_all_1 : decode cX11_all 1 = .ok (.getfield 33, 3) := by decide +kernel
theorem dX11_all_11 : decode cX11_all 11 = .ok (.aload_n 0, 1) := by decide +kernel
theorem dX11_all_12 : decode cX11_all 12 = .ok (.getfield 33, 3) := by decide +kernel
theorem dX11_all_15 : decode cX11_all 15 = .ok (.invokevirtual 186, 3) := by decide +kernel
theorem dX11_all_18 : decode cX11_all 18 = .ok (.lreturn, 1) := by decide +kernel
theorem dX11_all_4 : decode cX11_all 4 = .ok (.aload_n 0, 1) := by decide +kernel
theorem dX11_all_5 : decode cX11_all 5 = .ok (.getfield 26, 3) := by decide +kernel
theorem dX11_all_8 : decode cX11_all 8 = .ok (.invokevirtual 182, 3) := by decide +kernel
theorem dX11_burn_0 : decode cX11_burn 0 = .ok (.aload_n 0, 1) := by decide +kernel
theorem dX11_burn_1 : decode cX11_burn 1 = .ok (.getfield 61, 3) := by decide +kernel
theorem dX11_burn_12 : decode cX11_burn 12 = .ok (.iconst 0, 1) := by decide +kernel
theorem dX11_burn_13 : decode cX11_burn 13 = .ok (.putfield 153, 3) := by decide +kernel
theorem dX11_burn_16 : decode cX11_burn 16 = .ok (.iload_n 1, 1) := by decide +kernel
theorem dX11_burn_17 : decode cX11_burn 17 = .ok (.ireturn, 1) := by decide +kernel
theorem dX11_burn_4 : decode cX11_burn 4 = .ok (.getfield 153, 3) := by decide +kernel
theorem dX11_burn_7 : decode cX11_burn 7 = .ok (.istore_n 1, 1) := by decide +kernel
theorem dX11_burn_8 : decode cX11_burn 8 = .ok (.aload_n 0, 1) := by decide +kernel
theorem dX11_burn_9 : decode cX11_burn 9 = .ok (.getfield 61, 3) := by decide +kernel
theorem dX11_clear_0 : decode cX11_clear 0 = .ok (.aload_n 0, 1) := by decide +kernel
theorem dX11_clear_1 : decode cX11_clear 1 = .ok (.getfield 40, 3) := by decide +kernel
theorem dX11_clear_12 : decode cX11_clear 12 = .ok (.invokevirtual 147, 3) := by decide +kernel
theorem dX11_clear_15 : decode cX11_clear 15 = .ok (.ireturn, 1) := by decide +kernel
theorem dX11_clear_4 : decode cX11_clear 4 = .ok (.iconst 0, 1) := by decide +kernel
theorem dX11_clear_5 : decode cX11_clear 5 = .ok (.putfield 144, 3) := by decide +kernel
theorem dX11_clear_8 : decode cX11_clear 8 = .ok (.aload_n 0, 1) := by decide +kernel
theorem dX11_clear_9 : decode cX11_clear 9 = .ok (.getfield 26, 3) := by decide +kernel
theorem dX11_count_0 : decode cX11_count 0 = .ok (.iload_n 1, 1) := by decide +kernel
theorem dX11_count_1 : decode cX11_count 1 = .ok (.tableswitch 108 0 7 #[47, 55, 63, 71, 79, 87, 92, 100], 47) := by decide +kernel
theorem dX11_count_100 : decode cX11_count 100 = .ok (.ireturn, 1) := by decide +kernel
theorem dX11_count_101 : decode cX11_count 101 = .ok (.aload_n 0, 1) := by decide +kernel
theorem dX11_count_102 : decode cX11_count 102 = .ok (.getfield 19, 3) := by decide +kernel
theorem dX11_count_105 : decode cX11_count 105 = .ok (.getfield 117, 3) := by decide +kernel
theorem dX11_count_108 : decode cX11_count 108 = .ok (.ireturn, 1) := by decide +kernel
theorem dX11_count_109 : decode cX11_count 109 = .ok (.iconst (-1), 1) := by decide +kernel
theorem dX11_count_110 : decode cX11_count 110 = .ok (.ireturn, 1) := by decide +kernel
theorem dX11_count_48 : decode cX11_count 48 = .ok (.aload_n 0, 1) := by decide +kernel
theorem dX11_count_49 : decode cX11_count 49 = .ok (.getfield 26, 3) := by decide +kernel
theorem dX11_count_52 : decode cX11_count 52 = .ok (.getfield 151, 3) := by decide +kernel
theorem dX11_count_55 : decode cX11_count 55 = .ok (.ireturn, 1) := by decide +kernel
theorem dX11_count_56 : decode cX11_count 56 = .ok (.aload_n 0, 1) := by decide +kernel
theorem dX11_count_57 : decode cX11_count 57 = .ok (.getfield 40, 3) := by decide +kernel
theorem dX11_count_60 : decode cX11_count 60 = .ok (.getfield 144, 3) := by decide +kernel
theorem dX11_count_63 : decode cX11_count 63 = .ok (.ireturn, 1) := by decide +kernel
theorem dX11_count_64 : decode cX11_count 64 = .ok (.aload_n 0, 1) := by decide +kernel
theorem dX11_count_65 : decode cX11_count 65 = .ok (.getfield 54, 3) := by decide +kernel
theorem dX11_count_68 : decode cX11_count 68 = .ok (.getfield 152, 3) := by decide +kernel
theorem dX11_count_71 : decode cX11_count 71 = .ok (.ireturn, 1) := by decide +kernel
theorem dX11_count_72 : decode cX11_count 72 = .ok (.aload_n 0, 1) := by decide +kernel
theorem dX11_count_73 : decode cX11_count 73 = .ok (.getfield 61, 3) := by decide +kernel
theorem dX11_count_76 : decode cX11_count 76 = .ok (.getfield 153, 3) := by decide +kernel
theorem dX11_count_79 : decode cX11_count 79 = .ok (.ireturn, 1) := by decide +kernel
theorem dX11_count_80 : decode cX11_count 80 = .ok (.aload_n 0, 1) := by decide +kernel
theorem dX11_count_81 : decode cX11_count 81 = .ok (.getfield 68, 3) := by decide +kernel
theorem dX11_count_84 : decode cX11_count 84 = .ok (.getfield 154, 3) := by decide +kernel
theorem dX11_count_87 : decode cX11_count 87 = .ok (.ireturn, 1) := by decide +kernel
theorem dX11_count_88 : decode cX11_count 88 = .ok (.aload_n 0, 1) := by decide +kernel
theorem dX11_count_89 : decode cX11_count 89 = .ok (.getfield 76, 3) := by decide +kernel
theorem dX11_count_92 : decode cX11_count 92 = .ok (.ireturn, 1) := by decide +kernel
theorem dX11_count_93 : decode cX11_count 93 = .ok (.aload_n 0, 1) := by decide +kernel
theorem dX11_count_94 : decode cX11_count 94 = .ok (.getfield 12, 3) := by decide +kernel
theorem dX11_count_97 : decode cX11_count 97 = .ok (.getfield 155, 3) := by decide +kernel
theorem dX11_cut_0 : decode cX11_cut 0 = .ok (.aload_n 0, 1) := by decide +kernel
theorem dX11_cut_1 : decode cX11_cut 1 = .ok (.getfield 26, 3) := by decide +kernel
theorem dX11_cut_10 : decode cX11_cut 10 = .ok (.ifnull 14, 3) := by decide +kernel
theorem dX11_cut_24 : decode cX11_cut 24 = .ok (.iconst (-1), 1) := by decide +kernel
theorem dX11_cut_25 : decode cX11_cut 25 = .ok (.ireturn, 1) := by decide +kernel
theorem dX11_cut_4 : decode cX11_cut 4 = .ok (.iload_n 1, 1) := by decide +kernel
theorem dX11_cut_5 : decode cX11_cut 5 = .ok (.invokevirtual 104, 3) := by decide +kernel
theorem dX11_cut_8 : decode cX11_cut 8 = .ok (.astore_n 3, 1) := by decide +kernel
theorem dX11_cut_9 : decode cX11_cut 9 = .ok (.aload_n 3, 1) := by decide +kernel
theorem dX11_dies_0 : decode cX11_dies 0 = .ok (.aload_n 0, 1) := by decide +kernel
theorem dX11_dies_1 : decode cX11_dies 1 = .ok (.getfield 47, 3) := by decide +kernel
theorem dX11_dies_11 : decode cX11_dies 11 = .ok (.istore_n 1, 1) := by decide +kernel
theorem dX11_dies_12 : decode cX11_dies 12 = .ok (.iload_n 1, 1) := by decide +kernel
theorem dX11_dies_13 : decode cX11_dies 13 = .ok (.bipush (-2), 2) := by decide +kernel
theorem dX11_dies_15 : decode cX11_dies 15 = .ok (.if_icmp .ne 15, 3) := by decide +kernel
theorem dX11_dies_30 : decode cX11_dies 30 = .ok (.iload_n 1, 1) := by decide +kernel
theorem dX11_dies_31 : decode cX11_dies 31 = .ok (.ireturn, 1) := by decide +kernel
theorem dX11_dies_4 : decode cX11_dies 4 = .ok (.aload_n 0, 1) := by decide +kernel
theorem dX11_dies_5 : decode cX11_dies 5 = .ok (.getfield 26, 3) := by decide +kernel
theorem dX11_dies_8 : decode cX11_dies 8 = .ok (.invokevirtual 247, 3) := by decide +kernel
theorem dX11_edits_0 : decode cX11_edits 0 = .ok (.aload_n 0, 1) := by decide +kernel
theorem dX11_edits_1 : decode cX11_edits 1 = .ok (.getfield 68, 3) := by decide +kernel
theorem dX11_edits_10 : decode cX11_edits 10 = .ok (.getfield 68, 3) := by decide +kernel
theorem dX11_edits_13 : decode cX11_edits 13 = .ok (.iload_n 2, 1) := by decide +kernel
theorem dX11_edits_14 : decode cX11_edits 14 = .ok (.invokevirtual 277, 3) := by decide +kernel
theorem dX11_edits_17 : decode cX11_edits 17 = .ok (.astore 4, 2) := by decide +kernel
theorem dX11_edits_19 : decode cX11_edits 19 = .ok (.aload_n 3, 1) := by decide +kernel
theorem dX11_edits_20 : decode cX11_edits 20 = .ok (.ifnull 8, 3) := by decide +kernel
theorem dX11_edits_28 : decode cX11_edits 28 = .ok (.iconst (-1), 1) := by decide +kernel
theorem dX11_edits_29 : decode cX11_edits 29 = .ok (.goto 13, 3) := by decide +kernel
theorem dX11_edits_4 : decode cX11_edits 4 = .ok (.iload_n 1, 1) := by decide +kernel
theorem dX11_edits_42 : decode cX11_edits 42 = .ok (.ireturn, 1) := by decide +kernel
theorem dX11_edits_5 : decode cX11_edits 5 = .ok (.invokevirtual 277, 3) := by decide +kernel
theorem dX11_edits_8 : decode cX11_edits 8 = .ok (.astore_n 3, 1) := by decide +kernel
theorem dX11_edits_9 : decode cX11_edits 9 = .ok (.aload_n 0, 1) := by decide +kernel
theorem dX11_end_0 : decode cX11_end 0 = .ok (.aload_n 0, 1) := by decide +kernel
theorem dX11_end_1 : decode cX11_end 1 = .ok (.getfield 12, 3) := by decide +kernel
theorem dX11_end_4 : decode cX11_end 4 = .ok (.iload_n 1, 1) := by decide +kernel
theorem dX11_end_5 : decode cX11_end 5 = .ok (.invokevirtual 84, 3) := by decide +kernel
theorem dX11_end_8 : decode cX11_end 8 = .ok (.ireturn, 1) := by decide +kernel
theorem dX11_fetch_0 : decode cX11_fetch 0 = .ok (.aload_n 0, 1) := by decide +kernel
theorem dX11_fetch_1 : decode cX11_fetch 1 = .ok (.getfield 68, 3) := by decide +kernel
theorem dX11_fetch_10 : decode cX11_fetch 10 = .ok (.ifnonnull 5, 3) := by decide +kernel
theorem dX11_fetch_13 : decode cX11_fetch 13 = .ok (.iconst (-1), 1) := by decide +kernel
theorem dX11_fetch_14 : decode cX11_fetch 14 = .ok (.ireturn, 1) := by decide +kernel
theorem dX11_fetch_4 : decode cX11_fetch 4 = .ok (.iload_n 1, 1) := by decide +kernel
theorem dX11_fetch_5 : decode cX11_fetch 5 = .ok (.invokevirtual 277, 3) := by decide +kernel
theorem dX11_fetch_8 : decode cX11_fetch 8 = .ok (.astore_n 2, 1) := by decide +kernel
theorem dX11_fetch_9 : decode cX11_fetch 9 = .ok (.aload_n 2, 1) := by decide +kernel
theorem dX11_gap_0 : decode cX11_gap 0 = .ok (.aload_n 0, 1) := by decide +kernel
theorem dX11_gap_1 : decode cX11_gap 1 = .ok (.getfield 54, 3) := by decide +kernel
theorem dX11_gap_4 : decode cX11_gap 4 = .ok (.iload_n 1, 1) := by decide +kernel
theorem dX11_gap_5 : decode cX11_gap 5 = .ok (.invokevirtual 254, 3) := by decide +kernel
theorem dX11_gap_8 : decode cX11_gap 8 = .ok (.ireturn, 1) := by decide +kernel
theorem dX11_hand_0 : decode cX11_hand 0 = .ok (.aload_n 0, 1) := by decide +kernel
theorem dX11_hand_1 : decode cX11_hand 1 = .ok (.getfield 19, 3) := by decide +kernel
theorem dX11_hand_4 : decode cX11_hand 4 = .ok (.iload_n 1, 1) := by decide +kernel
theorem dX11_hand_5 : decode cX11_hand 5 = .ok (.invokevirtual 92, 3) := by decide +kernel
theorem dX11_hand_8 : decode cX11_hand 8 = .ok (.ireturn, 1) := by decide +kernel
theorem dX11_head_0 : decode cX11_head 0 = .ok (.aload_n 0, 1) := by decide +kernel
theorem dX11_head_1 : decode cX11_head 1 = .ok (.getfield 26, 3) := by decide +kernel
theorem dX11_head_10 : decode cX11_head 10 = .ok (.aload 4, 2) := by decide +kernel
theorem dX11_head_12 : decode cX11_head 12 = .ok (.ifnull 13, 3) := by decide +kernel
theorem dX11_head_25 : decode cX11_head 25 = .ok (.iconst (-1), 1) := by decide +kernel
theorem dX11_head_26 : decode cX11_head 26 = .ok (.ireturn, 1) := by decide +kernel
theorem dX11_head_4 : decode cX11_head 4 = .ok (.iload_n 1, 1) := by decide +kernel
theorem dX11_head_5 : decode cX11_head 5 = .ok (.invokevirtual 104, 3) := by decide +kernel
theorem dX11_head_8 : decode cX11_head 8 = .ok (.astore 4, 2) := by decide +kernel
theorem dX11_heads_0 : decode cX11_heads 0 = .ok (.iload_n 1, 1) := by decide +kernel
theorem dX11_heads_1 : decode cX11_heads 1 = .ok (.iconst 1, 1) := by decide +kernel
theorem dX11_heads_10 : decode cX11_heads 10 = .ok (.iload_n 2, 1) := by decide +kernel
theorem dX11_heads_11 : decode cX11_heads 11 = .ok (.iconst 0, 1) := by decide +kernel
theorem dX11_heads_12 : decode cX11_heads 12 = .ok (.bipush 100, 2) := by decide +kernel
theorem dX11_heads_14 : decode cX11_heads 14 = .ok (.invokestatic 113, 3) := by decide +kernel
theorem dX11_heads_17 : decode cX11_heads 17 = .ok (.ifCond .eq 24, 3) := by decide +kernel
theorem dX11_heads_2 : decode cX11_heads 2 = .ok (.bipush 20, 2) := by decide +kernel
theorem dX11_heads_20 : decode cX11_heads 20 = .ok (.iload_n 3, 1) := by decide +kernel
theorem dX11_heads_21 : decode cX11_heads 21 = .ok (.iconst 1, 1) := by decide +kernel
theorem dX11_heads_22 : decode cX11_heads 22 = .ok (.bipush 20, 2) := by decide +kernel
theorem dX11_heads_24 : decode cX11_heads 24 = .ok (.invokestatic 113, 3) := by decide +kernel
theorem dX11_heads_27 : decode cX11_heads 27 = .ok (.ifCond .eq 14, 3) := by decide +kernel
theorem dX11_heads_30 : decode cX11_heads 30 = .ok (.iload 4, 2) := by decide +kernel
theorem dX11_heads_32 : decode cX11_heads 32 = .ok (.iconst 0, 1) := by decide +kernel
theorem dX11_heads_33 : decode cX11_heads 33 = .ok (.bipush 100, 2) := by decide +kernel
theorem dX11_heads_35 : decode cX11_heads 35 = .ok (.invokestatic 113, 3) := by decide +kernel
theorem dX11_heads_38 : decode cX11_heads 38 = .ok (.ifCond .ne 5, 3) := by decide +kernel
theorem dX11_heads_4 : decode cX11_heads 4 = .ok (.invokestatic 113, 3) := by decide +kernel
theorem dX11_heads_41 : decode cX11_heads 41 = .ok (.iconst 0, 1) := by decide +kernel
theorem dX11_heads_42 : decode cX11_heads 42 = .ok (.ireturn, 1) := by decide +kernel
theorem dX11_heads_43 : decode cX11_heads 43 = .ok (.aload_n 0, 1) := by decide +kernel
theorem dX11_heads_44 : decode cX11_heads 44 = .ok (.getfield 47, 3) := by decide +kernel
theorem dX11_heads_47 : decode cX11_heads 47 = .ok (.iload_n 1, 1) := by decide +kernel
theorem dX11_heads_48 : decode cX11_heads 48 = .ok (.iload_n 2, 1) := by decide +kernel
theorem dX11_heads_49 : decode cX11_heads 49 = .ok (.iload_n 3, 1) := by decide +kernel
theorem dX11_heads_50 : decode cX11_heads 50 = .ok (.iload 4, 2) := by decide +kernel
theorem dX11_heads_52 : decode cX11_heads 52 = .ok (.invokevirtual 233, 3) := by decide +kernel
theorem dX11_heads_55 : decode cX11_heads 55 = .ok (.iconst 1, 1) := by decide +kernel
theorem dX11_heads_56 : decode cX11_heads 56 = .ok (.ireturn, 1) := by decide +kernel
theorem dX11_heads_7 : decode cX11_heads 7 = .ok (.ifCond .eq 34, 3) := by decide +kernel
theorem dX11_heard_0 : decode cX11_heard 0 = .ok (.lload_n 2, 1) := by decide +kernel
theorem dX11_heard_1 : decode cX11_heard 1 = .ok (.lconst 0, 1) := by decide +kernel
theorem dX11_heard_10 : decode cX11_heard 10 = .ok (.if_icmp .ne 12, 3) := by decide +kernel
theorem dX11_heard_13 : decode cX11_heard 13 = .ok (.aload_n 0, 1) := by decide +kernel
theorem dX11_heard_14 : decode cX11_heard 14 = .ok (.getfield 26, 3) := by decide +kernel
theorem dX11_heard_17 : decode cX11_heard 17 = .ok (.lload_n 2, 1) := by decide +kernel
theorem dX11_heard_18 : decode cX11_heard 18 = .ok (.invokevirtual 174, 3) := by decide +kernel
theorem dX11_heard_2 : decode cX11_heard 2 = .ok (.lcmp, 1) := by decide +kernel
theorem dX11_heard_21 : decode cX11_heard 21 = .ok (.ireturn, 1) := by decide +kernel
theorem dX11_heard_22 : decode cX11_heard 22 = .ok (.aload_n 0, 1) := by decide +kernel
theorem dX11_heard_23 : decode cX11_heard 23 = .ok (.getfield 26, 3) := by decide +kernel
theorem dX11_heard_26 : decode cX11_heard 26 = .ok (.iload_n 1, 1) := by decide +kernel
theorem dX11_heard_27 : decode cX11_heard 27 = .ok (.invokevirtual 104, 3) := by decide +kernel
theorem dX11_heard_3 : decode cX11_heard 3 = .ok (.ifCond .ge 5, 3) := by decide +kernel
theorem dX11_heard_30 : decode cX11_heard 30 = .ok (.astore 4, 2) := by decide +kernel
theorem dX11_heard_32 : decode cX11_heard 32 = .ok (.aload 4, 2) := by decide +kernel
theorem dX11_heard_34 : decode cX11_heard 34 = .ok (.ifnonnull 7, 3) := by decide +kernel
theorem dX11_heard_37 : decode cX11_heard 37 = .ok (.iconst (-1), 1) := by decide +kernel
theorem dX11_heard_38 : decode cX11_heard 38 = .ok (.goto 13, 3) := by decide +kernel
theorem dX11_heard_51 : decode cX11_heard 51 = .ok (.ireturn, 1) := by decide +kernel
theorem dX11_heard_6 : decode cX11_heard 6 = .ok (.iconst (-1), 1) := by decide +kernel
theorem dX11_heard_7 : decode cX11_heard 7 = .ok (.ireturn, 1) := by decide +kernel
theorem dX11_heard_8 : decode cX11_heard 8 = .ok (.iload_n 1, 1) := by decide +kernel
theorem dX11_heard_9 : decode cX11_heard 9 = .ok (.iconst (-1), 1) := by decide +kernel
theorem dX11_inch_0 : decode cX11_inch 0 = .ok (.aload_n 0, 1) := by decide +kernel
theorem dX11_inch_1 : decode cX11_inch 1 = .ok (.getfield 26, 3) := by decide +kernel
theorem dX11_inch_10 : decode cX11_inch 10 = .ok (.ifnonnull 7, 3) := by decide +kernel
theorem dX11_inch_13 : decode cX11_inch 13 = .ok (.iconst (-1), 1) := by decide +kernel
theorem dX11_inch_14 : decode cX11_inch 14 = .ok (.goto 11, 3) := by decide +kernel
theorem dX11_inch_25 : decode cX11_inch 25 = .ok (.ireturn, 1) := by decide +kernel
theorem dX11_inch_4 : decode cX11_inch 4 = .ok (.iload_n 1, 1) := by decide +kernel
theorem dX11_inch_5 : decode cX11_inch 5 = .ok (.invokevirtual 104, 3) := by decide +kernel
theorem dX11_inch_8 : decode cX11_inch 8 = .ok (.astore_n 3, 1) := by decide +kernel
theorem dX11_inch_9 : decode cX11_inch 9 = .ok (.aload_n 3, 1) := by decide +kernel
theorem dX11_join_0 : decode cX11_join 0 = .ok (.aload_n 0, 1) := by decide +kernel
theorem dX11_join_1 : decode cX11_join 1 = .ok (.getfield 61, 3) := by decide +kernel
theorem dX11_join_10 : decode cX11_join 10 = .ok (.getfield 61, 3) := by decide +kernel
theorem dX11_join_13 : decode cX11_join 13 = .ok (.getfield 270, 3) := by decide +kernel
theorem dX11_join_16 : decode cX11_join 16 = .ok (.iload_n 1, 1) := by decide +kernel
theorem dX11_join_17 : decode cX11_join 17 = .ok (.invokevirtual 220, 3) := by decide +kernel
theorem dX11_join_20 : decode cX11_join 20 = .ok (.iload_n 1, 1) := by decide +kernel
theorem dX11_join_21 : decode cX11_join 21 = .ok (.ireturn, 1) := by decide +kernel
theorem dX11_join_4 : decode cX11_join 4 = .ok (.invokevirtual 267, 3) := by decide +kernel
theorem dX11_join_7 : decode cX11_join 7 = .ok (.istore_n 1, 1) := by decide +kernel
theorem dX11_join_8 : decode cX11_join 8 = .ok (.aload_n 0, 1) := by decide +kernel
theorem dX11_join_9 : decode cX11_join 9 = .ok (.aload_n 0, 1) := by decide +kernel
theorem dX11_keep_0 : decode cX11_keep 0 = .ok (.aload_n 0, 1) := by decide +kernel
theorem dX11_keep_1 : decode cX11_keep 1 = .ok (.getfield 26, 3) := by decide +kernel
theorem dX11_keep_10 : decode cX11_keep 10 = .ok (.ifnull 14, 3) := by decide +kernel
theorem dX11_keep_24 : decode cX11_keep 24 = .ok (.iconst (-1), 1) := by decide +kernel
theorem dX11_keep_25 : decode cX11_keep 25 = .ok (.ireturn, 1) := by decide +kernel
theorem dX11_keep_4 : decode cX11_keep 4 = .ok (.iload_n 1, 1) := by decide +kernel
theorem dX11_keep_5 : decode cX11_keep 5 = .ok (.invokevirtual 104, 3) := by decide +kernel
theorem dX11_keep_8 : decode cX11_keep 8 = .ok (.astore_n 3, 1) := by decide +kernel
theorem dX11_keep_9 : decode cX11_keep 9 = .ok (.aload_n 3, 1) := by decide +kernel
theorem dX11_kept_0 : decode cX11_kept 0 = .ok (.aload_n 0, 1) := by decide +kernel
theorem dX11_kept_1 : decode cX11_kept 1 = .ok (.getfield 40, 3) := by decide +kernel
theorem dX11_kept_11 : decode cX11_kept 11 = .ok (.ireturn, 1) := by decide +kernel
theorem dX11_kept_4 : decode cX11_kept 4 = .ok (.aload_n 0, 1) := by decide +kernel
theorem dX11_kept_5 : decode cX11_kept 5 = .ok (.getfield 26, 3) := by decide +kernel
theorem dX11_kept_8 : decode cX11_kept 8 = .ok (.invokevirtual 211, 3) := by decide +kernel
theorem dX11_known_0 : decode cX11_known 0 = .ok (.aload_n 0, 1) := by decide +kernel
theorem dX11_known_1 : decode cX11_known 1 = .ok (.getfield 68, 3) := by decide +kernel
theorem dX11_known_4 : decode cX11_known 4 = .ok (.iload_n 1, 1) := by decide +kernel
theorem dX11_known_5 : decode cX11_known 5 = .ok (.iload_n 2, 1) := by decide +kernel
theorem dX11_known_6 : decode cX11_known 6 = .ok (.invokevirtual 274, 3) := by decide +kernel
theorem dX11_known_9 : decode cX11_known 9 = .ok (.ireturn, 1) := by decide +kernel
theorem dX11_make_0 : decode cX11_make 0 = .ok (.aload_n 0, 1) := by decide +kernel
theorem dX11_make_1 : decode cX11_make 1 = .ok (.getfield 40, 3) := by decide +kernel
theorem dX11_make_11 : decode cX11_make 11 = .ok (.istore_n 1, 1) := by decide +kernel
theorem dX11_make_12 : decode cX11_make 12 = .ok (.iload_n 1, 1) := by decide +kernel
theorem dX11_make_13 : decode cX11_make 13 = .ok (.iconst (-1), 1) := by decide +kernel
theorem dX11_make_14 : decode cX11_make 14 = .ok (.if_icmp .eq 14, 3) := by decide +kernel
theorem dX11_make_17 : decode cX11_make 17 = .ok (.aload_n 0, 1) := by decide +kernel
theorem dX11_make_18 : decode cX11_make 18 = .ok (.getfield 40, 3) := by decide +kernel
theorem dX11_make_21 : decode cX11_make 21 = .ok (.aload_n 0, 1) := by decide +kernel
theorem dX11_make_22 : decode cX11_make 22 = .ok (.getfield 26, 3) := by decide +kernel
theorem dX11_make_25 : decode cX11_make 25 = .ok (.invokevirtual 223, 3) := by decide +kernel
theorem dX11_make_28 : decode cX11_make 28 = .ok (.iload_n 1, 1) := by decide +kernel
theorem dX11_make_29 : decode cX11_make 29 = .ok (.ireturn, 1) := by decide +kernel
theorem dX11_make_4 : decode cX11_make 4 = .ok (.aload_n 0, 1) := by decide +kernel
theorem dX11_make_5 : decode cX11_make 5 = .ok (.getfield 26, 3) := by decide +kernel
theorem dX11_make_8 : decode cX11_make 8 = .ok (.invokevirtual 215, 3) := by decide +kernel
theorem dX11_mark_0 : decode cX11_mark 0 = .ok (.iload_n 1, 1) := by decide +kernel
theorem dX11_mark_1 : decode cX11_mark 1 = .ok (.iconst 0, 1) := by decide +kernel
theorem dX11_mark_10 : decode cX11_mark 10 = .ok (.iload_n 2, 1) := by decide +kernel
theorem dX11_mark_11 : decode cX11_mark 11 = .ok (.invokestatic 205, 3) := by decide +kernel
theorem dX11_mark_14 : decode cX11_mark 14 = .ok (.ifCond .ne 5, 3) := by decide +kernel
theorem dX11_mark_17 : decode cX11_mark 17 = .ok (.iconst (-1), 1) := by decide +kernel
theorem dX11_mark_18 : decode cX11_mark 18 = .ok (.ireturn, 1) := by decide +kernel
theorem dX11_mark_19 : decode cX11_mark 19 = .ok (.aload_n 0, 1) := by decide +kernel
theorem dX11_mark_2 : decode cX11_mark 2 = .ok (.ldc 204, 2) := by decide +kernel
theorem dX11_mark_20 : decode cX11_mark 20 = .ok (.getfield 40, 3) := by decide +kernel
theorem dX11_mark_23 : decode cX11_mark 23 = .ok (.iload_n 1, 1) := by decide +kernel
theorem dX11_mark_24 : decode cX11_mark 24 = .ok (.iload_n 2, 1) := by decide +kernel
theorem dX11_mark_25 : decode cX11_mark 25 = .ok (.invokevirtual 208, 3) := by decide +kernel
theorem dX11_mark_28 : decode cX11_mark 28 = .ok (.ireturn, 1) := by decide +kernel
theorem dX11_mark_4 : decode cX11_mark 4 = .ok (.invokestatic 113, 3) := by decide +kernel
theorem dX11_mark_7 : decode cX11_mark 7 = .ok (.ifCond .eq 10, 3) := by decide +kernel
theorem dX11_meets_0 : decode cX11_meets 0 = .ok (.lload_n 1, 1) := by decide +kernel
theorem dX11_meets_1 : decode cX11_meets 1 = .ok (.lconst 0, 1) := by decide +kernel
theorem dX11_meets_10 : decode cX11_meets 10 = .ok (.lcmp, 1) := by decide +kernel
theorem dX11_meets_11 : decode cX11_meets 11 = .ok (.ifCond .le 7, 3) := by decide +kernel
theorem dX11_meets_14 : decode cX11_meets 14 = .ok (.ldc2_w 195, 3) := by decide +kernel
theorem dX11_meets_17 : decode cX11_meets 17 = .ok (.lreturn, 1) := by decide +kernel
theorem dX11_meets_18 : decode cX11_meets 18 = .ok (.aload_n 0, 1) := by decide +kernel
theorem dX11_meets_19 : decode cX11_meets 19 = .ok (.getfield 33, 3) := by decide +kernel
theorem dX11_meets_2 : decode cX11_meets 2 = .ok (.lcmp, 1) := by decide +kernel
theorem dX11_meets_22 : decode cX11_meets 22 = .ok (.aload_n 0, 1) := by decide +kernel
theorem dX11_meets_23 : decode cX11_meets 23 = .ok (.getfield 26, 3) := by decide +kernel
theorem dX11_meets_26 : decode cX11_meets 26 = .ok (.invokevirtual 182, 3) := by decide +kernel
theorem dX11_meets_29 : decode cX11_meets 29 = .ok (.aload_n 0, 1) := by decide +kernel
theorem dX11_meets_3 : decode cX11_meets 3 = .ok (.ifCond .lt 11, 3) := by decide +kernel
theorem dX11_meets_30 : decode cX11_meets 30 = .ok (.getfield 33, 3) := by decide +kernel
theorem dX11_meets_33 : decode cX11_meets 33 = .ok (.aload_n 0, 1) := by decide +kernel
theorem dX11_meets_34 : decode cX11_meets 34 = .ok (.getfield 26, 3) := by decide +kernel
theorem dX11_meets_37 : decode cX11_meets 37 = .ok (.lload_n 1, 1) := by decide +kernel
theorem dX11_meets_38 : decode cX11_meets 38 = .ok (.invokevirtual 197, 3) := by decide +kernel
theorem dX11_meets_41 : decode cX11_meets 41 = .ok (.lreturn, 1) := by decide +kernel
theorem dX11_meets_6 : decode cX11_meets 6 = .ok (.lload_n 1, 1) := by decide +kernel
theorem dX11_meets_7 : decode cX11_meets 7 = .ok (.ldc2_w 193, 3) := by decide +kernel
theorem dX11_mended_0 : decode cX11_mended 0 = .ok (.aload_n 0, 1) := by decide +kernel
theorem dX11_mended_1 : decode cX11_mended 1 = .ok (.getfield 54, 3) := by decide +kernel
theorem dX11_mended_4 : decode cX11_mended 4 = .ok (.iload_n 1, 1) := by decide +kernel
theorem dX11_mended_5 : decode cX11_mended 5 = .ok (.invokevirtual 263, 3) := by decide +kernel
theorem dX11_mended_8 : decode cX11_mended 8 = .ok (.ireturn, 1) := by decide +kernel
theorem dX11_motor_0 : decode cX11_motor 0 = .ok (.iload_n 1, 1) := by decide +kernel
theorem dX11_motor_1 : decode cX11_motor 1 = .ok (.invokestatic 95, 3) := by decide +kernel
theorem dX11_motor_12 : decode cX11_motor 12 = .ok (.invokestatic 113, 3) := by decide +kernel
theorem dX11_motor_15 : decode cX11_motor 15 = .ok (.ifCond .eq 14, 3) := by decide +kernel
theorem dX11_motor_18 : decode cX11_motor 18 = .ok (.iload_n 3, 1) := by decide +kernel
theorem dX11_motor_19 : decode cX11_motor 19 = .ok (.bipush (-9), 2) := by decide +kernel
theorem dX11_motor_21 : decode cX11_motor 21 = .ok (.bipush 9, 2) := by decide +kernel
theorem dX11_motor_23 : decode cX11_motor 23 = .ok (.invokestatic 113, 3) := by decide +kernel
theorem dX11_motor_26 : decode cX11_motor 26 = .ok (.ifCond .ne 5, 3) := by decide +kernel
theorem dX11_motor_29 : decode cX11_motor 29 = .ok (.iconst 0, 1) := by decide +kernel
theorem dX11_motor_30 : decode cX11_motor 30 = .ok (.ireturn, 1) := by decide +kernel
theorem dX11_motor_31 : decode cX11_motor 31 = .ok (.aload_n 0, 1) := by decide +kernel
theorem dX11_motor_32 : decode cX11_motor 32 = .ok (.getfield 26, 3) := by decide +kernel
theorem dX11_motor_35 : decode cX11_motor 35 = .ok (.iload_n 1, 1) := by decide +kernel
theorem dX11_motor_36 : decode cX11_motor 36 = .ok (.invokevirtual 134, 3) := by decide +kernel
theorem dX11_motor_39 : decode cX11_motor 39 = .ok (.iload_n 2, 1) := by decide +kernel
theorem dX11_motor_4 : decode cX11_motor 4 = .ok (.ifCond .eq 25, 3) := by decide +kernel
theorem dX11_motor_40 : decode cX11_motor 40 = .ok (.iload_n 3, 1) := by decide +kernel
theorem dX11_motor_41 : decode cX11_motor 41 = .ok (.invokevirtual 138, 3) := by decide +kernel
theorem dX11_motor_44 : decode cX11_motor 44 = .ok (.ireturn, 1) := by decide +kernel
theorem dX11_motor_7 : decode cX11_motor 7 = .ok (.iload_n 2, 1) := by decide +kernel
theorem dX11_motor_8 : decode cX11_motor 8 = .ok (.iconst 0, 1) := by decide +kernel
theorem dX11_motor_9 : decode cX11_motor 9 = .ok (.sipush 5000, 3) := by decide +kernel
theorem dX11_often_0 : decode cX11_often 0 = .ok (.aload_n 0, 1) := by decide +kernel
theorem dX11_often_1 : decode cX11_often 1 = .ok (.getfield 33, 3) := by decide +kernel
theorem dX11_often_11 : decode cX11_often 11 = .ok (.aload_n 0, 1) := by decide +kernel
theorem dX11_often_12 : decode cX11_often 12 = .ok (.getfield 33, 3) := by decide +kernel
theorem dX11_often_15 : decode cX11_often 15 = .ok (.invokevirtual 201, 3) := by decide +kernel
theorem dX11_often_18 : decode cX11_often 18 = .ok (.lreturn, 1) := by decide +kernel
theorem dX11_often_4 : decode cX11_often 4 = .ok (.aload_n 0, 1) := by decide +kernel
theorem dX11_often_5 : decode cX11_often 5 = .ok (.getfield 26, 3) := by decide +kernel
theorem dX11_often_8 : decode cX11_often 8 = .ok (.invokevirtual 182, 3) := by decide +kernel
theorem dX11_out_0 : decode cX11_out 0 = .ok (.iload_n 1, 1) := by decide +kernel
theorem dX11_out_1 : decode cX11_out 1 = .ok (.iconst 0, 1) := by decide +kernel
theorem dX11_out_11 : decode cX11_out 11 = .ok (.iconst (-1), 1) := by decide +kernel
theorem dX11_out_12 : decode cX11_out 12 = .ok (.ireturn, 1) := by decide +kernel
theorem dX11_out_13 : decode cX11_out 13 = .ok (.aload_n 0, 1) := by decide +kernel
theorem dX11_out_14 : decode cX11_out 14 = .ok (.getfield 47, 3) := by decide +kernel
theorem dX11_out_17 : decode cX11_out 17 = .ok (.aload_n 0, 1) := by decide +kernel
theorem dX11_out_18 : decode cX11_out 18 = .ok (.getfield 26, 3) := by decide +kernel
theorem dX11_out_2 : decode cX11_out 2 = .ok (.sipush 4000, 3) := by decide +kernel
theorem dX11_out_21 : decode cX11_out 21 = .ok (.iload_n 1, 1) := by decide +kernel
theorem dX11_out_22 : decode cX11_out 22 = .ok (.invokevirtual 240, 3) := by decide +kernel
theorem dX11_out_25 : decode cX11_out 25 = .ok (.aload_n 0, 1) := by decide +kernel
theorem dX11_out_26 : decode cX11_out 26 = .ok (.getfield 47, 3) := by decide +kernel
theorem dX11_out_29 : decode cX11_out 29 = .ok (.iload_n 1, 1) := by decide +kernel
theorem dX11_out_30 : decode cX11_out 30 = .ok (.invokevirtual 244, 3) := by decide +kernel
theorem dX11_out_33 : decode cX11_out 33 = .ok (.ireturn, 1) := by decide +kernel
theorem dX11_out_5 : decode cX11_out 5 = .ok (.invokestatic 113, 3) := by decide +kernel
theorem dX11_out_8 : decode cX11_out 8 = .ok (.ifCond .ne 5, 3) := by decide +kernel
theorem dX11_over_0 : decode cX11_over 0 = .ok (.aload_n 0, 1) := by decide +kernel
theorem dX11_over_1 : decode cX11_over 1 = .ok (.getfield 26, 3) := by decide +kernel
theorem dX11_over_10 : decode cX11_over 10 = .ok (.aload 4, 2) := by decide +kernel
theorem dX11_over_12 : decode cX11_over 12 = .ok (.ifnull 34, 3) := by decide +kernel
theorem dX11_over_4 : decode cX11_over 4 = .ok (.iload_n 1, 1) := by decide +kernel
theorem dX11_over_46 : decode cX11_over 46 = .ok (.iconst (-1), 1) := by decide +kernel
theorem dX11_over_47 : decode cX11_over 47 = .ok (.ireturn, 1) := by decide +kernel
theorem dX11_over_5 : decode cX11_over 5 = .ok (.invokevirtual 104, 3) := by decide +kernel
theorem dX11_over_8 : decode cX11_over 8 = .ok (.astore 4, 2) := by decide +kernel
theorem dX11_pair_0 : decode cX11_pair 0 = .ok (.aload_n 0, 1) := by decide +kernel
theorem dX11_pair_1 : decode cX11_pair 1 = .ok (.getfield 54, 3) := by decide +kernel
theorem dX11_pair_4 : decode cX11_pair 4 = .ok (.iload_n 1, 1) := by decide +kernel
theorem dX11_pair_5 : decode cX11_pair 5 = .ok (.invokevirtual 260, 3) := by decide +kernel
theorem dX11_pair_8 : decode cX11_pair 8 = .ok (.ireturn, 1) := by decide +kernel
theorem dX11_piece_0 : decode cX11_piece 0 = .ok (.iload_n 2, 1) := by decide +kernel
theorem dX11_piece_1 : decode cX11_piece 1 = .ok (.iconst 1, 1) := by decide +kernel
theorem dX11_piece_10 : decode cX11_piece 10 = .ok (.aload_n 0, 1) := by decide +kernel
theorem dX11_piece_11 : decode cX11_piece 11 = .ok (.getfield 61, 3) := by decide +kernel
theorem dX11_piece_14 : decode cX11_piece 14 = .ok (.iload_n 1, 1) := by decide +kernel
theorem dX11_piece_15 : decode cX11_piece 15 = .ok (.iload_n 2, 1) := by decide +kernel
theorem dX11_piece_16 : decode cX11_piece 16 = .ok (.invokevirtual 266, 3) := by decide +kernel
theorem dX11_piece_19 : decode cX11_piece 19 = .ok (.goto 4, 3) := by decide +kernel
theorem dX11_piece_2 : decode cX11_piece 2 = .ok (.bipush 8, 2) := by decide +kernel
theorem dX11_piece_22 : decode cX11_piece 22 = .ok (.iconst (-1), 1) := by decide +kernel
theorem dX11_piece_23 : decode cX11_piece 23 = .ok (.ireturn, 1) := by decide +kernel
theorem dX11_piece_4 : decode cX11_piece 4 = .ok (.invokestatic 113, 3) := by decide +kernel
theorem dX11_piece_7 : decode cX11_piece 7 = .ok (.ifCond .eq 15, 3) := by decide +kernel
theorem dX11_plan_0 : decode cX11_plan 0 = .ok (.aload_n 0, 1) := by decide +kernel
theorem dX11_plan_1 : decode cX11_plan 1 = .ok (.getfield 40, 3) := by decide +kernel
theorem dX11_plan_11 : decode cX11_plan 11 = .ok (.istore_n 1, 1) := by decide +kernel
theorem dX11_plan_12 : decode cX11_plan 12 = .ok (.iload_n 1, 1) := by decide +kernel
theorem dX11_plan_13 : decode cX11_plan 13 = .ok (.iconst (-1), 1) := by decide +kernel
theorem dX11_plan_14 : decode cX11_plan 14 = .ok (.if_icmp .eq 23, 3) := by decide +kernel
theorem dX11_plan_17 : decode cX11_plan 17 = .ok (.aload_n 0, 1) := by decide +kernel
theorem dX11_plan_18 : decode cX11_plan 18 = .ok (.aload_n 0, 1) := by decide +kernel
theorem dX11_plan_19 : decode cX11_plan 19 = .ok (.getfield 40, 3) := by decide +kernel
theorem dX11_plan_22 : decode cX11_plan 22 = .ok (.getfield 217, 3) := by decide +kernel
theorem dX11_plan_25 : decode cX11_plan 25 = .ok (.iconst 2, 1) := by decide +kernel
theorem dX11_plan_26 : decode cX11_plan 26 = .ok (.aload_n 0, 1) := by decide +kernel
theorem dX11_plan_27 : decode cX11_plan 27 = .ok (.getfield 26, 3) := by decide +kernel
theorem dX11_plan_30 : decode cX11_plan 30 = .ok (.getfield 151, 3) := by decide +kernel
theorem dX11_plan_33 : decode cX11_plan 33 = .ok (.imul, 1) := by decide +kernel
theorem dX11_plan_34 : decode cX11_plan 34 = .ok (.invokevirtual 220, 3) := by decide +kernel
theorem dX11_plan_37 : decode cX11_plan 37 = .ok (.iload_n 1, 1) := by decide +kernel
theorem dX11_plan_38 : decode cX11_plan 38 = .ok (.ireturn, 1) := by decide +kernel
theorem dX11_plan_4 : decode cX11_plan 4 = .ok (.aload_n 0, 1) := by decide +kernel
theorem dX11_plan_5 : decode cX11_plan 5 = .ok (.getfield 26, 3) := by decide +kernel
theorem dX11_plan_8 : decode cX11_plan 8 = .ok (.invokevirtual 215, 3) := by decide +kernel
theorem dX11_ring_0 : decode cX11_ring 0 = .ok (.iload_n 1, 1) := by decide +kernel
theorem dX11_ring_1 : decode cX11_ring 1 = .ok (.invokestatic 95, 3) := by decide +kernel
theorem dX11_ring_11 : decode cX11_ring 11 = .ok (.iload_n 2, 1) := by decide +kernel
theorem dX11_ring_12 : decode cX11_ring 12 = .ok (.invokevirtual 98, 3) := by decide +kernel
theorem dX11_ring_15 : decode cX11_ring 15 = .ok (.ifCond .ne 5, 3) := by decide +kernel
theorem dX11_ring_18 : decode cX11_ring 18 = .ok (.iconst (-1), 1) := by decide +kernel
theorem dX11_ring_19 : decode cX11_ring 19 = .ok (.ireturn, 1) := by decide +kernel
theorem dX11_ring_4 : decode cX11_ring 4 = .ok (.ifCond .eq 14, 3) := by decide +kernel
theorem dX11_ring_7 : decode cX11_ring 7 = .ok (.aload_n 0, 1) := by decide +kernel
theorem dX11_ring_8 : decode cX11_ring 8 = .ok (.getfield 19, 3) := by decide +kernel
theorem dX11_set_0 : decode cX11_set 0 = .ok (.aload_n 0, 1) := by decide +kernel
theorem dX11_set_1 : decode cX11_set 1 = .ok (.getfield 26, 3) := by decide +kernel
theorem dX11_set_10 : decode cX11_set 10 = .ok (.aload 4, 2) := by decide +kernel
theorem dX11_set_12 : decode cX11_set 12 = .ok (.ifnonnull 5, 3) := by decide +kernel
theorem dX11_set_15 : decode cX11_set 15 = .ok (.iconst (-1), 1) := by decide +kernel
theorem dX11_set_16 : decode cX11_set 16 = .ok (.ireturn, 1) := by decide +kernel
theorem dX11_set_4 : decode cX11_set 4 = .ok (.iload_n 1, 1) := by decide +kernel
theorem dX11_set_5 : decode cX11_set 5 = .ok (.invokevirtual 104, 3) := by decide +kernel
theorem dX11_set_8 : decode cX11_set 8 = .ok (.astore 4, 2) := by decide +kernel
theorem dX11_sign_0 : decode cX11_sign 0 = .ok (.aload_n 0, 1) := by decide +kernel
theorem dX11_sign_1 : decode cX11_sign 1 = .ok (.getfield 12, 3) := by decide +kernel
theorem dX11_sign_4 : decode cX11_sign 4 = .ok (.iload_n 1, 1) := by decide +kernel
theorem dX11_sign_5 : decode cX11_sign 5 = .ok (.invokevirtual 80, 3) := by decide +kernel
theorem dX11_sign_8 : decode cX11_sign 8 = .ok (.ireturn, 1) := by decide +kernel
theorem dX11_span_0 : decode cX11_span 0 = .ok (.aload_n 0, 1) := by decide +kernel
theorem dX11_span_1 : decode cX11_span 1 = .ok (.getfield 54, 3) := by decide +kernel
theorem dX11_span_4 : decode cX11_span 4 = .ok (.iload_n 1, 1) := by decide +kernel
theorem dX11_span_5 : decode cX11_span 5 = .ok (.invokevirtual 257, 3) := by decide +kernel
theorem dX11_span_8 : decode cX11_span 8 = .ok (.ireturn, 1) := by decide +kernel
theorem dX11_splice_0 : decode cX11_splice 0 = .ok (.aload_n 0, 1) := by decide +kernel
theorem dX11_splice_1 : decode cX11_splice 1 = .ok (.getfield 12, 3) := by decide +kernel
theorem dX11_splice_11 : decode cX11_splice 11 = .ok (.ireturn, 1) := by decide +kernel
theorem dX11_splice_4 : decode cX11_splice 4 = .ok (.aload_n 0, 1) := by decide +kernel
theorem dX11_splice_5 : decode cX11_splice 5 = .ok (.getfield 19, 3) := by decide +kernel
theorem dX11_splice_8 : decode cX11_splice 8 = .ok (.invokevirtual 88, 3) := by decide +kernel
theorem dX11_stop_0 : decode cX11_stop 0 = .ok (.iload_n 1, 1) := by decide +kernel
theorem dX11_stop_1 : decode cX11_stop 1 = .ok (.iconst 0, 1) := by decide +kernel
theorem dX11_stop_11 : decode cX11_stop 11 = .ok (.iconst (-1), 1) := by decide +kernel
theorem dX11_stop_12 : decode cX11_stop 12 = .ok (.ireturn, 1) := by decide +kernel
theorem dX11_stop_13 : decode cX11_stop 13 = .ok (.aload_n 0, 1) := by decide +kernel
theorem dX11_stop_14 : decode cX11_stop 14 = .ok (.getfield 47, 3) := by decide +kernel
theorem dX11_stop_17 : decode cX11_stop 17 = .ok (.getfield 237, 3) := by decide +kernel
theorem dX11_stop_2 : decode cX11_stop 2 = .ok (.sipush 2000, 3) := by decide +kernel
theorem dX11_stop_20 : decode cX11_stop 20 = .ok (.istore_n 2, 1) := by decide +kernel
theorem dX11_stop_21 : decode cX11_stop 21 = .ok (.aload_n 0, 1) := by decide +kernel
theorem dX11_stop_22 : decode cX11_stop 22 = .ok (.getfield 47, 3) := by decide +kernel
theorem dX11_stop_25 : decode cX11_stop 25 = .ok (.iload_n 1, 1) := by decide +kernel
theorem dX11_stop_26 : decode cX11_stop 26 = .ok (.putfield 237, 3) := by decide +kernel
theorem dX11_stop_29 : decode cX11_stop 29 = .ok (.iload_n 2, 1) := by decide +kernel
theorem dX11_stop_30 : decode cX11_stop 30 = .ok (.ireturn, 1) := by decide +kernel
theorem dX11_stop_5 : decode cX11_stop 5 = .ok (.invokestatic 113, 3) := by decide +kernel
theorem dX11_stop_8 : decode cX11_stop 8 = .ok (.ifCond .ne 5, 3) := by decide +kernel
theorem dX11_take_0 : decode cX11_take 0 = .ok (.iload_n 1, 1) := by decide +kernel
theorem dX11_take_1 : decode cX11_take 1 = .ok (.iconst 0, 1) := by decide +kernel
theorem dX11_take_10 : decode cX11_take 10 = .ok (.iload_n 2, 1) := by decide +kernel
theorem dX11_take_11 : decode cX11_take 11 = .ok (.iconst 0, 1) := by decide +kernel
theorem dX11_take_12 : decode cX11_take 12 = .ok (.bipush 60, 2) := by decide +kernel
theorem dX11_take_14 : decode cX11_take 14 = .ok (.invokestatic 113, 3) := by decide +kernel
theorem dX11_take_17 : decode cX11_take 17 = .ok (.ifCond .ne 5, 3) := by decide +kernel
theorem dX11_take_2 : decode cX11_take 2 = .ok (.ldc 204, 2) := by decide +kernel
theorem dX11_take_20 : decode cX11_take 20 = .ok (.iconst 0, 1) := by decide +kernel
theorem dX11_take_21 : decode cX11_take 21 = .ok (.ireturn, 1) := by decide +kernel
theorem dX11_take_22 : decode cX11_take 22 = .ok (.aload_n 0, 1) := by decide +kernel
theorem dX11_take_23 : decode cX11_take 23 = .ok (.getfield 54, 3) := by decide +kernel
theorem dX11_take_26 : decode cX11_take 26 = .ok (.iconst 0, 1) := by decide +kernel
theorem dX11_take_27 : decode cX11_take 27 = .ok (.putfield 152, 3) := by decide +kernel
theorem dX11_take_30 : decode cX11_take 30 = .ok (.iconst 0, 1) := by decide +kernel
theorem dX11_take_31 : decode cX11_take 31 = .ok (.istore_n 3, 1) := by decide +kernel
theorem dX11_take_32 : decode cX11_take 32 = .ok (.iload_n 3, 1) := by decide +kernel
theorem dX11_take_33 : decode cX11_take 33 = .ok (.iload_n 2, 1) := by decide +kernel
theorem dX11_take_34 : decode cX11_take 34 = .ok (.if_icmp .ge 28, 3) := by decide +kernel
theorem dX11_take_37 : decode cX11_take 37 = .ok (.aload_n 0, 1) := by decide +kernel
theorem dX11_take_38 : decode cX11_take 38 = .ok (.getfield 54, 3) := by decide +kernel
theorem dX11_take_4 : decode cX11_take 4 = .ok (.invokestatic 113, 3) := by decide +kernel
theorem dX11_take_41 : decode cX11_take 41 = .ok (.aload_n 0, 1) := by decide +kernel
theorem dX11_take_42 : decode cX11_take 42 = .ok (.getfield 26, 3) := by decide +kernel
theorem dX11_take_45 : decode cX11_take 45 = .ok (.iload_n 1, 1) := by decide +kernel
theorem dX11_take_46 : decode cX11_take 46 = .ok (.iload_n 3, 1) := by decide +kernel
theorem dX11_take_47 : decode cX11_take 47 = .ok (.iadd, 1) := by decide +kernel
theorem dX11_take_48 : decode cX11_take 48 = .ok (.i2l, 1) := by decide +kernel
theorem dX11_take_49 : decode cX11_take 49 = .ok (.invokevirtual 174, 3) := by decide +kernel
theorem dX11_take_52 : decode cX11_take 52 = .ok (.invokevirtual 253, 3) := by decide +kernel
theorem dX11_take_55 : decode cX11_take 55 = .ok (.pop, 1) := by decide +kernel
theorem dX11_take_56 : decode cX11_take 56 = .ok (.iinc 3 1, 3) := by decide +kernel
theorem dX11_take_59 : decode cX11_take 59 = .ok (.goto (-27), 3) := by decide +kernel
theorem dX11_take_62 : decode cX11_take 62 = .ok (.iconst 1, 1) := by decide +kernel
theorem dX11_take_63 : decode cX11_take 63 = .ok (.ireturn, 1) := by decide +kernel
theorem dX11_take_7 : decode cX11_take 7 = .ok (.ifCond .eq 13, 3) := by decide +kernel
theorem dX11_tape_0 : decode cX11_tape 0 = .ok (.iload_n 1, 1) := by decide +kernel
theorem dX11_tape_1 : decode cX11_tape 1 = .ok (.iconst (-1), 1) := by decide +kernel
theorem dX11_tape_12 : decode cX11_tape 12 = .ok (.aload_n 0, 1) := by decide +kernel
theorem dX11_tape_13 : decode cX11_tape 13 = .ok (.getfield 54, 3) := by decide +kernel
theorem dX11_tape_16 : decode cX11_tape 16 = .ok (.iload_n 1, 1) := by decide +kernel
theorem dX11_tape_17 : decode cX11_tape 17 = .ok (.invokevirtual 253, 3) := by decide +kernel
theorem dX11_tape_2 : decode cX11_tape 2 = .ok (.if_icmp .eq 10, 3) := by decide +kernel
theorem dX11_tape_20 : decode cX11_tape 20 = .ok (.goto 4, 3) := by decide +kernel
theorem dX11_tape_23 : decode cX11_tape 23 = .ok (.iconst (-1), 1) := by decide +kernel
theorem dX11_tape_24 : decode cX11_tape 24 = .ok (.ireturn, 1) := by decide +kernel
theorem dX11_tape_5 : decode cX11_tape 5 = .ok (.iload_n 1, 1) := by decide +kernel
theorem dX11_tape_6 : decode cX11_tape 6 = .ok (.invokestatic 190, 3) := by decide +kernel
theorem dX11_tape_9 : decode cX11_tape 9 = .ok (.ifCond .eq 14, 3) := by decide +kernel
theorem dX11_tell_0 : decode cX11_tell 0 = .ok (.aload_n 0, 1) := by decide +kernel
theorem dX11_tell_1 : decode cX11_tell 1 = .ok (.iload_n 2, 1) := by decide +kernel
theorem dX11_tell_12 : decode cX11_tell 12 = .ok (.invokestatic 288, 3) := by decide +kernel
theorem dX11_tell_15 : decode cX11_tell 15 = .ok (.putfield 76, 3) := by decide +kernel
theorem dX11_tell_18 : decode cX11_tell 18 = .ok (.aload_n 1, 1) := by decide +kernel
theorem dX11_tell_19 : decode cX11_tell 19 = .ok (.iconst 0, 1) := by decide +kernel
theorem dX11_tell_2 : decode cX11_tell 2 = .ok (.aload_n 1, 1) := by decide +kernel
theorem dX11_tell_20 : decode cX11_tell 20 = .ok (.aload_n 0, 1) := by decide +kernel
theorem dX11_tell_21 : decode cX11_tell 21 = .ok (.getfield 72, 3) := by decide +kernel
theorem dX11_tell_24 : decode cX11_tell 24 = .ok (.iconst 0, 1) := by decide +kernel
theorem dX11_tell_25 : decode cX11_tell 25 = .ok (.aload_n 0, 1) := by decide +kernel
theorem dX11_tell_26 : decode cX11_tell 26 = .ok (.getfield 76, 3) := by decide +kernel
theorem dX11_tell_29 : decode cX11_tell 29 = .ok (.invokestatic 293, 3) := by decide +kernel
theorem dX11_tell_3 : decode cX11_tell 3 = .ok (.arraylength, 1) := by decide +kernel
theorem dX11_tell_32 : decode cX11_tell 32 = .ok (.return_, 1) := by decide +kernel
theorem dX11_tell_4 : decode cX11_tell 4 = .ok (.aload_n 0, 1) := by decide +kernel
theorem dX11_tell_5 : decode cX11_tell 5 = .ok (.getfield 72, 3) := by decide +kernel
theorem dX11_tell_8 : decode cX11_tell 8 = .ok (.arraylength, 1) := by decide +kernel
theorem dX11_tell_9 : decode cX11_tell 9 = .ok (.invokestatic 288, 3) := by decide +kernel
theorem dX11_weight_0 : decode cX11_weight 0 = .ok (.iload_n 1, 1) := by decide +kernel
theorem dX11_weight_1 : decode cX11_weight 1 = .ok (.invokestatic 205, 3) := by decide +kernel
theorem dX11_weight_12 : decode cX11_weight 12 = .ok (.invokestatic 113, 3) := by decide +kernel
theorem dX11_weight_15 : decode cX11_weight 15 = .ok (.ifCond .ne 5, 3) := by decide +kernel
theorem dX11_weight_18 : decode cX11_weight 18 = .ok (.iconst (-1), 1) := by decide +kernel
theorem dX11_weight_19 : decode cX11_weight 19 = .ok (.ireturn, 1) := by decide +kernel
theorem dX11_weight_20 : decode cX11_weight 20 = .ok (.aload_n 0, 1) := by decide +kernel
theorem dX11_weight_21 : decode cX11_weight 21 = .ok (.getfield 47, 3) := by decide +kernel
theorem dX11_weight_24 : decode cX11_weight 24 = .ok (.iload_n 1, 1) := by decide +kernel
theorem dX11_weight_25 : decode cX11_weight 25 = .ok (.iload_n 2, 1) := by decide +kernel
theorem dX11_weight_26 : decode cX11_weight 26 = .ok (.invokevirtual 230, 3) := by decide +kernel
theorem dX11_weight_29 : decode cX11_weight 29 = .ok (.ireturn, 1) := by decide +kernel
theorem dX11_weight_4 : decode cX11_weight 4 = .ok (.ifCond .eq 14, 3) := by decide +kernel
theorem dX11_weight_7 : decode cX11_weight 7 = .ok (.iload_n 2, 1) := by decide +kernel
theorem dX11_weight_8 : decode cX11_weight 8 = .ok (.iconst 0, 1) := by decide +kernel
theorem dX11_weight_9 : decode cX11_weight 9 = .ok (.sipush 200, 3) := by decide +kernel
theorem dX11_wipe_0 : decode cX11_wipe 0 = .ok (.aload_n 0, 1) := by decide +kernel
theorem dX11_wipe_1 : decode cX11_wipe 1 = .ok (.getfield 54, 3) := by decide +kernel
theorem dX11_wipe_12 : decode cX11_wipe 12 = .ok (.iconst 0, 1) := by decide +kernel
theorem dX11_wipe_13 : decode cX11_wipe 13 = .ok (.putfield 152, 3) := by decide +kernel
theorem dX11_wipe_16 : decode cX11_wipe 16 = .ok (.iload_n 1, 1) := by decide +kernel
theorem dX11_wipe_17 : decode cX11_wipe 17 = .ok (.ireturn, 1) := by decide +kernel
theorem dX11_wipe_4 : decode cX11_wipe 4 = .ok (.getfield 152, 3) := by decide +kernel
theorem dX11_wipe_7 : decode cX11_wipe 7 = .ok (.istore_n 1, 1) := by decide +kernel
theorem dX11_wipe_8 : decode cX11_wipe 8 = .ok (.aload_n 0, 1) := by decide +kernel
theorem dX11_wipe_9 : decode cX11_wipe 9 = .ok (.getfield 54, 3) := by decide +kernel
theorem dX11_wish_0 : decode cX11_wish 0 = .ok (.aload_n 0, 1) := by decide +kernel
theorem dX11_wish_1 : decode cX11_wish 1 = .ok (.getfield 26, 3) := by decide +kernel
theorem dX11_wish_10 : decode cX11_wish 10 = .ok (.ifnull 10, 3) := by decide +kernel
theorem dX11_wish_20 : decode cX11_wish 20 = .ok (.iconst 0, 1) := by decide +kernel
theorem dX11_wish_21 : decode cX11_wish 21 = .ok (.ireturn, 1) := by decide +kernel
theorem dX11_wish_4 : decode cX11_wish 4 = .ok (.iload_n 1, 1) := by decide +kernel
theorem dX11_wish_5 : decode cX11_wish 5 = .ok (.invokevirtual 104, 3) := by decide +kernel
theorem dX11_wish_8 : decode cX11_wish 8 = .ok (.astore_n 3, 1) := by decide +kernel
theorem dX11_wish_9 : decode cX11_wish 9 = .ok (.aload_n 3, 1) := by decide +kernel
theorem dm_X7_add : yX7_add.cls = RX7 ∧ yX7_add.cls ≠ "java/lang/invoke/MethodHandle" ∧ yX7_add.cls ≠ "java/lang/invoke/VarHandle" ∧ (parseMethodDescriptor yX7_add.desc).map (fun d => d.parameters.length) = some 1 := by decide +kernel
theorem dm_X7_keepFirst : yX7_keepFirst.cls = RX7 ∧ yX7_keepFirst.cls ≠ "java/lang/invoke/MethodHandle" ∧ yX7_keepFirst.cls ≠ "java/lang/invoke/VarHandle" ∧ (parseMethodDescriptor yX7_keepFirst.desc).map (fun d => d.parameters.length) = some 1 := by decide +kernel
theorem dm_X7_putInto : yX7_putInto.cls = RX7 ∧ yX7_putInto.cls ≠ "java/lang/invoke/MethodHandle" ∧ yX7_putInto.cls ≠ "java/lang/invoke/VarHandle" ∧ (parseMethodDescriptor yX7_putInto.desc).map (fun d => d.parameters.length) = some 1 := by decide +kernel
theorem dm_X8_at : yX8_at.cls = RX8 ∧ yX8_at.cls ≠ "java/lang/invoke/MethodHandle" ∧ yX8_at.cls ≠ "java/lang/invoke/VarHandle" ∧ (parseMethodDescriptor yX8_at.desc).map (fun d => d.parameters.length) = some 1 := by decide +kernel
theorem dm_X11_isMotor : yX11_isMotor.cls = RX11 ∧ yX11_isMotor.cls ≠ "java/lang/invoke/MethodHandle" ∧ yX11_isMotor.cls ≠ "java/lang/invoke/VarHandle" ∧ (parseMethodDescriptor yX11_isMotor.desc).map (fun d => d.parameters.length) = some 1 := by decide +kernel
theorem dm_X9_motorOf : yX9_motorOf.cls = RX9 ∧ yX9_motorOf.cls ≠ "java/lang/invoke/MethodHandle" ∧ yX9_motorOf.cls ≠ "java/lang/invoke/VarHandle" ∧ (parseMethodDescriptor yX9_motorOf.desc).map (fun d => d.parameters.length) = some 1 := by decide +kernel
theorem dm_X2_tell : yX2_tell.cls = RX2 ∧ yX2_tell.cls ≠ "java/lang/invoke/MethodHandle" ∧ yX2_tell.cls ≠ "java/lang/invoke/VarHandle" ∧ (parseMethodDescriptor yX2_tell.desc).map (fun d => d.parameters.length) = some 2 := by decide +kernel
theorem dm_X9_empty : yX9_empty.cls = RX9 ∧ yX9_empty.cls ≠ "java/lang/invoke/MethodHandle" ∧ yX9_empty.cls ≠ "java/lang/invoke/VarHandle" ∧ (parseMethodDescriptor yX9_empty.desc).map (fun d => d.parameters.length) = some 0 := by decide +kernel
theorem dm_X9_heardInAll : yX9_heardInAll.cls = RX9 ∧ yX9_heardInAll.cls ≠ "java/lang/invoke/MethodHandle" ∧ yX9_heardInAll.cls ≠ "java/lang/invoke/VarHandle" ∧ (parseMethodDescriptor yX9_heardInAll.desc).map (fun d => d.parameters.length) = some 1 := by decide +kernel
theorem dm_X1_look : yX1_look.cls = RX1 ∧ yX1_look.cls ≠ "java/lang/invoke/MethodHandle" ∧ yX1_look.cls ≠ "java/lang/invoke/VarHandle" ∧ (parseMethodDescriptor yX1_look.desc).map (fun d => d.parameters.length) = some 1 := by decide +kernel
theorem dm_X1_first : yX1_first.cls = RX1 ∧ yX1_first.cls ≠ "java/lang/invoke/MethodHandle" ∧ yX1_first.cls ≠ "java/lang/invoke/VarHandle" ∧ (parseMethodDescriptor yX1_first.desc).map (fun d => d.parameters.length) = some 2 := by decide +kernel
theorem dm_X11_isSound : yX11_isSound.cls = RX11 ∧ yX11_isSound.cls ≠ "java/lang/invoke/MethodHandle" ∧ yX11_isSound.cls ≠ "java/lang/invoke/VarHandle" ∧ (parseMethodDescriptor yX11_isSound.desc).map (fun d => d.parameters.length) = some 1 := by decide +kernel
theorem dm_X5_add : yX5_add.cls = RX5 ∧ yX5_add.cls ≠ "java/lang/invoke/MethodHandle" ∧ yX5_add.cls ≠ "java/lang/invoke/VarHandle" ∧ (parseMethodDescriptor yX5_add.desc).map (fun d => d.parameters.length) = some 2 := by decide +kernel
theorem dm_X5_marksTrue : yX5_marksTrue.cls = RX5 ∧ yX5_marksTrue.cls ≠ "java/lang/invoke/MethodHandle" ∧ yX5_marksTrue.cls ≠ "java/lang/invoke/VarHandle" ∧ (parseMethodDescriptor yX5_marksTrue.desc).map (fun d => d.parameters.length) = some 1 := by decide +kernel
theorem dm_X5_find : yX5_find.cls = RX5 ∧ yX5_find.cls ≠ "java/lang/invoke/MethodHandle" ∧ yX5_find.cls ≠ "java/lang/invoke/VarHandle" ∧ (parseMethodDescriptor yX5_find.desc).map (fun d => d.parameters.length) = some 1 := by decide +kernel
theorem dm_X11_tell : yX11_tell.cls = RX11 ∧ yX11_tell.cls ≠ "java/lang/invoke/MethodHandle" ∧ yX11_tell.cls ≠ "java/lang/invoke/VarHandle" ∧ (parseMethodDescriptor yX11_tell.desc).map (fun d => d.parameters.length) = some 2 := by decide +kernel
theorem dm_X5_carryOut : yX5_carryOut.cls = RX5 ∧ yX5_carryOut.cls ≠ "java/lang/invoke/MethodHandle" ∧ yX5_carryOut.cls ≠ "java/lang/invoke/VarHandle" ∧ (parseMethodDescriptor yX5_carryOut.desc).map (fun d => d.parameters.length) = some 1 := by decide +kernel
theorem dm_X0_weigh : yX0_weigh.cls = RX0 ∧ yX0_weigh.cls ≠ "java/lang/invoke/MethodHandle" ∧ yX0_weigh.cls ≠ "java/lang/invoke/VarHandle" ∧ (parseMethodDescriptor yX0_weigh.desc).map (fun d => d.parameters.length) = some 2 := by decide +kernel
theorem dm_X0_place : yX0_place.cls = RX0 ∧ yX0_place.cls ≠ "java/lang/invoke/MethodHandle" ∧ yX0_place.cls ≠ "java/lang/invoke/VarHandle" ∧ (parseMethodDescriptor yX0_place.desc).map (fun d => d.parameters.length) = some 4 := by decide +kernel
theorem dm_X0_fate : yX0_fate.cls = RX0 ∧ yX0_fate.cls ≠ "java/lang/invoke/MethodHandle" ∧ yX0_fate.cls ≠ "java/lang/invoke/VarHandle" ∧ (parseMethodDescriptor yX0_fate.desc).map (fun d => d.parameters.length) = some 1 := by decide +kernel
theorem dm_X3_add : yX3_add.cls = RX3 ∧ yX3_add.cls ≠ "java/lang/invoke/MethodHandle" ∧ yX3_add.cls ≠ "java/lang/invoke/VarHandle" ∧ (parseMethodDescriptor yX3_add.desc).map (fun d => d.parameters.length) = some 1 := by decide +kernel
theorem dm_X11_isSounds : yX11_isSounds.cls = RX11 ∧ yX11_isSounds.cls ≠ "java/lang/invoke/MethodHandle" ∧ yX11_isSounds.cls ≠ "java/lang/invoke/VarHandle" ∧ (parseMethodDescriptor yX11_isSounds.desc).map (fun d => d.parameters.length) = some 1 := by decide +kernel
theorem dm_X3_makeGap : yX3_makeGap.cls = RX3 ∧ yX3_makeGap.cls ≠ "java/lang/invoke/MethodHandle" ∧ yX3_makeGap.cls ≠ "java/lang/invoke/VarHandle" ∧ (parseMethodDescriptor yX3_makeGap.desc).map (fun d => d.parameters.length) = some 1 := by decide +kernel
theorem dm_X3_spanNumber : yX3_spanNumber.cls = RX3 ∧ yX3_spanNumber.cls ≠ "java/lang/invoke/MethodHandle" ∧ yX3_spanNumber.cls ≠ "java/lang/invoke/VarHandle" ∧ (parseMethodDescriptor yX3_spanNumber.desc).map (fun d => d.parameters.length) = some 1 := by decide +kernel
theorem dm_X3_pairNumber : yX3_pairNumber.cls = RX3 ∧ yX3_pairNumber.cls ≠ "java/lang/invoke/MethodHandle" ∧ yX3_pairNumber.cls ≠ "java/lang/invoke/VarHandle" ∧ (parseMethodDescriptor yX3_pairNumber.desc).map (fun d => d.parameters.length) = some 1 := by decide +kernel
theorem dm_X3_mendedAt : yX3_mendedAt.cls = RX3 ∧ yX3_mendedAt.cls ≠ "java/lang/invoke/MethodHandle" ∧ yX3_mendedAt.cls ≠ "java/lang/invoke/VarHandle" ∧ (parseMethodDescriptor yX3_mendedAt.desc).map (fun d => d.parameters.length) = some 1 := by decide +kernel
theorem dm_X4_add : yX4_add.cls = RX4 ∧ yX4_add.cls ≠ "java/lang/invoke/MethodHandle" ∧ yX4_add.cls ≠ "java/lang/invoke/VarHandle" ∧ (parseMethodDescriptor yX4_add.desc).map (fun d => d.parameters.length) = some 2 := by decide +kernel
theorem dm_X4_joinAll : yX4_joinAll.cls = RX4 ∧ yX4_joinAll.cls ≠ "java/lang/invoke/MethodHandle" ∧ yX4_joinAll.cls ≠ "java/lang/invoke/VarHandle" ∧ (parseMethodDescriptor yX4_joinAll.desc).map (fun d => d.parameters.length) = some 0 := by decide +kernel
theorem dm_X10_latest : yX10_latest.cls = RX10 ∧ yX10_latest.cls ≠ "java/lang/invoke/MethodHandle" ∧ yX10_latest.cls ≠ "java/lang/invoke/VarHandle" ∧ (parseMethodDescriptor yX10_latest.desc).map (fun d => d.parameters.length) = some 2 := by decide +kernel
theorem dm_X10_find : yX10_find.cls = RX10 ∧ yX10_find.cls ≠ "java/lang/invoke/MethodHandle" ∧ yX10_find.cls ≠ "java/lang/invoke/VarHandle" ∧ (parseMethodDescriptor yX10_find.desc).map (fun d => d.parameters.length) = some 1 := by decide +kernel
set_option maxHeartbeats 4000000 in
set_option maxRecDepth 100000 in
theorem n_tellP (l : Launch) (D : va_G) (dA : Nat → ClassId) (b : Nat) (M : zM) (n : Int) (r_n : R32 n) (p0 : n = 0) : Met l yX11_tell (.code yX11_tell cX11_tell 3 none :: zt) (z_rm 1) (va_Pc [.ref (b + 0), .ref (b + 63), .int (iI n)] (zP D dA vwCl (z_tys dA) wC nC b M)) (va_Qv (zQv wC (zms wC [10, 3199]) M (fun M1 => True)) (zB D dA vwCl wC nC b) (zA nC b)) 0 0 (zA nC b) := by
  refine Met.ofW (cc := cX11_tell) (maxL := 3) (ret := none) (by decide) rfl ?_
  intro p e s m args below meth c s₁ B hml hv
  obtain ⟨hargs, hR0, hJ, hK⟩ := hv
  have hx := B.exec
  have hb := B.bytes
  have hr := B.returns
  have hts := atoms_spec (ws := .code yX11_tell cX11_tell 3 none :: zt) B.pre
  have hown : s.vm.findClass RX11 = some m.cls := findClass_of_methodNamed B.named
  have hlocks := B.notSynchronized
  have hS : zS D dA vwCl wC nC b (zms wC [10, 3199]) M M s.heap := ⟨hR0, hJ, zF_rf _ _⟩
  have hS0 : va_S (zA nC b) s.heap s.heap [] := va_S.rf
  have hl := lv_entry ([.ref (b + 0), .ref (b + 63), .int (iI n)]) (n := 3) (Nat.le_of_ble_eq_true rfl)
  have hent : entryFrame m args 3 = F0 m 0 ((lg_sl ([.ref (b + 0), .ref (b + 63), .int (iI n)]) ++ List.replicate (3 - (lg_sl ([.ref (b + 0), .ref (b + 63), .int (iI n)])).length) Slot.unset).toArray) [] := by rw [hargs]; exact lg_entry_eq m ([.ref (b + 0), .ref (b + 63), .int (iI n)]) 3
  rw [hent]
  generalize (lg_sl ([.ref (b + 0), .ref (b + 63), .int (iI n)]) ++ List.replicate (3 - (lg_sl ([.ref (b + 0), .ref (b + 63), .int (iI n)])).length) Slot.unset).toArray = ls at hl ⊢
  have hl : lv_has ls 3 [(0, .ref (b + 0)), (1, .ref (b + 63)), (2, .int (iI n))] := hl
  refine lv_aload_n hx hb dX11_tell_0 rfl (lv_at hl 0 rfl) ?_
  refine lv_iload_n hx hb dX11_tell_1 rfl (lv_at hl 2 rfl) ?_
  refine lv_aload_n hx hb dX11_tell_2 rfl (lv_at hl 1 rfl) ?_
  refine z_alen (n := 8) hx hb hK.1 (t0 := 0) rfl hS (by decide) (zkd_of (rfl : zcd wC 63 = 22) rfl) (zln_of (rfl : zcd wC 63 = 22) rfl) dX11_tell_3 ?_
  refine z_top (show (((8 : Nat) : Int)) = 8 from by decide) ?_
  refine lv_aload_n hx hb dX11_tell_4 rfl (lv_at hl 0 rfl) ?_
  refine z_getr (j2 := 133) hx hb hts (z_memU u11) hown hK.1 hS f11_9 (by decide) (zkd_of (rfl : zcd wC 0 = 0) rfl) (zrf_of (rfl : zcd wC 0 = 0) rfl) (Or.inl (hts _ (z_mem k251))) dX11_tell_5 ?_
  refine z_alen (n := 40) hx hb hK.1 (t0 := 0) rfl hS (by decide) (zkd_of (rfl : zcd wC 133 = 49) rfl) (zln_of (rfl : zcd wC 133 = 49) rfl) dX11_tell_8 ?_
  refine z_top (show (((40 : Nat) : Int)) = 40 from by decide) ?_
  refine z_mmin hx hb (hml.trans hl.1.symm) hown (hts _ (z_mem k656)) (hts _ (z_mem k320)) (hts _ (z_mem k15)) (hts _ (z_mem k321)) (by exact Nat.le_of_ble_eq_true rfl) (by exact Nat.le_of_ble_eq_true rfl) (by exact Nat.le_refl _) (by exact Nat.le_refl _) (by decide) (by decide) dX11_tell_9 ?_
  refine z_top (show ((min 8 40) : Int) = 8 from by decide) ?_
  refine z_mmin hx hb (hml.trans hl.1.symm) hown (hts _ (z_mem k656)) (hts _ (z_mem k320)) (hts _ (z_mem k15)) (hts _ (z_mem k321)) (by exact Nat.le_of_ble_eq_true rfl) (by exact Nat.le_of_ble_eq_true rfl) (by exact Nat.le_refl _) (by exact Nat.le_refl _) r_n (by decide) dX11_tell_12 ?_
  refine z_top (show ((min n 8) : Int) = n from by omega) ?_
  refine z_puti hx hb hts (z_memU u11) tyX11 tyX11_ok nmX11 hown hK.1 hS hS0 f11_10 (by decide) (zkd_of (rfl : zcd wC 0 = 0) rfl) (Or.inl (hts _ (z_mem k252))) rfl (z := n) (by decide +kernel) (zbd_in (rfl : zcd wC 0 = 0) rfl ⟨by omega, by omega⟩) (zms_of (rfl : zcd wC 0 = 0) rfl) dX11_tell_15 (fun H locs hS hS0 => ?_)
  obtain ⟨M5, e6⟩ : ∃ M5 : zM, M5 = zup M 0 10 n := ⟨_, rfl⟩
  rw [← e6] at hS
  have J7 := hS.2.1
  refine lv_aload_n hx hb dX11_tell_18 rfl (lv_at hl 1 rfl) ?_
  refine z_iconst hx hb dX11_tell_19 ?_
  refine lv_aload_n hx hb dX11_tell_20 rfl (lv_at hl 0 rfl) ?_
  refine z_getr (j2 := 133) hx hb hts (z_memU u11) hown hK.1 hS f11_9 (by decide) (zkd_of (rfl : zcd wC 0 = 0) rfl) (zrf_of (rfl : zcd wC 0 = 0) rfl) (Or.inl (hts _ (z_mem k251))) dX11_tell_21 ?_
  refine z_iconst hx hb dX11_tell_24 ?_
  refine lv_aload_n hx hb dX11_tell_25 rfl (lv_at hl 0 rfl) ?_
  refine z_geti hx hb hts (z_memU u11) hown hK.1 hS f11_10 (by decide) (zkd_of (rfl : zcd wC 0 = 0) rfl) (Or.inl (hts _ (z_mem k252))) dX11_tell_26 ?_
  refine z_top (show M5 0 10 = n from by rw [e6, zup_s]) ?_
  refine z_acopy (n0 := 8) (n1 := 40) hx hb (hml.trans hl.1.symm) hown (hts _ (z_mem k657)) (hts _ (z_mem k366)) (hts _ (z_mem k365)) (hts _ (z_mem k16)) hK.1 (t0 := 0) rfl hS hS0 (by decide) (by decide) (by decide) (zkd_of (rfl : zcd wC 63 = 22) rfl) (zkd_of (rfl : zcd wC 133 = 49) rfl) (zln_of (rfl : zcd wC 63 = 22) rfl) (zln_of (rfl : zcd wC 133 = 49) rfl) (by decide) (by decide) (by decide) (by decide) (by omega) (by omega) (by omega) (fun k hk => zbd_in (lo := -2147483648) (hi := 2147483647) (rfl : zcd wC 133 = 49) rfl (zwk (zJ_at (lo := 0) (hi := 23) J7 (rfl : zcd wC 63 = 22) rfl) (by decide) (by decide))) (fun k => zms_of (rfl : zcd wC 133 = 49) rfl) (by exact Nat.le_of_ble_eq_true rfl) (by exact Nat.le_of_ble_eq_true rfl) dX11_tell_29 (fun H locs hS hS0 => ?_)
  obtain ⟨M8, e9⟩ : ∃ M8 : zM, M8 = zcp M5 63 133 (0 : Int).toNat (0 : Int).toNat (n : Int).toNat := ⟨_, rfl⟩
  rw [← e9] at hS
  have J10 := hS.2.1
  have F11 : zF (zms wC [3199]) M5 M8 := by rw [e9]; exact zcp_F (rfl : zcd wC 133 = 49) (fun _ => rfl)
  exact z_vret hx hb hr hlocks hS hS0 (by first | exact trivial | exact ⟨rfl, trivial⟩ | omega | (refine ⟨by omega, trivial⟩)) dX11_tell_32

set_option maxHeartbeats 4000000 in
set_option maxRecDepth 100000 in
theorem n_tellB (l : Launch) (D : va_G) (dA : Nat → ClassId) (b : Nat) (M : zM) (n : Int) (r_n : R32 n) (p0 : n = 0) : Met l yX11_tell (.code yX11_tell cX11_tell 3 none :: zt) (z_rm 1) (va_Pc [.ref (b + 0), .ref (b + 87), .int (iI n)] (zP D dA vwCl (z_tys dA) wC nC b M)) (va_Qv (zQv wC (zms wC [10, 3199]) M (fun M1 => True)) (zB D dA vwCl wC nC b) (zA nC b)) 0 0 (zA nC b) := by
  refine Met.ofW (cc := cX11_tell) (maxL := 3) (ret := none) (by decide) rfl ?_
  intro p e s m args below meth c s₁ B hml hv
  obtain ⟨hargs, hR0, hJ, hK⟩ := hv
  have hx := B.exec
  have hb := B.bytes
  have hr := B.returns
  have hts := atoms_spec (ws := .code yX11_tell cX11_tell 3 none :: zt) B.pre
  have hown : s.vm.findClass RX11 = some m.cls := findClass_of_methodNamed B.named
  have hlocks := B.notSynchronized
  have hS : zS D dA vwCl wC nC b (zms wC [10, 3199]) M M s.heap := ⟨hR0, hJ, zF_rf _ _⟩
  have hS0 : va_S (zA nC b) s.heap s.heap [] := va_S.rf
  have hl := lv_entry ([.ref (b + 0), .ref (b + 87), .int (iI n)]) (n := 3) (Nat.le_of_ble_eq_true rfl)
  have hent : entryFrame m args 3 = F0 m 0 ((lg_sl ([.ref (b + 0), .ref (b + 87), .int (iI n)]) ++ List.replicate (3 - (lg_sl ([.ref (b + 0), .ref (b + 87), .int (iI n)])).length) Slot.unset).toArray) [] := by rw [hargs]; exact lg_entry_eq m ([.ref (b + 0), .ref (b + 87), .int (iI n)]) 3
  rw [hent]
  generalize (lg_sl ([.ref (b + 0), .ref (b + 87), .int (iI n)]) ++ List.replicate (3 - (lg_sl ([.ref (b + 0), .ref (b + 87), .int (iI n)])).length) Slot.unset).toArray = ls at hl ⊢
  have hl : lv_has ls 3 [(0, .ref (b + 0)), (1, .ref (b + 87)), (2, .int (iI n))] := hl
  refine lv_aload_n hx hb dX11_tell_0 rfl (lv_at hl 0 rfl) ?_
  refine lv_iload_n hx hb dX11_tell_1 rfl (lv_at hl 2 rfl) ?_
  refine lv_aload_n hx hb dX11_tell_2 rfl (lv_at hl 1 rfl) ?_
  refine z_alen (n := 40) hx hb hK.1 (t0 := 0) rfl hS (by decide) (zkd_of (rfl : zcd wC 87 = 39) rfl) (zln_of (rfl : zcd wC 87 = 39) rfl) dX11_tell_3 ?_
  refine z_top (show (((40 : Nat) : Int)) = 40 from by decide) ?_
  refine lv_aload_n hx hb dX11_tell_4 rfl (lv_at hl 0 rfl) ?_
  refine z_getr (j2 := 133) hx hb hts (z_memU u11) hown hK.1 hS f11_9 (by decide) (zkd_of (rfl : zcd wC 0 = 0) rfl) (zrf_of (rfl : zcd wC 0 = 0) rfl) (Or.inl (hts _ (z_mem k251))) dX11_tell_5 ?_
  refine z_alen (n := 40) hx hb hK.1 (t0 := 0) rfl hS (by decide) (zkd_of (rfl : zcd wC 133 = 49) rfl) (zln_of (rfl : zcd wC 133 = 49) rfl) dX11_tell_8 ?_
  refine z_top (show (((40 : Nat) : Int)) = 40 from by decide) ?_
  refine z_mmin hx hb (hml.trans hl.1.symm) hown (hts _ (z_mem k656)) (hts _ (z_mem k320)) (hts _ (z_mem k15)) (hts _ (z_mem k321)) (by exact Nat.le_of_ble_eq_true rfl) (by exact Nat.le_of_ble_eq_true rfl) (by exact Nat.le_refl _) (by exact Nat.le_refl _) (by decide) (by decide) dX11_tell_9 ?_
  refine z_top (show ((min 40 40) : Int) = 40 from by decide) ?_
  refine z_mmin hx hb (hml.trans hl.1.symm) hown (hts _ (z_mem k656)) (hts _ (z_mem k320)) (hts _ (z_mem k15)) (hts _ (z_mem k321)) (by exact Nat.le_of_ble_eq_true rfl) (by exact Nat.le_of_ble_eq_true rfl) (by exact Nat.le_refl _) (by exact Nat.le_refl _) r_n (by decide) dX11_tell_12 ?_
  refine z_top (show ((min n 40) : Int) = n from by omega) ?_
  refine z_puti hx hb hts (z_memU u11) tyX11 tyX11_ok nmX11 hown hK.1 hS hS0 f11_10 (by decide) (zkd_of (rfl : zcd wC 0 = 0) rfl) (Or.inl (hts _ (z_mem k252))) rfl (z := n) (by decide +kernel) (zbd_in (rfl : zcd wC 0 = 0) rfl ⟨by omega, by omega⟩) (zms_of (rfl : zcd wC 0 = 0) rfl) dX11_tell_15 (fun H locs hS hS0 => ?_)
  obtain ⟨M5, e6⟩ : ∃ M5 : zM, M5 = zup M 0 10 n := ⟨_, rfl⟩
  rw [← e6] at hS
  have J7 := hS.2.1
  refine lv_aload_n hx hb dX11_tell_18 rfl (lv_at hl 1 rfl) ?_
  refine z_iconst hx hb dX11_tell_19 ?_
  refine lv_aload_n hx hb dX11_tell_20 rfl (lv_at hl 0 rfl) ?_
  refine z_getr (j2 := 133) hx hb hts (z_memU u11) hown hK.1 hS f11_9 (by decide) (zkd_of (rfl : zcd wC 0 = 0) rfl) (zrf_of (rfl : zcd wC 0 = 0) rfl) (Or.inl (hts _ (z_mem k251))) dX11_tell_21 ?_
  refine z_iconst hx hb dX11_tell_24 ?_
  refine lv_aload_n hx hb dX11_tell_25 rfl (lv_at hl 0 rfl) ?_
  refine z_geti hx hb hts (z_memU u11) hown hK.1 hS f11_10 (by decide) (zkd_of (rfl : zcd wC 0 = 0) rfl) (Or.inl (hts _ (z_mem k252))) dX11_tell_26 ?_
  refine z_top (show M5 0 10 = n from by rw [e6, zup_s]) ?_
  refine z_acopy (n0 := 40) (n1 := 40) hx hb (hml.trans hl.1.symm) hown (hts _ (z_mem k657)) (hts _ (z_mem k366)) (hts _ (z_mem k365)) (hts _ (z_mem k16)) hK.1 (t0 := 0) rfl hS hS0 (by decide) (by decide) (by decide) (zkd_of (rfl : zcd wC 87 = 39) rfl) (zkd_of (rfl : zcd wC 133 = 49) rfl) (zln_of (rfl : zcd wC 87 = 39) rfl) (zln_of (rfl : zcd wC 133 = 49) rfl) (by decide) (by decide) (by decide) (by decide) (by omega) (by omega) (by omega) (fun k hk => zbd_in (lo := -2147483648) (hi := 2147483647) (rfl : zcd wC 133 = 49) rfl (zwk (zJ_at (lo := 0) (hi := 9) J7 (rfl : zcd wC 87 = 39) rfl) (by decide) (by decide))) (fun k => zms_of (rfl : zcd wC 133 = 49) rfl) (by exact Nat.le_of_ble_eq_true rfl) (by exact Nat.le_of_ble_eq_true rfl) dX11_tell_29 (fun H locs hS hS0 => ?_)
  obtain ⟨M8, e9⟩ : ∃ M8 : zM, M8 = zcp M5 87 133 (0 : Int).toNat (0 : Int).toNat (n : Int).toNat := ⟨_, rfl⟩
  rw [← e9] at hS
  have J10 := hS.2.1
  have F11 : zF (zms wC [3199]) M5 M8 := by rw [e9]; exact zcp_F (rfl : zcd wC 133 = 49) (fun _ => rfl)
  exact z_vret hx hb hr hlocks hS hS0 (by first | exact trivial | exact ⟨rfl, trivial⟩ | omega | (refine ⟨by omega, trivial⟩)) dX11_tell_32

set_option maxHeartbeats 4000000 in
set_option maxRecDepth 100000 in
theorem x_sign (l : Launch) (D : va_G) (dA : Nat → ClassId) (b : Nat) (M : zM) (v : Int) (r_v : R32 v) (g0 : M 1 1 = 0) : Met l yX11_sign (.code yX11_sign cX11_sign 2 (some .int) :: zt) (z_rm 1) (va_Pc [.ref (b + 0), .int (iI v)] (zP D dA vwCl (z_tys dA) wC nC b M)) (va_Qi (zQi wC (zms wC [65, 191]) M (fun z M1 => z = 4 ∧ True)) (zB D dA vwCl wC nC b) (zA nC b)) 0 0 (zA nC b) := by
  refine Met.ofW (cc := cX11_sign) (maxL := 2) (ret := (some .int)) (by decide) rfl ?_
  intro p e s m args below meth c s₁ B hml hv
  obtain ⟨hargs, hR0, hJ, hK⟩ := hv
  have hx := B.exec
  have hb := B.bytes
  have hr := B.returns
  have hts := atoms_spec (ws := .code yX11_sign cX11_sign 2 (some .int) :: zt) B.pre
  have hown : s.vm.findClass RX11 = some m.cls := findClass_of_methodNamed B.named
  have hlocks := B.notSynchronized
  have hS : zS D dA vwCl wC nC b (zms wC [65, 191]) M M s.heap := ⟨hR0, hJ, zF_rf _ _⟩
  have hS0 : va_S (zA nC b) s.heap s.heap [] := va_S.rf
  have hl := lv_entry ([.ref (b + 0), .int (iI v)]) (n := 2) (Nat.le_of_ble_eq_true rfl)
  have hent : entryFrame m args 2 = F0 m 0 ((lg_sl ([.ref (b + 0), .int (iI v)]) ++ List.replicate (2 - (lg_sl ([.ref (b + 0), .int (iI v)])).length) Slot.unset).toArray) [] := by rw [hargs]; exact lg_entry_eq m ([.ref (b + 0), .int (iI v)]) 2
  rw [hent]
  generalize (lg_sl ([.ref (b + 0), .int (iI v)]) ++ List.replicate (2 - (lg_sl ([.ref (b + 0), .int (iI v)])).length) Slot.unset).toArray = ls at hl ⊢
  have hl : lv_has ls 2 [(0, .ref (b + 0)), (1, .int (iI v))] := hl
  refine lv_aload_n hx hb dX11_sign_0 rfl (lv_at hl 0 rfl) ?_
  refine z_getr (j2 := 1) hx hb hts (z_memU u11) hown hK.1 hS f11_0 (by decide) (zkd_of (rfl : zcd wC 0 = 0) rfl) (zrf_of (rfl : zcd wC 0 = 0) rfl) (Or.inl (hts _ (z_mem k242))) dX11_sign_1 ?_
  refine lv_iload_n hx hb dX11_sign_4 rfl (lv_at hl 1 rfl) ?_
  refine z_calli (va_runV (As := [.int (iI v)]) (rest := []) ⟨hx, hb, hml, hown, hts⟩ (n_add l D dA b M v r_v (by rw [g0])) (cwV 1 hts (z_gV k268 k269 k270 k2 k271) rfl rfl rfl dm_X7_add ⟨Nat.le_of_ble_eq_true rfl, Nat.le_of_ble_eq_true rfl⟩) ⟨zP_blind, (z_recv hS hK.1 (by decide) (zkd_of (rfl : zcd wC 1 = 1) rfl) (by decide) (rfl : vwCl[7]? = some (RX7, TX7, 7))), z_pre hS hK⟩ rfl rfl hl.1 rfl (lv_room (Nat.le_of_ble_eq_true rfl)) dX11_sign_5 ⟨Nat.le_refl _, Nat.le_refl _⟩) hS hS0 (zms_sub rfl) (fun z5 M1 H locs r6 h2 F3 hS hS0 => ?_)
  have J4 := hS.2.1
  have h7 := h2
  obtain ⟨z5e, h7⟩ := h7
  subst z5e
  exact z_iret hx hb hr hlocks hS hS0 (by decide) (by first | exact trivial | exact ⟨rfl, trivial⟩ | omega | (refine ⟨by omega, trivial⟩)) dX11_sign_8

set_option maxHeartbeats 4000000 in
set_option maxRecDepth 100000 in
theorem x_end (l : Launch) (D : va_G) (dA : Nat → ClassId) (b : Nat) (M : zM) (n : Int) (r_n : R32 n) (g0 : M 1 1 = 0) : Met l yX11_end (.code yX11_end cX11_end 2 (some .boolean) :: zt) (z_rm 1) (va_Pc [.ref (b + 0), .int (iI n)] (zP D dA vwCl (z_tys dA) wC nC b M)) (va_Qi (zQi wC (zms wC [65]) M (fun z M1 => (z = 1 ∧ n = 0) ∨ (z = 0 ∧ n ≠ 0))) (zB D dA vwCl wC nC b) (zA nC b)) 0 0 (zA nC b) := by
  refine Met.ofW (cc := cX11_end) (maxL := 2) (ret := (some .boolean)) (by decide) rfl ?_
  intro p e s m args below meth c s₁ B hml hv
  obtain ⟨hargs, hR0, hJ, hK⟩ := hv
  have hx := B.exec
  have hb := B.bytes
  have hr := B.returns
  have hts := atoms_spec (ws := .code yX11_end cX11_end 2 (some .boolean) :: zt) B.pre
  have hown : s.vm.findClass RX11 = some m.cls := findClass_of_methodNamed B.named
  have hlocks := B.notSynchronized
  have hS : zS D dA vwCl wC nC b (zms wC [65]) M M s.heap := ⟨hR0, hJ, zF_rf _ _⟩
  have hS0 : va_S (zA nC b) s.heap s.heap [] := va_S.rf
  have hl := lv_entry ([.ref (b + 0), .int (iI n)]) (n := 2) (Nat.le_of_ble_eq_true rfl)
  have hent : entryFrame m args 2 = F0 m 0 ((lg_sl ([.ref (b + 0), .int (iI n)]) ++ List.replicate (2 - (lg_sl ([.ref (b + 0), .int (iI n)])).length) Slot.unset).toArray) [] := by rw [hargs]; exact lg_entry_eq m ([.ref (b + 0), .int (iI n)]) 2
  rw [hent]
  generalize (lg_sl ([.ref (b + 0), .int (iI n)]) ++ List.replicate (2 - (lg_sl ([.ref (b + 0), .int (iI n)])).length) Slot.unset).toArray = ls at hl ⊢
  have hl : lv_has ls 2 [(0, .ref (b + 0)), (1, .int (iI n))] := hl
  refine lv_aload_n hx hb dX11_end_0 rfl (lv_at hl 0 rfl) ?_
  refine z_getr (j2 := 1) hx hb hts (z_memU u11) hown hK.1 hS f11_0 (by decide) (zkd_of (rfl : zcd wC 0 = 0) rfl) (zrf_of (rfl : zcd wC 0 = 0) rfl) (Or.inl (hts _ (z_mem k242))) dX11_end_1 ?_
  refine lv_iload_n hx hb dX11_end_4 rfl (lv_at hl 1 rfl) ?_
  refine z_calli (va_runV (As := [.int (iI n)]) (rest := []) ⟨hx, hb, hml, hown, hts⟩ (n_keepFirst l D dA b M n r_n (by rw [g0])) (cwV 1 hts (z_gV k276 k277 k278 k2 k279) rfl rfl rfl dm_X7_keepFirst ⟨Nat.le_of_ble_eq_true rfl, Nat.le_of_ble_eq_true rfl⟩) ⟨zP_blind, (z_recv hS hK.1 (by decide) (zkd_of (rfl : zcd wC 1 = 1) rfl) (by decide) (rfl : vwCl[7]? = some (RX7, TX7, 7))), z_pre hS hK⟩ rfl rfl hl.1 rfl (lv_room (Nat.le_of_ble_eq_true rfl)) dX11_end_5 ⟨Nat.le_refl _, Nat.le_refl _⟩) hS hS0 (zms_sub rfl) (fun z5 M1 H locs r6 h2 F3 hS hS0 => ?_)
  have J4 := hS.2.1
  rcases h2 with h7 | h8
  · skip
    obtain ⟨z5e, h7⟩ := h7
    subst z5e
    exact z_zret hx hb hr hlocks hS hS0 (by first | decide | omega) (by first | exact trivial | exact ⟨rfl, trivial⟩ | omega | (refine ⟨by omega, trivial⟩)) dX11_end_8
  · skip
    obtain ⟨z5e, h8⟩ := h8
    subst z5e
    exact z_zret hx hb hr hlocks hS hS0 (by first | decide | omega) (by first | exact trivial | exact ⟨rfl, trivial⟩ | omega | (refine ⟨by omega, trivial⟩)) dX11_end_8

set_option maxHeartbeats 4000000 in
set_option maxRecDepth 100000 in
theorem x_splice (l : Launch) (D : va_G) (dA : Nat → ClassId) (b : Nat) (M : zM) (g0 : M 1 1 = 0) : Met l yX11_splice (.code yX11_splice cX11_splice 1 (some .int) :: zt) (z_rm 2) (va_Pc [.ref (b + 0)] (zP D dA vwCl (z_tys dA) wC nC b M)) (va_Qi (zQi wC (zms wC [66, 65]) M (fun z M1 => z = -1 ∧ True)) (zB D dA vwCl wC nC b) (zA nC b)) 0 0 (zA nC b) := by
  refine Met.ofW (cc := cX11_splice) (maxL := 1) (ret := (some .int)) (by decide) rfl ?_
  intro p e s m args below meth c s₁ B hml hv
  obtain ⟨hargs, hR0, hJ, hK⟩ := hv
  have hx := B.exec
  have hb := B.bytes
  have hr := B.returns
  have hts := atoms_spec (ws := .code yX11_splice cX11_splice 1 (some .int) :: zt) B.pre
  have hown : s.vm.findClass RX11 = some m.cls := findClass_of_methodNamed B.named
  have hlocks := B.notSynchronized
  have hS : zS D dA vwCl wC nC b (zms wC [66, 65]) M M s.heap := ⟨hR0, hJ, zF_rf _ _⟩
  have hS0 : va_S (zA nC b) s.heap s.heap [] := va_S.rf
  have hl := lv_entry ([.ref (b + 0)]) (n := 1) (Nat.le_of_ble_eq_true rfl)
  have hent : entryFrame m args 1 = F0 m 0 ((lg_sl ([.ref (b + 0)]) ++ List.replicate (1 - (lg_sl ([.ref (b + 0)])).length) Slot.unset).toArray) [] := by rw [hargs]; exact lg_entry_eq m ([.ref (b + 0)]) 1
  rw [hent]
  generalize (lg_sl ([.ref (b + 0)]) ++ List.replicate (1 - (lg_sl ([.ref (b + 0)])).length) Slot.unset).toArray = ls at hl ⊢
  have hl : lv_has ls 1 [(0, .ref (b + 0))] := hl
  refine lv_aload_n hx hb dX11_splice_0 rfl (lv_at hl 0 rfl) ?_
  refine z_getr (j2 := 1) hx hb hts (z_memU u11) hown hK.1 hS f11_0 (by decide) (zkd_of (rfl : zcd wC 0 = 0) rfl) (zrf_of (rfl : zcd wC 0 = 0) rfl) (Or.inl (hts _ (z_mem k242))) dX11_splice_1 ?_
  refine lv_aload_n hx hb dX11_splice_4 rfl (lv_at hl 0 rfl) ?_
  refine z_getr (j2 := 30) hx hb hts (z_memU u11) hown hK.1 hS f11_1 (by decide) (zkd_of (rfl : zcd wC 0 = 0) rfl) (zrf_of (rfl : zcd wC 0 = 0) rfl) (Or.inl (hts _ (z_mem k243))) dX11_splice_5 ?_
  refine z_calli (va_runV (As := [.ref (b + 30)]) (rest := []) ⟨hx, hb, hml, hown, hts⟩ (n_putInto l D dA b M (by rw [g0])) (cwV 1 hts (z_gV k284 k285 k286 k2 k287) rfl rfl rfl dm_X7_putInto ⟨Nat.le_of_ble_eq_true rfl, Nat.le_of_ble_eq_true rfl⟩) ⟨zP_blind, (z_recv hS hK.1 (by decide) (zkd_of (rfl : zcd wC 1 = 1) rfl) (by decide) (rfl : vwCl[7]? = some (RX7, TX7, 7))), z_pre hS hK⟩ rfl rfl hl.1 rfl (lv_room (Nat.le_of_ble_eq_true rfl)) dX11_splice_8 ⟨Nat.le_refl _, Nat.le_refl _⟩) hS hS0 (zms_sub rfl) (fun z5 M1 H locs r6 h2 F3 hS hS0 => ?_)
  have J4 := hS.2.1
  have h7 := h2
  obtain ⟨z5e, h7⟩ := h7
  subst z5e
  exact z_iret hx hb hr hlocks hS hS0 (by decide) (by first | exact trivial | exact ⟨rfl, trivial⟩ | omega | (refine ⟨by omega, trivial⟩)) dX11_splice_11

set_option maxHeartbeats 4000000 in
set_option maxRecDepth 100000 in
theorem x_hand (l : Launch) (D : va_G) (dA : Nat → ClassId) (b : Nat) (M : zM) (i : Int) (r_i : R32 i) (g0 : M 30 1 = 0) : Met l yX11_hand (.code yX11_hand cX11_hand 2 (some .int) :: zt) (z_rm 2) (va_Pc [.ref (b + 0), .int (iI i)] (zP D dA vwCl (z_tys dA) wC nC b M)) (va_Qi (zQi wC (zms wC []) M (fun z M1 => M1 = M ∧ (z = -1 ∧ True))) (zB D dA vwCl wC nC b) (zA nC b)) 0 0 (zA nC b) := by
  refine Met.ofW (cc := cX11_hand) (maxL := 2) (ret := (some .int)) (by decide) rfl ?_
  intro p e s m args below meth c s₁ B hml hv
  obtain ⟨hargs, hR0, hJ, hK⟩ := hv
  have hx := B.exec
  have hb := B.bytes
  have hr := B.returns
  have hts := atoms_spec (ws := .code yX11_hand cX11_hand 2 (some .int) :: zt) B.pre
  have hown : s.vm.findClass RX11 = some m.cls := findClass_of_methodNamed B.named
  have hlocks := B.notSynchronized
  have hS : zS D dA vwCl wC nC b (zms wC []) M M s.heap := ⟨hR0, hJ, zF_rf _ _⟩
  have hS0 : va_S (zA nC b) s.heap s.heap [] := va_S.rf
  have hl := lv_entry ([.ref (b + 0), .int (iI i)]) (n := 2) (Nat.le_of_ble_eq_true rfl)
  have hent : entryFrame m args 2 = F0 m 0 ((lg_sl ([.ref (b + 0), .int (iI i)]) ++ List.replicate (2 - (lg_sl ([.ref (b + 0), .int (iI i)])).length) Slot.unset).toArray) [] := by rw [hargs]; exact lg_entry_eq m ([.ref (b + 0), .int (iI i)]) 2
  rw [hent]
  generalize (lg_sl ([.ref (b + 0), .int (iI i)]) ++ List.replicate (2 - (lg_sl ([.ref (b + 0), .int (iI i)])).length) Slot.unset).toArray = ls at hl ⊢
  have hl : lv_has ls 2 [(0, .ref (b + 0)), (1, .int (iI i))] := hl
  refine lv_aload_n hx hb dX11_hand_0 rfl (lv_at hl 0 rfl) ?_
  refine z_getr (j2 := 30) hx hb hts (z_memU u11) hown hK.1 hS f11_1 (by decide) (zkd_of (rfl : zcd wC 0 = 0) rfl) (zrf_of (rfl : zcd wC 0 = 0) rfl) (Or.inl (hts _ (z_mem k243))) dX11_hand_1 ?_
  refine lv_iload_n hx hb dX11_hand_4 rfl (lv_at hl 1 rfl) ?_
  refine z_calli (va_runV (As := [.int (iI i)]) (rest := []) ⟨hx, hb, hml, hown, hts⟩ (n_at l D dA b M i r_i (by rw [g0])) (cwV 1 hts (z_gV k371 k372 k373 k3 k374) rfl rfl rfl dm_X8_at ⟨Nat.le_of_ble_eq_true rfl, Nat.le_of_ble_eq_true rfl⟩) ⟨zP_blind, (z_recv hS hK.1 (by decide) (zkd_of (rfl : zcd wC 30 = 6) rfl) (by decide) (rfl : vwCl[8]? = some (RX8, TX8, 2))), z_pre hS hK⟩ rfl rfl hl.1 rfl (lv_room (Nat.le_of_ble_eq_true rfl)) dX11_hand_5 ⟨Nat.le_refl _, Nat.le_refl _⟩) hS hS0 (zms_sub rfl) (fun z5 M1 H locs r6 h2 F3 hS hS0 => ?_)
  obtain ⟨h7, h2⟩ := h2
  rw [h7] at hS
  have h8 := h2
  obtain ⟨z5e, h8⟩ := h8
  subst z5e
  exact z_iret hx hb hr hlocks hS hS0 (by decide) (⟨rfl, by first | exact trivial | exact ⟨rfl, trivial⟩ | omega | (refine ⟨by omega, trivial⟩)⟩) dX11_hand_8

set_option maxHeartbeats 4000000 in
set_option maxRecDepth 100000 in
theorem x_ring (l : Launch) (D : va_G) (dA : Nat → ClassId) (b : Nat) (M : zM) (mt : Int) (sa : Int) (r_mt : R32 mt) (r_sa : R32 sa) (g0 : M 30 1 = 0) : Met l yX11_ring (.code yX11_ring cX11_ring 3 (some .int) :: zt) (z_rm 2) (va_Pc [.ref (b + 0), .int (iI mt), .int (iI sa)] (zP D dA vwCl (z_tys dA) wC nC b M)) (va_Qi (zQi wC (zms wC []) M (fun z M1 => M1 = M ∧ (z = -1 ∧ True))) (zB D dA vwCl wC nC b) (zA nC b)) 0 0 (zA nC b) := by
  refine Met.ofW (cc := cX11_ring) (maxL := 3) (ret := (some .int)) (by decide) rfl ?_
  intro p e s m args below meth c s₁ B hml hv
  obtain ⟨hargs, hR0, hJ, hK⟩ := hv
  have hx := B.exec
  have hb := B.bytes
  have hr := B.returns
  have hts := atoms_spec (ws := .code yX11_ring cX11_ring 3 (some .int) :: zt) B.pre
  have hown : s.vm.findClass RX11 = some m.cls := findClass_of_methodNamed B.named
  have hlocks := B.notSynchronized
  have hS : zS D dA vwCl wC nC b (zms wC []) M M s.heap := ⟨hR0, hJ, zF_rf _ _⟩
  have hS0 : va_S (zA nC b) s.heap s.heap [] := va_S.rf
  have hl := lv_entry ([.ref (b + 0), .int (iI mt), .int (iI sa)]) (n := 3) (Nat.le_of_ble_eq_true rfl)
  have hent : entryFrame m args 3 = F0 m 0 ((lg_sl ([.ref (b + 0), .int (iI mt), .int (iI sa)]) ++ List.replicate (3 - (lg_sl ([.ref (b + 0), .int (iI mt), .int (iI sa)])).length) Slot.unset).toArray) [] := by rw [hargs]; exact lg_entry_eq m ([.ref (b + 0), .int (iI mt), .int (iI sa)]) 3
  rw [hent]
  generalize (lg_sl ([.ref (b + 0), .int (iI mt), .int (iI sa)]) ++ List.replicate (3 - (lg_sl ([.ref (b + 0), .int (iI mt), .int (iI sa)])).length) Slot.unset).toArray = ls at hl ⊢
  have hl : lv_has ls 3 [(0, .ref (b + 0)), (1, .int (iI mt)), (2, .int (iI sa))] := hl
  refine lv_iload_n hx hb dX11_ring_0 rfl (lv_at hl 1 rfl) ?_
  refine z_calli (va_runS (As := [.int (iI mt)]) (rest := []) ⟨hx, hb, hml, hown, hts⟩ (c_isMotor l D dA b M mt r_mt) (va_cwS 1 hts (z_gS k379 k380 k1 k381) rfl rfl rfl dm_X11_isMotor.2 ⟨Nat.le_of_ble_eq_true rfl, Nat.le_of_ble_eq_true rfl⟩) ⟨zP_blind, z_pre hS hK⟩ rfl rfl hl.1 rfl (lv_room (Nat.le_of_ble_eq_true rfl)) dX11_ring_1 ⟨Nat.le_refl _, Nat.le_refl _⟩) hS hS0 (zms_sub rfl) (fun z5 M1 H locs r6 h2 F3 hS hS0 => ?_)
  obtain ⟨h7, h2⟩ := h2
  rw [h7] at hS
  rcases h2 with h8 | h9
  · skip
    obtain ⟨z5e, h8⟩ := h8
    subst z5e
    refine z_if_eq (tgt := 18) hx hb (by decide) dX11_ring_4 (by decide) (fun c10 => absurd c10 (by decide)) (fun c10 => ?_)
    refine lv_aload_n hx hb dX11_ring_7 rfl (lv_at hl 0 rfl) ?_
    refine z_getr (j2 := 30) hx hb hts (z_memU u11) hown hK.1 hS f11_1 (by decide) (zkd_of (rfl : zcd wC 0 = 0) rfl) (zrf_of (rfl : zcd wC 0 = 0) rfl) (Or.inl (hts _ (z_mem k243))) dX11_ring_8 ?_
    refine lv_iload_n hx hb dX11_ring_11 rfl (lv_at hl 2 rfl) ?_
    refine z_calli (va_runV (As := [.int (iI sa)]) (rest := []) ⟨hx, hb, hml, hown, hts⟩ (n_has l D dA b M sa r_sa (by rw [g0])) (cwV 1 hts (z_gV k385 k327 k328 k3 k329) rfl rfl rfl dm_X8_has ⟨Nat.le_of_ble_eq_true rfl, Nat.le_of_ble_eq_true rfl⟩) ⟨zP_blind, (z_recv hS hK.1 (by decide) (zkd_of (rfl : zcd wC 30 = 6) rfl) (by decide) (rfl : vwCl[8]? = some (RX8, TX8, 2))), z_pre hS hK⟩ rfl rfl hl.1 rfl (lv_room (Nat.le_of_ble_eq_true rfl)) dX11_ring_12 ⟨Nat.le_refl _, Nat.le_refl _⟩) hS hS0 (zms_sub rfl) (fun z15 M11 H locs r16 h12 F13 hS hS0 => ?_)
    obtain ⟨h17, h12⟩ := h12
    rw [h17] at hS
    have h18 := h12
    obtain ⟨z15e, h18⟩ := h18
    subst z15e
    refine z_if_ne (tgt := 20) hx hb (by decide) dX11_ring_15 (by decide) (fun c19 => absurd c19 (by decide)) (fun c19 => ?_)
    refine z_iconst hx hb dX11_ring_18 ?_
    exact z_iret hx hb hr hlocks hS hS0 (by decide) (⟨rfl, by first | exact trivial | exact ⟨rfl, trivial⟩ | omega | (refine ⟨by omega, trivial⟩)⟩) dX11_ring_19
  · skip
    obtain ⟨z5e, h9⟩ := h9
    subst z5e
    refine z_if_eq (tgt := 18) hx hb (by decide) dX11_ring_4 (by decide) (fun c20 => ?_) (fun c20 => absurd c20 (by decide))
    refine z_iconst hx hb dX11_ring_18 ?_
    exact z_iret hx hb hr hlocks hS hS0 (by decide) (⟨rfl, by first | exact trivial | exact ⟨rfl, trivial⟩ | omega | (refine ⟨by omega, trivial⟩)⟩) dX11_ring_19

set_option maxHeartbeats 4000000 in
set_option maxRecDepth 100000 in
theorem x_over (l : Launch) (D : va_G) (dA : Nat → ClassId) (b : Nat) (M : zM) (rg : Int) (ic : Int) (wh : Int) (r_rg : R32 rg) (r_ic : R32 ic) (r_wh : R32 wh) (g0 : M 32 2 = 0) : Met l yX11_over (.code yX11_over cX11_over 5 (some .int) :: zt) (z_rm 1) (va_Pc [.ref (b + 0), .int (iI rg), .int (iI ic), .int (iI wh)] (zP D dA vwCl (z_tys dA) wC nC b M)) (va_Qi (zQi wC (zms wC []) M (fun z M1 => M1 = M ∧ (z = -1 ∧ True))) (zB D dA vwCl wC nC b) (zA nC b)) 0 0 (zA nC b) := by
  refine Met.ofW (cc := cX11_over) (maxL := 5) (ret := (some .int)) (by decide) rfl ?_
  intro p e s m args below meth c s₁ B hml hv
  obtain ⟨hargs, hR0, hJ, hK⟩ := hv
  have hx := B.exec
  have hb := B.bytes
  have hr := B.returns
  have hts := atoms_spec (ws := .code yX11_over cX11_over 5 (some .int) :: zt) B.pre
  have hown : s.vm.findClass RX11 = some m.cls := findClass_of_methodNamed B.named
  have hlocks := B.notSynchronized
  have hS : zS D dA vwCl wC nC b (zms wC []) M M s.heap := ⟨hR0, hJ, zF_rf _ _⟩
  have hS0 : va_S (zA nC b) s.heap s.heap [] := va_S.rf
  have hl := lv_entry ([.ref (b + 0), .int (iI rg), .int (iI ic), .int (iI wh)]) (n := 5) (Nat.le_of_ble_eq_true rfl)
  have hent : entryFrame m args 5 = F0 m 0 ((lg_sl ([.ref (b + 0), .int (iI rg), .int (iI ic), .int (iI wh)]) ++ List.replicate (5 - (lg_sl ([.ref (b + 0), .int (iI rg), .int (iI ic), .int (iI wh)])).length) Slot.unset).toArray) [] := by rw [hargs]; exact lg_entry_eq m ([.ref (b + 0), .int (iI rg), .int (iI ic), .int (iI wh)]) 5
  rw [hent]
  generalize (lg_sl ([.ref (b + 0), .int (iI rg), .int (iI ic), .int (iI wh)]) ++ List.replicate (5 - (lg_sl ([.ref (b + 0), .int (iI rg), .int (iI ic), .int (iI wh)])).length) Slot.unset).toArray = ls at hl ⊢
  have hl : lv_has ls 5 [(0, .ref (b + 0)), (1, .int (iI rg)), (2, .int (iI ic)), (3, .int (iI wh))] := hl
  refine lv_aload_n hx hb dX11_over_0 rfl (lv_at hl 0 rfl) ?_
  refine z_getr (j2 := 32) hx hb hts (z_memU u11) hown hK.1 hS f11_2 (by decide) (zkd_of (rfl : zcd wC 0 = 0) rfl) (zrf_of (rfl : zcd wC 0 = 0) rfl) (Or.inl (hts _ (z_mem k244))) dX11_over_1 ?_
  refine lv_iload_n hx hb dX11_over_4 rfl (lv_at hl 1 rfl) ?_
  refine z_callq (va_runV (As := [.int (iI rg)]) (rest := []) ⟨hx, hb, hml, hown, hts⟩ (n_find l D dA b M rg r_rg (by rw [g0])) (cwV 1 hts (z_gV k411 k412 k413 k4 k414) rfl rfl rfl dm_X9_find ⟨Nat.le_of_ble_eq_true rfl, Nat.le_of_ble_eq_true rfl⟩) ⟨zP_blind, (z_recv hS hK.1 (by decide) (zkd_of (rfl : zcd wC 32 = 8) rfl) (by decide) (rfl : vwCl[9]? = some (RX9, TX9, 3))), z_pre hS hK⟩ rfl rfl hl.1 rfl (lv_room (Nat.le_of_ble_eq_true rfl)) dX11_over_5 ⟨Nat.le_refl _, Nat.le_refl _⟩) hS hS0 (zms_sub rfl) (fun z5 M1 H locs h2 F3 hS hS0 => ?_)
  obtain ⟨h6, h2⟩ := h2
  rw [h6] at hS
  have h7 := h2
  obtain ⟨z5e, h7⟩ := h7
  subst z5e
  show W _ _ _ _ _ _ _ _ _ _ _ _ _ _ _ (F0 m _ ls (.null :: []))
  refine lv_astoreN (lv' := [(4, .null), (0, .ref (b + 0)), (1, .int (iI rg)), (2, .int (iI ic)), (3, .int (iI wh))]) hx hb dX11_over_8 hl (by decide) rfl (fun ls hl => ?_)
  refine lv_aloadN hx hb dX11_over_10 (lv_at hl 0 rfl) ?_
  refine lv_ifnullN (tgt := 46) hx hb dX11_over_12 (by decide) ?_
  refine z_iconst hx hb dX11_over_46 ?_
  exact z_iret hx hb hr hlocks hS hS0 (by decide) (⟨rfl, by first | exact trivial | exact ⟨rfl, trivial⟩ | omega | (refine ⟨by omega, trivial⟩)⟩) dX11_over_47

set_option maxHeartbeats 4000000 in
set_option maxRecDepth 100000 in
theorem x_set (l : Launch) (D : va_G) (dA : Nat → ClassId) (b : Nat) (M : zM) (rg : Int) (wh : Int) (v : Int) (r_rg : R32 rg) (r_wh : R32 wh) (r_v : R32 v) (g0 : M 32 2 = 0) : Met l yX11_set (.code yX11_set cX11_set 6 (some .int) :: zt) (z_rm 1) (va_Pc [.ref (b + 0), .int (iI rg), .int (iI wh), .int (iI v)] (zP D dA vwCl (z_tys dA) wC nC b M)) (va_Qi (zQi wC (zms wC []) M (fun z M1 => M1 = M ∧ (z = -1 ∧ True))) (zB D dA vwCl wC nC b) (zA nC b)) 0 0 (zA nC b) := by
  refine Met.ofW (cc := cX11_set) (maxL := 6) (ret := (some .int)) (by decide) rfl ?_
  intro p e s m args below meth c s₁ B hml hv
  obtain ⟨hargs, hR0, hJ, hK⟩ := hv
  have hx := B.exec
  have hb := B.bytes
  have hr := B.returns
  have hts := atoms_spec (ws := .code yX11_set cX11_set 6 (some .int) :: zt) B.pre
  have hown : s.vm.findClass RX11 = some m.cls := findClass_of_methodNamed B.named
  have hlocks := B.notSynchronized
  have hS : zS D dA vwCl wC nC b (zms wC []) M M s.heap := ⟨hR0, hJ, zF_rf _ _⟩
  have hS0 : va_S (zA nC b) s.heap s.heap [] := va_S.rf
  have hl := lv_entry ([.ref (b + 0), .int (iI rg), .int (iI wh), .int (iI v)]) (n := 6) (Nat.le_of_ble_eq_true rfl)
  have hent : entryFrame m args 6 = F0 m 0 ((lg_sl ([.ref (b + 0), .int (iI rg), .int (iI wh), .int (iI v)]) ++ List.replicate (6 - (lg_sl ([.ref (b + 0), .int (iI rg), .int (iI wh), .int (iI v)])).length) Slot.unset).toArray) [] := by rw [hargs]; exact lg_entry_eq m ([.ref (b + 0), .int (iI rg), .int (iI wh), .int (iI v)]) 6
  rw [hent]
  generalize (lg_sl ([.ref (b + 0), .int (iI rg), .int (iI wh), .int (iI v)]) ++ List.replicate (6 - (lg_sl ([.ref (b + 0), .int (iI rg), .int (iI wh), .int (iI v)])).length) Slot.unset).toArray = ls at hl ⊢
  have hl : lv_has ls 6 [(0, .ref (b + 0)), (1, .int (iI rg)), (2, .int (iI wh)), (3, .int (iI v))] := hl
  refine lv_aload_n hx hb dX11_set_0 rfl (lv_at hl 0 rfl) ?_
  refine z_getr (j2 := 32) hx hb hts (z_memU u11) hown hK.1 hS f11_2 (by decide) (zkd_of (rfl : zcd wC 0 = 0) rfl) (zrf_of (rfl : zcd wC 0 = 0) rfl) (Or.inl (hts _ (z_mem k244))) dX11_set_1 ?_
  refine lv_iload_n hx hb dX11_set_4 rfl (lv_at hl 1 rfl) ?_
  refine z_callq (va_runV (As := [.int (iI rg)]) (rest := []) ⟨hx, hb, hml, hown, hts⟩ (n_find l D dA b M rg r_rg (by rw [g0])) (cwV 1 hts (z_gV k411 k412 k413 k4 k414) rfl rfl rfl dm_X9_find ⟨Nat.le_of_ble_eq_true rfl, Nat.le_of_ble_eq_true rfl⟩) ⟨zP_blind, (z_recv hS hK.1 (by decide) (zkd_of (rfl : zcd wC 32 = 8) rfl) (by decide) (rfl : vwCl[9]? = some (RX9, TX9, 3))), z_pre hS hK⟩ rfl rfl hl.1 rfl (lv_room (Nat.le_of_ble_eq_true rfl)) dX11_set_5 ⟨Nat.le_refl _, Nat.le_refl _⟩) hS hS0 (zms_sub rfl) (fun z5 M1 H locs h2 F3 hS hS0 => ?_)
  obtain ⟨h6, h2⟩ := h2
  rw [h6] at hS
  have h7 := h2
  obtain ⟨z5e, h7⟩ := h7
  subst z5e
  show W _ _ _ _ _ _ _ _ _ _ _ _ _ _ _ (F0 m _ ls (.null :: []))
  refine lv_astoreN (lv' := [(4, .null), (0, .ref (b + 0)), (1, .int (iI rg)), (2, .int (iI wh)), (3, .int (iI v))]) hx hb dX11_set_8 hl (by decide) rfl (fun ls hl => ?_)
  refine lv_aloadN hx hb dX11_set_10 (lv_at hl 0 rfl) ?_
  refine lv_ifnonnullN hx hb dX11_set_12 ?_
  refine z_iconst hx hb dX11_set_15 ?_
  exact z_iret hx hb hr hlocks hS hS0 (by decide) (⟨rfl, by first | exact trivial | exact ⟨rfl, trivial⟩ | omega | (refine ⟨by omega, trivial⟩)⟩) dX11_set_16

set_option maxHeartbeats 4000000 in
set_option maxRecDepth 100000 in
theorem x_head (l : Launch) (D : va_G) (dA : Nat → ClassId) (b : Nat) (M : zM) (rg : Int) (of : Int) (is_ : Int) (r_rg : R32 rg) (r_of : R32 of) (r_is_ : is_ = 0 ∨ is_ = 1) (g0 : M 32 2 = 0) : Met l yX11_head (.code yX11_head cX11_head 5 (some .int) :: zt) (z_rm 1) (va_Pc [.ref (b + 0), .int (iI rg), .int (iI of), .int (iI is_)] (zP D dA vwCl (z_tys dA) wC nC b M)) (va_Qi (zQi wC (zms wC []) M (fun z M1 => M1 = M ∧ (z = -1 ∧ True))) (zB D dA vwCl wC nC b) (zA nC b)) 0 0 (zA nC b) := by
  refine Met.ofW (cc := cX11_head) (maxL := 5) (ret := (some .int)) (by decide) rfl ?_
  intro p e s m args below meth c s₁ B hml hv
  obtain ⟨hargs, hR0, hJ, hK⟩ := hv
  have hx := B.exec
  have hb := B.bytes
  have hr := B.returns
  have hts := atoms_spec (ws := .code yX11_head cX11_head 5 (some .int) :: zt) B.pre
  have hown : s.vm.findClass RX11 = some m.cls := findClass_of_methodNamed B.named
  have hlocks := B.notSynchronized
  have hS : zS D dA vwCl wC nC b (zms wC []) M M s.heap := ⟨hR0, hJ, zF_rf _ _⟩
  have hS0 : va_S (zA nC b) s.heap s.heap [] := va_S.rf
  have hl := lv_entry ([.ref (b + 0), .int (iI rg), .int (iI of), .int (iI is_)]) (n := 5) (Nat.le_of_ble_eq_true rfl)
  have hent : entryFrame m args 5 = F0 m 0 ((lg_sl ([.ref (b + 0), .int (iI rg), .int (iI of), .int (iI is_)]) ++ List.replicate (5 - (lg_sl ([.ref (b + 0), .int (iI rg), .int (iI of), .int (iI is_)])).length) Slot.unset).toArray) [] := by rw [hargs]; exact lg_entry_eq m ([.ref (b + 0), .int (iI rg), .int (iI of), .int (iI is_)]) 5
  rw [hent]
  generalize (lg_sl ([.ref (b + 0), .int (iI rg), .int (iI of), .int (iI is_)]) ++ List.replicate (5 - (lg_sl ([.ref (b + 0), .int (iI rg), .int (iI of), .int (iI is_)])).length) Slot.unset).toArray = ls at hl ⊢
  have hl : lv_has ls 5 [(0, .ref (b + 0)), (1, .int (iI rg)), (2, .int (iI of)), (3, .int (iI is_))] := hl
  refine lv_aload_n hx hb dX11_head_0 rfl (lv_at hl 0 rfl) ?_
  refine z_getr (j2 := 32) hx hb hts (z_memU u11) hown hK.1 hS f11_2 (by decide) (zkd_of (rfl : zcd wC 0 = 0) rfl) (zrf_of (rfl : zcd wC 0 = 0) rfl) (Or.inl (hts _ (z_mem k244))) dX11_head_1 ?_
  refine lv_iload_n hx hb dX11_head_4 rfl (lv_at hl 1 rfl) ?_
  refine z_callq (va_runV (As := [.int (iI rg)]) (rest := []) ⟨hx, hb, hml, hown, hts⟩ (n_find l D dA b M rg r_rg (by rw [g0])) (cwV 1 hts (z_gV k411 k412 k413 k4 k414) rfl rfl rfl dm_X9_find ⟨Nat.le_of_ble_eq_true rfl, Nat.le_of_ble_eq_true rfl⟩) ⟨zP_blind, (z_recv hS hK.1 (by decide) (zkd_of (rfl : zcd wC 32 = 8) rfl) (by decide) (rfl : vwCl[9]? = some (RX9, TX9, 3))), z_pre hS hK⟩ rfl rfl hl.1 rfl (lv_room (Nat.le_of_ble_eq_true rfl)) dX11_head_5 ⟨Nat.le_refl _, Nat.le_refl _⟩) hS hS0 (zms_sub rfl) (fun z5 M1 H locs h2 F3 hS hS0 => ?_)
  obtain ⟨h6, h2⟩ := h2
  rw [h6] at hS
  have h7 := h2
  obtain ⟨z5e, h7⟩ := h7
  subst z5e
  show W _ _ _ _ _ _ _ _ _ _ _ _ _ _ _ (F0 m _ ls (.null :: []))
  refine lv_astoreN (lv' := [(4, .null), (0, .ref (b + 0)), (1, .int (iI rg)), (2, .int (iI of)), (3, .int (iI is_))]) hx hb dX11_head_8 hl (by decide) rfl (fun ls hl => ?_)
  refine lv_aloadN hx hb dX11_head_10 (lv_at hl 0 rfl) ?_
  refine lv_ifnullN (tgt := 25) hx hb dX11_head_12 (by decide) ?_
  refine z_iconst hx hb dX11_head_25 ?_
  exact z_iret hx hb hr hlocks hS hS0 (by decide) (⟨rfl, by first | exact trivial | exact ⟨rfl, trivial⟩ | omega | (refine ⟨by omega, trivial⟩)⟩) dX11_head_26

set_option maxHeartbeats 4000000 in
set_option maxRecDepth 100000 in
theorem x_motor (l : Launch) (D : va_G) (dA : Nat → ClassId) (b : Nat) (M : zM) (mt : Int) (tk : Int) (sp : Int) (r_mt : R32 mt) (r_tk : R32 tk) (r_sp : R32 sp) (g0 : M 35 2 = 0) (g1 : M 38 2 = 0) : Met l yX11_motor (.code yX11_motor cX11_motor 4 (some .boolean) :: zt) (z_rm 2) (va_Pc [.ref (b + 0), .int (iI mt), .int (iI tk), .int (iI sp)] (zP D dA vwCl (z_tys dA) wC nC b M)) (va_Qi (zQi wC (zms wC [706, 831, 895]) M (fun z M1 => (z = 1 ∧ (0 ≤ mt ∧ mt ≤ 1) ∧ (0 ≤ tk ∧ tk ≤ 5000) ∧ -9 ≤ sp ∧ sp ≤ 9) ∨ (z = 0 ∧ ¬ ((0 ≤ mt ∧ mt ≤ 1) ∧ (0 ≤ tk ∧ tk ≤ 5000) ∧ -9 ≤ sp ∧ sp ≤ 9)))) (zB D dA vwCl wC nC b) (zA nC b)) 0 0 (zA nC b) := by
  refine Met.ofW (cc := cX11_motor) (maxL := 4) (ret := (some .boolean)) (by decide) rfl ?_
  intro p e s m args below meth c s₁ B hml hv
  obtain ⟨hargs, hR0, hJ, hK⟩ := hv
  have hx := B.exec
  have hb := B.bytes
  have hr := B.returns
  have hts := atoms_spec (ws := .code yX11_motor cX11_motor 4 (some .boolean) :: zt) B.pre
  have hown : s.vm.findClass RX11 = some m.cls := findClass_of_methodNamed B.named
  have hlocks := B.notSynchronized
  have hS : zS D dA vwCl wC nC b (zms wC [706, 831, 895]) M M s.heap := ⟨hR0, hJ, zF_rf _ _⟩
  have hS0 : va_S (zA nC b) s.heap s.heap [] := va_S.rf
  have hl := lv_entry ([.ref (b + 0), .int (iI mt), .int (iI tk), .int (iI sp)]) (n := 4) (Nat.le_of_ble_eq_true rfl)
  have hent : entryFrame m args 4 = F0 m 0 ((lg_sl ([.ref (b + 0), .int (iI mt), .int (iI tk), .int (iI sp)]) ++ List.replicate (4 - (lg_sl ([.ref (b + 0), .int (iI mt), .int (iI tk), .int (iI sp)])).length) Slot.unset).toArray) [] := by rw [hargs]; exact lg_entry_eq m ([.ref (b + 0), .int (iI mt), .int (iI tk), .int (iI sp)]) 4
  rw [hent]
  generalize (lg_sl ([.ref (b + 0), .int (iI mt), .int (iI tk), .int (iI sp)]) ++ List.replicate (4 - (lg_sl ([.ref (b + 0), .int (iI mt), .int (iI tk), .int (iI sp)])).length) Slot.unset).toArray = ls at hl ⊢
  have hl : lv_has ls 4 [(0, .ref (b + 0)), (1, .int (iI mt)), (2, .int (iI tk)), (3, .int (iI sp))] := hl
  refine lv_iload_n hx hb dX11_motor_0 rfl (lv_at hl 1 rfl) ?_
  refine z_calli (va_runS (As := [.int (iI mt)]) (rest := []) ⟨hx, hb, hml, hown, hts⟩ (c_isMotor l D dA b M mt r_mt) (va_cwS 1 hts (z_gS k379 k380 k1 k381) rfl rfl rfl dm_X11_isMotor.2 ⟨Nat.le_of_ble_eq_true rfl, Nat.le_of_ble_eq_true rfl⟩) ⟨zP_blind, z_pre hS hK⟩ rfl rfl hl.1 rfl (lv_room (Nat.le_of_ble_eq_true rfl)) dX11_motor_1 ⟨Nat.le_refl _, Nat.le_refl _⟩) hS hS0 (zms_sub rfl) (fun z5 M1 H locs r6 h2 F3 hS hS0 => ?_)
  obtain ⟨h7, h2⟩ := h2
  rw [h7] at hS
  rcases h2 with h8 | h9
  · skip
    obtain ⟨z5e, h8⟩ := h8
    subst z5e
    refine z_if_eq (tgt := 29) hx hb (by decide) dX11_motor_4 (by decide) (fun c10 => absurd c10 (by decide)) (fun c10 => ?_)
    refine lv_iload_n hx hb dX11_motor_7 rfl (lv_at hl 2 rfl) ?_
    refine z_iconst hx hb dX11_motor_8 ?_
    refine z_sipush hx hb (by decide) dX11_motor_9 ?_
    refine z_calli (va_runS (As := [.int (iI tk), .int (iI 0), .int (iI 5000)]) (rest := []) ⟨hx, hb, hml, hown, hts⟩ (c_within l D dA b M tk 0 5000 r_tk (by decide) (by decide)) (va_cwS 3 hts (z_gS k382 k383 k1 k384) rfl rfl rfl dm_X11_within.2 ⟨Nat.le_of_ble_eq_true rfl, Nat.le_of_ble_eq_true rfl⟩) ⟨zP_blind, z_pre hS hK⟩ rfl rfl hl.1 rfl (lv_room (Nat.le_of_ble_eq_true rfl)) dX11_motor_12 ⟨Nat.le_refl _, Nat.le_refl _⟩) hS hS0 (zms_sub rfl) (fun z15 M11 H locs r16 h12 F13 hS hS0 => ?_)
    obtain ⟨h17, h12⟩ := h12
    rw [h17] at hS
    rcases h12 with h18 | h19
    · skip
      obtain ⟨z15e, h18⟩ := h18
      subst z15e
      refine z_if_eq (tgt := 29) hx hb (by decide) dX11_motor_15 (by decide) (fun c20 => absurd c20 (by decide)) (fun c20 => ?_)
      refine lv_iload_n hx hb dX11_motor_18 rfl (lv_at hl 3 rfl) ?_
      refine z_bipush hx hb (by decide) dX11_motor_19 ?_
      refine z_bipush hx hb (by decide) dX11_motor_21 ?_
      refine z_calli (va_runS (As := [.int (iI sp), .int (iI (-9)), .int (iI 9)]) (rest := []) ⟨hx, hb, hml, hown, hts⟩ (c_within l D dA b M sp (-9) 9 r_sp (by decide) (by decide)) (va_cwS 3 hts (z_gS k382 k383 k1 k384) rfl rfl rfl dm_X11_within.2 ⟨Nat.le_of_ble_eq_true rfl, Nat.le_of_ble_eq_true rfl⟩) ⟨zP_blind, z_pre hS hK⟩ rfl rfl hl.1 rfl (lv_room (Nat.le_of_ble_eq_true rfl)) dX11_motor_23 ⟨Nat.le_refl _, Nat.le_refl _⟩) hS hS0 (zms_sub rfl) (fun z25 M21 H locs r26 h22 F23 hS hS0 => ?_)
      obtain ⟨h27, h22⟩ := h22
      rw [h27] at hS
      rcases h22 with h28 | h29
      · skip
        obtain ⟨z25e, h28⟩ := h28
        subst z25e
        refine z_if_ne (tgt := 31) hx hb (by decide) dX11_motor_26 (by decide) (fun c30 => ?_) (fun c30 => absurd c30 (by decide))
        refine lv_aload_n hx hb dX11_motor_31 rfl (lv_at hl 0 rfl) ?_
        refine z_getr (j2 := 32) hx hb hts (z_memU u11) hown hK.1 hS f11_2 (by decide) (zkd_of (rfl : zcd wC 0 = 0) rfl) (zrf_of (rfl : zcd wC 0 = 0) rfl) (Or.inl (hts _ (z_mem k244))) dX11_motor_32 ?_
        refine lv_iload_n hx hb dX11_motor_35 rfl (lv_at hl 1 rfl) ?_
        refine z_callq (va_runV (As := [.int (iI mt)]) (rest := []) ⟨hx, hb, hml, hown, hts⟩ (n_motorOf l D dA b M mt r_mt) (cwV 1 hts (z_gV k442 k443 k444 k4 k445) rfl rfl rfl dm_X9_motorOf ⟨Nat.le_of_ble_eq_true rfl, Nat.le_of_ble_eq_true rfl⟩) ⟨zP_blind, (z_recv hS hK.1 (by decide) (zkd_of (rfl : zcd wC 32 = 8) rfl) (by decide) (rfl : vwCl[9]? = some (RX9, TX9, 3))), z_pre hS hK⟩ rfl rfl hl.1 rfl (lv_room (Nat.le_of_ble_eq_true rfl)) dX11_motor_36 ⟨Nat.le_refl _, Nat.le_refl _⟩) hS hS0 (zms_sub rfl) (fun z35 M31 H locs h32 F33 hS hS0 => ?_)
        obtain ⟨h36, h32⟩ := h32
        rw [h36] at hS
        rcases h32 with h37 | h38
        · skip
          obtain ⟨z35e, h37⟩ := h37
          subst z35e
          show W _ _ _ _ _ _ _ _ _ _ _ _ _ _ _ (F0 m _ ls (.ref (b + 35) :: []))
          refine lv_iload_n hx hb dX11_motor_39 rfl (lv_at hl 2 rfl) ?_
          refine lv_iload_n hx hb dX11_motor_40 rfl (lv_at hl 3 rfl) ?_
          refine z_calli (va_runV (As := [.int (iI tk), .int (iI sp)]) (rest := []) ⟨hx, hb, hml, hown, hts⟩ (n_tell35 l D dA b M tk sp r_tk r_sp (by rw [g0]) (by omega) (by omega)) (cwV 2 hts (z_gV k446 k447 k448 k5 k449) rfl rfl rfl dm_X2_tell ⟨Nat.le_of_ble_eq_true rfl, Nat.le_of_ble_eq_true rfl⟩) ⟨zP_blind, (z_recv hS hK.1 (by decide) (zkd_of (rfl : zcd wC 35 = 11) rfl) (by decide) (rfl : vwCl[2]? = some (RX2, TX2, 3))), z_pre hS hK⟩ rfl rfl hl.1 rfl (lv_room (Nat.le_of_ble_eq_true rfl)) dX11_motor_41 ⟨Nat.le_refl _, Nat.le_refl _⟩) hS hS0 (zms_sub rfl) (fun z43 M39 H locs r44 h40 F41 hS hS0 => ?_)
          have J42 := hS.2.1
          have h45 := h40
          obtain ⟨z43e, h45⟩ := h45
          subst z43e
          exact z_zret hx hb hr hlocks hS hS0 (by first | decide | omega) (by first | exact trivial | exact ⟨rfl, trivial⟩ | omega | (refine ⟨by omega, trivial⟩)) dX11_motor_44
        · skip
          obtain ⟨z35e, h38⟩ := h38
          subst z35e
          show W _ _ _ _ _ _ _ _ _ _ _ _ _ _ _ (F0 m _ ls (.ref (b + 38) :: []))
          refine lv_iload_n hx hb dX11_motor_39 rfl (lv_at hl 2 rfl) ?_
          refine lv_iload_n hx hb dX11_motor_40 rfl (lv_at hl 3 rfl) ?_
          refine z_calli (va_runV (As := [.int (iI tk), .int (iI sp)]) (rest := []) ⟨hx, hb, hml, hown, hts⟩ (n_tell38 l D dA b M tk sp r_tk r_sp (by rw [g1]) (by omega) (by omega)) (cwV 2 hts (z_gV k446 k447 k448 k5 k449) rfl rfl rfl dm_X2_tell ⟨Nat.le_of_ble_eq_true rfl, Nat.le_of_ble_eq_true rfl⟩) ⟨zP_blind, (z_recv hS hK.1 (by decide) (zkd_of (rfl : zcd wC 38 = 11) rfl) (by decide) (rfl : vwCl[2]? = some (RX2, TX2, 3))), z_pre hS hK⟩ rfl rfl hl.1 rfl (lv_room (Nat.le_of_ble_eq_true rfl)) dX11_motor_41 ⟨Nat.le_refl _, Nat.le_refl _⟩) hS hS0 (zms_sub rfl) (fun z50 M46 H locs r51 h47 F48 hS hS0 => ?_)
          have J49 := hS.2.1
          have h52 := h47
          obtain ⟨z50e, h52⟩ := h52
          subst z50e
          exact z_zret hx hb hr hlocks hS hS0 (by first | decide | omega) (by first | exact trivial | exact ⟨rfl, trivial⟩ | omega | (refine ⟨by omega, trivial⟩)) dX11_motor_44
      · skip
        obtain ⟨z25e, h29⟩ := h29
        subst z25e
        refine z_if_ne (tgt := 31) hx hb (by decide) dX11_motor_26 (by decide) (fun c53 => absurd c53 (by decide)) (fun c53 => ?_)
        refine z_iconst hx hb dX11_motor_29 ?_
        exact z_zret hx hb hr hlocks hS hS0 (by first | decide | omega) (by first | exact trivial | exact ⟨rfl, trivial⟩ | omega | (refine ⟨by omega, trivial⟩)) dX11_motor_30
    · skip
      obtain ⟨z15e, h19⟩ := h19
      subst z15e
      refine z_if_eq (tgt := 29) hx hb (by decide) dX11_motor_15 (by decide) (fun c54 => ?_) (fun c54 => absurd c54 (by decide))
      refine z_iconst hx hb dX11_motor_29 ?_
      exact z_zret hx hb hr hlocks hS hS0 (by first | decide | omega) (by first | exact trivial | exact ⟨rfl, trivial⟩ | omega | (refine ⟨by omega, trivial⟩)) dX11_motor_30
  · skip
    obtain ⟨z5e, h9⟩ := h9
    subst z5e
    refine z_if_eq (tgt := 29) hx hb (by decide) dX11_motor_4 (by decide) (fun c55 => ?_) (fun c55 => absurd c55 (by decide))
    refine z_iconst hx hb dX11_motor_29 ?_
    exact z_zret hx hb hr hlocks hS hS0 (by first | decide | omega) (by first | exact trivial | exact ⟨rfl, trivial⟩ | omega | (refine ⟨by omega, trivial⟩)) dX11_motor_30

set_option maxHeartbeats 4000000 in
set_option maxRecDepth 100000 in
theorem x_clear (l : Launch) (D : va_G) (dA : Nat → ClassId) (b : Nat) (M : zM) (g0 : M 32 2 = 0) : Met l yX11_clear (.code yX11_clear cX11_clear 1 (some .int) :: zt) (z_rm 2) (va_Pc [.ref (b + 0)] (zP D dA vwCl (z_tys dA) wC nC b M)) (va_Qi (zQi wC (zms wC [1218, 514, 706]) M (fun z M1 => z = 0 ∧ True)) (zB D dA vwCl wC nC b) (zA nC b)) 0 0 (zA nC b) := by
  refine Met.ofW (cc := cX11_clear) (maxL := 1) (ret := (some .int)) (by decide) rfl ?_
  intro p e s m args below meth c s₁ B hml hv
  obtain ⟨hargs, hR0, hJ, hK⟩ := hv
  have hx := B.exec
  have hb := B.bytes
  have hr := B.returns
  have hts := atoms_spec (ws := .code yX11_clear cX11_clear 1 (some .int) :: zt) B.pre
  have hown : s.vm.findClass RX11 = some m.cls := findClass_of_methodNamed B.named
  have hlocks := B.notSynchronized
  have hS : zS D dA vwCl wC nC b (zms wC [1218, 514, 706]) M M s.heap := ⟨hR0, hJ, zF_rf _ _⟩
  have hS0 : va_S (zA nC b) s.heap s.heap [] := va_S.rf
  have hl := lv_entry ([.ref (b + 0)]) (n := 1) (Nat.le_of_ble_eq_true rfl)
  have hent : entryFrame m args 1 = F0 m 0 ((lg_sl ([.ref (b + 0)]) ++ List.replicate (1 - (lg_sl ([.ref (b + 0)])).length) Slot.unset).toArray) [] := by rw [hargs]; exact lg_entry_eq m ([.ref (b + 0)]) 1
  rw [hent]
  generalize (lg_sl ([.ref (b + 0)]) ++ List.replicate (1 - (lg_sl ([.ref (b + 0)])).length) Slot.unset).toArray = ls at hl ⊢
  have hl : lv_has ls 1 [(0, .ref (b + 0))] := hl
  refine lv_aload_n hx hb dX11_clear_0 rfl (lv_at hl 0 rfl) ?_
  refine z_getr (j2 := 60) hx hb hts (z_memU u11) hown hK.1 hS f11_4 (by decide) (zkd_of (rfl : zcd wC 0 = 0) rfl) (zrf_of (rfl : zcd wC 0 = 0) rfl) (Or.inl (hts _ (z_mem k246))) dX11_clear_1 ?_
  refine z_iconst hx hb dX11_clear_4 ?_
  refine z_puti hx hb hts (z_memU u5) tyX5 tyX5_ok nmX5 hown hK.1 hS hS0 f5_2 (by decide) (zkd_of (rfl : zcd wC 60 = 19) rfl) (Or.inl (hts _ (z_mem k146))) rfl (z := 0) (by decide +kernel) (zbd_in (rfl : zcd wC 60 = 19) rfl (by decide)) (zms_of (rfl : zcd wC 60 = 19) rfl) dX11_clear_5 (fun H locs hS hS0 => ?_)
  obtain ⟨M1, e2⟩ : ∃ M1 : zM, M1 = zup M 60 2 0 := ⟨_, rfl⟩
  rw [← e2] at hS
  have J3 := hS.2.1
  refine lv_aload_n hx hb dX11_clear_8 rfl (lv_at hl 0 rfl) ?_
  refine z_getr (j2 := 32) hx hb hts (z_memU u11) hown hK.1 hS f11_2 (by decide) (zkd_of (rfl : zcd wC 0 = 0) rfl) (zrf_of (rfl : zcd wC 0 = 0) rfl) (Or.inl (hts _ (z_mem k244))) dX11_clear_9 ?_
  refine z_calli (va_runV (As := []) (rest := []) ⟨hx, hb, hml, hown, hts⟩ (n_empty l D dA b M1 (by rw [e2, zup_n _ _ (by omega), g0])) (cwV 0 hts (z_gV k454 k455 k456 k4 k457) rfl rfl rfl dm_X9_empty ⟨Nat.le_of_ble_eq_true rfl, Nat.le_of_ble_eq_true rfl⟩) ⟨zP_blind, (z_recv hS hK.1 (by decide) (zkd_of (rfl : zcd wC 32 = 8) rfl) (by decide) (rfl : vwCl[9]? = some (RX9, TX9, 3))), z_pre hS hK⟩ rfl rfl hl.1 rfl (lv_room (Nat.le_of_ble_eq_true rfl)) dX11_clear_12 ⟨Nat.le_refl _, Nat.le_refl _⟩) hS hS0 (zms_sub rfl) (fun z8 M4 H locs r9 h5 F6 hS hS0 => ?_)
  have J7 := hS.2.1
  have h10 := h5
  obtain ⟨z8e, h10⟩ := h10
  subst z8e
  exact z_iret hx hb hr hlocks hS hS0 (by decide) (by first | exact trivial | exact ⟨rfl, trivial⟩ | omega | (refine ⟨by omega, trivial⟩)) dX11_clear_15

set_option maxHeartbeats 4000000 in
set_option maxRecDepth 100000 in
theorem x_count (l : Launch) (D : va_G) (dA : Nat → ClassId) (b : Nat) (M : zM) (wh : Int) (r_wh : R32 wh) (g0 : M 32 2 = 0) (g1 : M 60 2 = 0) (g2 : M 82 1 = 0) (g3 : M 86 0 = 0) (g4 : M 96 0 = 0) (g5 : M 0 10 = 0) (g6 : M 1 1 = 0) (g7 : M 30 1 = 0) : Met l yX11_count (.code yX11_count cX11_count 2 (some .int) :: zt) (z_rm 0) (va_Pc [.ref (b + 0), .int (iI wh)] (zP D dA vwCl (z_tys dA) wC nC b M)) (va_Qi (zQi wC (zms wC []) M (fun z M1 => M1 = M ∧ ((0 ≤ wh ∧ wh ≤ 7 ∧ z = 0) ∨ ((wh < 0 ∨ 7 < wh) ∧ z = -1)))) (zB D dA vwCl wC nC b) (zA nC b)) 0 0 (zA nC b) := by
  refine Met.ofW (cc := cX11_count) (maxL := 2) (ret := (some .int)) (by decide) rfl ?_
  intro p e s m args below meth c s₁ B hml hv
  obtain ⟨hargs, hR0, hJ, hK⟩ := hv
  have hx := B.exec
  have hb := B.bytes
  have hr := B.returns
  have hts := atoms_spec (ws := .code yX11_count cX11_count 2 (some .int) :: zt) B.pre
  have hown : s.vm.findClass RX11 = some m.cls := findClass_of_methodNamed B.named
  have hlocks := B.notSynchronized
  have hS : zS D dA vwCl wC nC b (zms wC []) M M s.heap := ⟨hR0, hJ, zF_rf _ _⟩
  have hS0 : va_S (zA nC b) s.heap s.heap [] := va_S.rf
  have hl := lv_entry ([.ref (b + 0), .int (iI wh)]) (n := 2) (Nat.le_of_ble_eq_true rfl)
  have hent : entryFrame m args 2 = F0 m 0 ((lg_sl ([.ref (b + 0), .int (iI wh)]) ++ List.replicate (2 - (lg_sl ([.ref (b + 0), .int (iI wh)])).length) Slot.unset).toArray) [] := by rw [hargs]; exact lg_entry_eq m ([.ref (b + 0), .int (iI wh)]) 2
  rw [hent]
  generalize (lg_sl ([.ref (b + 0), .int (iI wh)]) ++ List.replicate (2 - (lg_sl ([.ref (b + 0), .int (iI wh)])).length) Slot.unset).toArray = ls at hl ⊢
  have hl : lv_has ls 2 [(0, .ref (b + 0)), (1, .int (iI wh))] := hl
  refine lv_iload_n hx hb dX11_count_0 rfl (lv_at hl 1 rfl) ?_
  rcases Decidable.em (wh = 0) with c1 | c1
  · skip
    refine z_tabIn (tgt := 48) hx hb r_wh c1 dX11_count_1 (by decide) (by decide) rfl (by decide) ?_
    refine lv_aload_n hx hb dX11_count_48 rfl (lv_at hl 0 rfl) ?_
    refine z_getr (j2 := 32) hx hb hts (z_memU u11) hown hK.1 hS f11_2 (by decide) (zkd_of (rfl : zcd wC 0 = 0) rfl) (zrf_of (rfl : zcd wC 0 = 0) rfl) (Or.inl (hts _ (z_mem k244))) dX11_count_49 ?_
    refine z_geti hx hb hts (z_memU u9) hown hK.1 hS f9_2 (by decide) (zkd_of (rfl : zcd wC 32 = 8) rfl) (Or.inl (hts _ (z_mem k120))) dX11_count_52 ?_
    refine z_top (show M 32 2 = 0 from by rw [g0]) ?_
    exact z_iret hx hb hr hlocks hS hS0 (by decide) (⟨rfl, by first | exact trivial | exact ⟨rfl, trivial⟩ | omega | (refine ⟨by omega, trivial⟩)⟩) dX11_count_55
  rcases Decidable.em (wh = 1) with c2 | c2
  · skip
    refine z_tabIn (tgt := 56) hx hb r_wh c2 dX11_count_1 (by decide) (by decide) rfl (by decide) ?_
    refine lv_aload_n hx hb dX11_count_56 rfl (lv_at hl 0 rfl) ?_
    refine z_getr (j2 := 60) hx hb hts (z_memU u11) hown hK.1 hS f11_4 (by decide) (zkd_of (rfl : zcd wC 0 = 0) rfl) (zrf_of (rfl : zcd wC 0 = 0) rfl) (Or.inl (hts _ (z_mem k246))) dX11_count_57 ?_
    refine z_geti hx hb hts (z_memU u5) hown hK.1 hS f5_2 (by decide) (zkd_of (rfl : zcd wC 60 = 19) rfl) (Or.inl (hts _ (z_mem k146))) dX11_count_60 ?_
    refine z_top (show M 60 2 = 0 from by rw [g1]) ?_
    exact z_iret hx hb hr hlocks hS hS0 (by decide) (⟨rfl, by first | exact trivial | exact ⟨rfl, trivial⟩ | omega | (refine ⟨by omega, trivial⟩)⟩) dX11_count_63
  rcases Decidable.em (wh = 2) with c3 | c3
  · skip
    refine z_tabIn (tgt := 64) hx hb r_wh c3 dX11_count_1 (by decide) (by decide) rfl (by decide) ?_
    refine lv_aload_n hx hb dX11_count_64 rfl (lv_at hl 0 rfl) ?_
    refine z_getr (j2 := 82) hx hb hts (z_memU u11) hown hK.1 hS f11_6 (by decide) (zkd_of (rfl : zcd wC 0 = 0) rfl) (zrf_of (rfl : zcd wC 0 = 0) rfl) (Or.inl (hts _ (z_mem k248))) dX11_count_65 ?_
    refine z_geti hx hb hts (z_memU u3) hown hK.1 hS f3_1 (by decide) (zkd_of (rfl : zcd wC 82 = 34) rfl) (Or.inl (hts _ (z_mem k197))) dX11_count_68 ?_
    refine z_top (show M 82 1 = 0 from by rw [g2]) ?_
    exact z_iret hx hb hr hlocks hS hS0 (by decide) (⟨rfl, by first | exact trivial | exact ⟨rfl, trivial⟩ | omega | (refine ⟨by omega, trivial⟩)⟩) dX11_count_71
  rcases Decidable.em (wh = 3) with c4 | c4
  · skip
    refine z_tabIn (tgt := 72) hx hb r_wh c4 dX11_count_1 (by decide) (by decide) rfl (by decide) ?_
    refine lv_aload_n hx hb dX11_count_72 rfl (lv_at hl 0 rfl) ?_
    refine z_getr (j2 := 86) hx hb hts (z_memU u11) hown hK.1 hS f11_7 (by decide) (zkd_of (rfl : zcd wC 0 = 0) rfl) (zrf_of (rfl : zcd wC 0 = 0) rfl) (Or.inl (hts _ (z_mem k249))) dX11_count_73 ?_
    refine z_geti hx hb hts (z_memU u4) hown hK.1 hS f4_0 (by decide) (zkd_of (rfl : zcd wC 86 = 38) rfl) (Or.inl (hts _ (z_mem k211))) dX11_count_76 ?_
    refine z_top (show M 86 0 = 0 from by rw [g3]) ?_
    exact z_iret hx hb hr hlocks hS hS0 (by decide) (⟨rfl, by first | exact trivial | exact ⟨rfl, trivial⟩ | omega | (refine ⟨by omega, trivial⟩)⟩) dX11_count_79
  rcases Decidable.em (wh = 4) with c5 | c5
  · skip
    refine z_tabIn (tgt := 80) hx hb r_wh c5 dX11_count_1 (by decide) (by decide) rfl (by decide) ?_
    refine lv_aload_n hx hb dX11_count_80 rfl (lv_at hl 0 rfl) ?_
    refine z_getr (j2 := 96) hx hb hts (z_memU u11) hown hK.1 hS f11_8 (by decide) (zkd_of (rfl : zcd wC 0 = 0) rfl) (zrf_of (rfl : zcd wC 0 = 0) rfl) (Or.inl (hts _ (z_mem k250))) dX11_count_81 ?_
    refine z_geti hx hb hts (z_memU u10) hown hK.1 hS f10_0 (by decide) (zkd_of (rfl : zcd wC 96 = 44) rfl) (Or.inl (hts _ (z_mem k232))) dX11_count_84 ?_
    refine z_top (show M 96 0 = 0 from by rw [g4]) ?_
    exact z_iret hx hb hr hlocks hS hS0 (by decide) (⟨rfl, by first | exact trivial | exact ⟨rfl, trivial⟩ | omega | (refine ⟨by omega, trivial⟩)⟩) dX11_count_87
  rcases Decidable.em (wh = 5) with c6 | c6
  · skip
    refine z_tabIn (tgt := 88) hx hb r_wh c6 dX11_count_1 (by decide) (by decide) rfl (by decide) ?_
    refine lv_aload_n hx hb dX11_count_88 rfl (lv_at hl 0 rfl) ?_
    refine z_geti hx hb hts (z_memU u11) hown hK.1 hS f11_10 (by decide) (zkd_of (rfl : zcd wC 0 = 0) rfl) (Or.inl (hts _ (z_mem k252))) dX11_count_89 ?_
    refine z_top (show M 0 10 = 0 from by rw [g5]) ?_
    exact z_iret hx hb hr hlocks hS hS0 (by decide) (⟨rfl, by first | exact trivial | exact ⟨rfl, trivial⟩ | omega | (refine ⟨by omega, trivial⟩)⟩) dX11_count_92
  rcases Decidable.em (wh = 6) with c7 | c7
  · skip
    refine z_tabIn (tgt := 93) hx hb r_wh c7 dX11_count_1 (by decide) (by decide) rfl (by decide) ?_
    refine lv_aload_n hx hb dX11_count_93 rfl (lv_at hl 0 rfl) ?_
    refine z_getr (j2 := 1) hx hb hts (z_memU u11) hown hK.1 hS f11_0 (by decide) (zkd_of (rfl : zcd wC 0 = 0) rfl) (zrf_of (rfl : zcd wC 0 = 0) rfl) (Or.inl (hts _ (z_mem k242))) dX11_count_94 ?_
    refine z_geti hx hb hts (z_memU u7) hown hK.1 hS f7_1 (by decide) (zkd_of (rfl : zcd wC 1 = 1) rfl) (Or.inl (hts _ (z_mem k56))) dX11_count_97 ?_
    refine z_top (show M 1 1 = 0 from by rw [g6]) ?_
    exact z_iret hx hb hr hlocks hS hS0 (by decide) (⟨rfl, by first | exact trivial | exact ⟨rfl, trivial⟩ | omega | (refine ⟨by omega, trivial⟩)⟩) dX11_count_100
  rcases Decidable.em (wh = 7) with c8 | c8
  · skip
    refine z_tabIn (tgt := 101) hx hb r_wh c8 dX11_count_1 (by decide) (by decide) rfl (by decide) ?_
    refine lv_aload_n hx hb dX11_count_101 rfl (lv_at hl 0 rfl) ?_
    refine z_getr (j2 := 30) hx hb hts (z_memU u11) hown hK.1 hS f11_1 (by decide) (zkd_of (rfl : zcd wC 0 = 0) rfl) (zrf_of (rfl : zcd wC 0 = 0) rfl) (Or.inl (hts _ (z_mem k243))) dX11_count_102 ?_
    refine z_geti hx hb hts (z_memU u8) hown hK.1 hS f8_1 (by decide) (zkd_of (rfl : zcd wC 30 = 6) rfl) (Or.inl (hts _ (z_mem k50))) dX11_count_105 ?_
    refine z_top (show M 30 1 = 0 from by rw [g7]) ?_
    exact z_iret hx hb hr hlocks hS hS0 (by decide) (⟨rfl, by first | exact trivial | exact ⟨rfl, trivial⟩ | omega | (refine ⟨by omega, trivial⟩)⟩) dX11_count_108
  refine z_tabOut (tgt := 109) hx hb r_wh dX11_count_1 (by omega) (by decide) ?_
  refine z_iconst hx hb dX11_count_109 ?_
  exact z_iret hx hb hr hlocks hS hS0 (by decide) (⟨rfl, by first | exact trivial | exact ⟨rfl, trivial⟩ | omega | (refine ⟨by omega, trivial⟩)⟩) dX11_count_110

set_option maxHeartbeats 4000000 in
set_option maxRecDepth 100000 in
theorem x_inch (l : Launch) (D : va_G) (dA : Nat → ClassId) (b : Nat) (M : zM) (rg : Int) (i : Int) (r_rg : R32 rg) (r_i : R32 i) (g0 : M 32 2 = 0) : Met l yX11_inch (.code yX11_inch cX11_inch 4 (some .int) :: zt) (z_rm 1) (va_Pc [.ref (b + 0), .int (iI rg), .int (iI i)] (zP D dA vwCl (z_tys dA) wC nC b M)) (va_Qi (zQi wC (zms wC []) M (fun z M1 => M1 = M ∧ (z = -1 ∧ True))) (zB D dA vwCl wC nC b) (zA nC b)) 0 0 (zA nC b) := by
  refine Met.ofW (cc := cX11_inch) (maxL := 4) (ret := (some .int)) (by decide) rfl ?_
  intro p e s m args below meth c s₁ B hml hv
  obtain ⟨hargs, hR0, hJ, hK⟩ := hv
  have hx := B.exec
  have hb := B.bytes
  have hr := B.returns
  have hts := atoms_spec (ws := .code yX11_inch cX11_inch 4 (some .int) :: zt) B.pre
  have hown : s.vm.findClass RX11 = some m.cls := findClass_of_methodNamed B.named
  have hlocks := B.notSynchronized
  have hS : zS D dA vwCl wC nC b (zms wC []) M M s.heap := ⟨hR0, hJ, zF_rf _ _⟩
  have hS0 : va_S (zA nC b) s.heap s.heap [] := va_S.rf
  have hl := lv_entry ([.ref (b + 0), .int (iI rg), .int (iI i)]) (n := 4) (Nat.le_of_ble_eq_true rfl)
  have hent : entryFrame m args 4 = F0 m 0 ((lg_sl ([.ref (b + 0), .int (iI rg), .int (iI i)]) ++ List.replicate (4 - (lg_sl ([.ref (b + 0), .int (iI rg), .int (iI i)])).length) Slot.unset).toArray) [] := by rw [hargs]; exact lg_entry_eq m ([.ref (b + 0), .int (iI rg), .int (iI i)]) 4
  rw [hent]
  generalize (lg_sl ([.ref (b + 0), .int (iI rg), .int (iI i)]) ++ List.replicate (4 - (lg_sl ([.ref (b + 0), .int (iI rg), .int (iI i)])).length) Slot.unset).toArray = ls at hl ⊢
  have hl : lv_has ls 4 [(0, .ref (b + 0)), (1, .int (iI rg)), (2, .int (iI i))] := hl
  refine lv_aload_n hx hb dX11_inch_0 rfl (lv_at hl 0 rfl) ?_
  refine z_getr (j2 := 32) hx hb hts (z_memU u11) hown hK.1 hS f11_2 (by decide) (zkd_of (rfl : zcd wC 0 = 0) rfl) (zrf_of (rfl : zcd wC 0 = 0) rfl) (Or.inl (hts _ (z_mem k244))) dX11_inch_1 ?_
  refine lv_iload_n hx hb dX11_inch_4 rfl (lv_at hl 1 rfl) ?_
  refine z_callq (va_runV (As := [.int (iI rg)]) (rest := []) ⟨hx, hb, hml, hown, hts⟩ (n_find l D dA b M rg r_rg (by rw [g0])) (cwV 1 hts (z_gV k411 k412 k413 k4 k414) rfl rfl rfl dm_X9_find ⟨Nat.le_of_ble_eq_true rfl, Nat.le_of_ble_eq_true rfl⟩) ⟨zP_blind, (z_recv hS hK.1 (by decide) (zkd_of (rfl : zcd wC 32 = 8) rfl) (by decide) (rfl : vwCl[9]? = some (RX9, TX9, 3))), z_pre hS hK⟩ rfl rfl hl.1 rfl (lv_room (Nat.le_of_ble_eq_true rfl)) dX11_inch_5 ⟨Nat.le_refl _, Nat.le_refl _⟩) hS hS0 (zms_sub rfl) (fun z5 M1 H locs h2 F3 hS hS0 => ?_)
  obtain ⟨h6, h2⟩ := h2
  rw [h6] at hS
  have h7 := h2
  obtain ⟨z5e, h7⟩ := h7
  subst z5e
  show W _ _ _ _ _ _ _ _ _ _ _ _ _ _ _ (F0 m _ ls (.null :: []))
  refine lv_astore_nN (lv' := [(3, .null), (0, .ref (b + 0)), (1, .int (iI rg)), (2, .int (iI i))]) hx hb dX11_inch_8 rfl hl (by decide) rfl (fun ls hl => ?_)
  refine lv_aload_nN hx hb dX11_inch_9 rfl (lv_at hl 0 rfl) ?_
  refine lv_ifnonnullN hx hb dX11_inch_10 ?_
  refine z_iconst hx hb dX11_inch_13 ?_
  refine lv_goto (tgt := 25) hx hb dX11_inch_14 (by decide) ?_
  exact z_iret hx hb hr hlocks hS hS0 (by decide) (⟨rfl, by first | exact trivial | exact ⟨rfl, trivial⟩ | omega | (refine ⟨by omega, trivial⟩)⟩) dX11_inch_25

set_option maxHeartbeats 4000000 in
set_option maxRecDepth 100000 in
theorem x_heard (l : Launch) (D : va_G) (dA : Nat → ClassId) (b : Nat) (M : zM) (rg : Int) (t : Int) (r_rg : R32 rg) (r_t : R64 t) (g0 : M 32 2 = 0) : Met l yX11_heard (.code yX11_heard cX11_heard 5 (some .int) :: zt) (z_rm 1) (va_Pc [.ref (b + 0), .int (iI rg), .long (iL t)] (zP D dA vwCl (z_tys dA) wC nC b M)) (va_Qi (zQi wC (zms wC []) M (fun z M1 => M1 = M ∧ ((0 ≤ t ∧ rg = -1 ∧ z = 0) ∨ ((t < 0 ∨ rg ≠ -1) ∧ z = -1)))) (zB D dA vwCl wC nC b) (zA nC b)) 0 0 (zA nC b) := by
  refine Met.ofW (cc := cX11_heard) (maxL := 5) (ret := (some .int)) (by decide) rfl ?_
  intro p e s m args below meth c s₁ B hml hv
  obtain ⟨hargs, hR0, hJ, hK⟩ := hv
  have hx := B.exec
  have hb := B.bytes
  have hr := B.returns
  have hts := atoms_spec (ws := .code yX11_heard cX11_heard 5 (some .int) :: zt) B.pre
  have hown : s.vm.findClass RX11 = some m.cls := findClass_of_methodNamed B.named
  have hlocks := B.notSynchronized
  have hS : zS D dA vwCl wC nC b (zms wC []) M M s.heap := ⟨hR0, hJ, zF_rf _ _⟩
  have hS0 : va_S (zA nC b) s.heap s.heap [] := va_S.rf
  have hl := lv_entry ([.ref (b + 0), .int (iI rg), .long (iL t)]) (n := 5) (Nat.le_of_ble_eq_true rfl)
  have hent : entryFrame m args 5 = F0 m 0 ((lg_sl ([.ref (b + 0), .int (iI rg), .long (iL t)]) ++ List.replicate (5 - (lg_sl ([.ref (b + 0), .int (iI rg), .long (iL t)])).length) Slot.unset).toArray) [] := by rw [hargs]; exact lg_entry_eq m ([.ref (b + 0), .int (iI rg), .long (iL t)]) 5
  rw [hent]
  generalize (lg_sl ([.ref (b + 0), .int (iI rg), .long (iL t)]) ++ List.replicate (5 - (lg_sl ([.ref (b + 0), .int (iI rg), .long (iL t)])).length) Slot.unset).toArray = ls at hl ⊢
  have hl : lv_has ls 5 [(0, .ref (b + 0)), (1, .int (iI rg)), (2, .long (iL t))] := hl
  refine lv_lload_n hx hb dX11_heard_0 rfl (lv_at hl 2 rfl) ?_
  refine z_lconst0 hx hb dX11_heard_1 ?_
  refine z_lcmp_ge hx hb r_t (by decide) dX11_heard_2 dX11_heard_3 (tgt := 8) (by decide) (fun c1 => ?_) (fun c1 => ?_)
  · skip
    refine lv_iload_n hx hb dX11_heard_8 rfl (lv_at hl 1 rfl) ?_
    refine z_iconst hx hb dX11_heard_9 ?_
    refine z_icmp_ne (tgt := 22) hx hb r_rg (by decide) dX11_heard_10 (by decide) (fun c2 => ?_) (fun c2 => ?_)
    · skip
      refine lv_aload_n hx hb dX11_heard_22 rfl (lv_at hl 0 rfl) ?_
      refine z_getr (j2 := 32) hx hb hts (z_memU u11) hown hK.1 hS f11_2 (by decide) (zkd_of (rfl : zcd wC 0 = 0) rfl) (zrf_of (rfl : zcd wC 0 = 0) rfl) (Or.inl (hts _ (z_mem k244))) dX11_heard_23 ?_
      refine lv_iload_n hx hb dX11_heard_26 rfl (lv_at hl 1 rfl) ?_
      refine z_callq (va_runV (As := [.int (iI rg)]) (rest := []) ⟨hx, hb, hml, hown, hts⟩ (n_find l D dA b M rg r_rg (by rw [g0])) (cwV 1 hts (z_gV k411 k412 k413 k4 k414) rfl rfl rfl dm_X9_find ⟨Nat.le_of_ble_eq_true rfl, Nat.le_of_ble_eq_true rfl⟩) ⟨zP_blind, (z_recv hS hK.1 (by decide) (zkd_of (rfl : zcd wC 32 = 8) rfl) (by decide) (rfl : vwCl[9]? = some (RX9, TX9, 3))), z_pre hS hK⟩ rfl rfl hl.1 rfl (lv_room (Nat.le_of_ble_eq_true rfl)) dX11_heard_27 ⟨Nat.le_refl _, Nat.le_refl _⟩) hS hS0 (zms_sub rfl) (fun z7 M3 H locs h4 F5 hS hS0 => ?_)
      obtain ⟨h8, h4⟩ := h4
      rw [h8] at hS
      have h9 := h4
      obtain ⟨z7e, h9⟩ := h9
      subst z7e
      show W _ _ _ _ _ _ _ _ _ _ _ _ _ _ _ (F0 m _ ls (.null :: []))
      refine lv_astoreN (lv' := [(4, .null), (0, .ref (b + 0)), (1, .int (iI rg)), (2, .long (iL t))]) hx hb dX11_heard_30 hl (by decide) rfl (fun ls hl => ?_)
      refine lv_aloadN hx hb dX11_heard_32 (lv_at hl 0 rfl) ?_
      refine lv_ifnonnullN hx hb dX11_heard_34 ?_
      refine z_iconst hx hb dX11_heard_37 ?_
      refine lv_goto (tgt := 51) hx hb dX11_heard_38 (by decide) ?_
      exact z_iret hx hb hr hlocks hS hS0 (by decide) (⟨rfl, by first | exact trivial | exact ⟨rfl, trivial⟩ | omega | (refine ⟨by omega, trivial⟩)⟩) dX11_heard_51
    · skip
      refine lv_aload_n hx hb dX11_heard_13 rfl (lv_at hl 0 rfl) ?_
      refine z_getr (j2 := 32) hx hb hts (z_memU u11) hown hK.1 hS f11_2 (by decide) (zkd_of (rfl : zcd wC 0 = 0) rfl) (zrf_of (rfl : zcd wC 0 = 0) rfl) (Or.inl (hts _ (z_mem k244))) dX11_heard_14 ?_
      refine lv_lload_n hx hb dX11_heard_17 rfl (lv_at hl 2 rfl) ?_
      refine z_calli (va_runV (As := [.long (iL t)]) (rest := []) ⟨hx, hb, hml, hown, hts⟩ (n_heardInAll l D dA b M t r_t (by rw [g0])) (cwV 1 hts (z_gV k474 k475 k476 k4 k477) rfl rfl rfl dm_X9_heardInAll ⟨Nat.le_of_ble_eq_true rfl, Nat.le_of_ble_eq_true rfl⟩) ⟨zP_blind, (z_recv hS hK.1 (by decide) (zkd_of (rfl : zcd wC 32 = 8) rfl) (by decide) (rfl : vwCl[9]? = some (RX9, TX9, 3))), z_pre hS hK⟩ rfl rfl hl.1 rfl (lv_room (Nat.le_of_ble_eq_true rfl)) dX11_heard_18 ⟨Nat.le_refl _, Nat.le_refl _⟩) hS hS0 (zms_sub rfl) (fun z14 M10 H locs r15 h11 F12 hS hS0 => ?_)
      obtain ⟨h16, h11⟩ := h11
      rw [h16] at hS
      have h17 := h11
      obtain ⟨z14e, h17⟩ := h17
      subst z14e
      exact z_iret hx hb hr hlocks hS hS0 (by decide) (⟨rfl, by first | exact trivial | exact ⟨rfl, trivial⟩ | omega | (refine ⟨by omega, trivial⟩)⟩) dX11_heard_21
  · skip
    refine z_iconst hx hb dX11_heard_6 ?_
    exact z_iret hx hb hr hlocks hS hS0 (by decide) (⟨rfl, by first | exact trivial | exact ⟨rfl, trivial⟩ | omega | (refine ⟨by omega, trivial⟩)⟩) dX11_heard_7

set_option maxHeartbeats 4000000 in
set_option maxRecDepth 100000 in
theorem x_all (l : Launch) (D : va_G) (dA : Nat → ClassId) (b : Nat) (M : zM) (g0 : M 32 2 = 0) (g1 : M 35 2 = 0) (g2 : M 38 2 = 0) : Met l yX11_all (.code yX11_all cX11_all 1 (some .long) :: zt) (z_rm 3) (va_Pc [.ref (b + 0)] (zP D dA vwCl (z_tys dA) wC nC b M)) (va_Ql (zQl wC (zms wC [1024, 1025]) M (fun z M1 => z = 1 ∧ True)) (zB D dA vwCl wC nC b) (zA nC b)) 0 0 (zA nC b) := by
  refine Met.ofW (cc := cX11_all) (maxL := 1) (ret := (some .long)) (by decide) rfl ?_
  intro p e s m args below meth c s₁ B hml hv
  obtain ⟨hargs, hR0, hJ, hK⟩ := hv
  have hx := B.exec
  have hb := B.bytes
  have hr := B.returns
  have hts := atoms_spec (ws := .code yX11_all cX11_all 1 (some .long) :: zt) B.pre
  have hown : s.vm.findClass RX11 = some m.cls := findClass_of_methodNamed B.named
  have hlocks := B.notSynchronized
  have hS : zS D dA vwCl wC nC b (zms wC [1024, 1025]) M M s.heap := ⟨hR0, hJ, zF_rf _ _⟩
  have hS0 : va_S (zA nC b) s.heap s.heap [] := va_S.rf
  have hl := lv_entry ([.ref (b + 0)]) (n := 1) (Nat.le_of_ble_eq_true rfl)
  have hent : entryFrame m args 1 = F0 m 0 ((lg_sl ([.ref (b + 0)]) ++ List.replicate (1 - (lg_sl ([.ref (b + 0)])).length) Slot.unset).toArray) [] := by rw [hargs]; exact lg_entry_eq m ([.ref (b + 0)]) 1
  rw [hent]
  generalize (lg_sl ([.ref (b + 0)]) ++ List.replicate (1 - (lg_sl ([.ref (b + 0)])).length) Slot.unset).toArray = ls at hl ⊢
  have hl : lv_has ls 1 [(0, .ref (b + 0))] := hl
  refine lv_aload_n hx hb dX11_all_0 rfl (lv_at hl 0 rfl) ?_
  refine z_getr (j2 := 57) hx hb hts (z_memU u11) hown hK.1 hS f11_3 (by decide) (zkd_of (rfl : zcd wC 0 = 0) rfl) (zrf_of (rfl : zcd wC 0 = 0) rfl) (Or.inl (hts _ (z_mem k245))) dX11_all_1 ?_
  refine lv_aload_n hx hb dX11_all_4 rfl (lv_at hl 0 rfl) ?_
  refine z_getr (j2 := 32) hx hb hts (z_memU u11) hown hK.1 hS f11_2 (by decide) (zkd_of (rfl : zcd wC 0 = 0) rfl) (zrf_of (rfl : zcd wC 0 = 0) rfl) (Or.inl (hts _ (z_mem k244))) dX11_all_5 ?_
  refine z_callv (va_runV (As := [.ref (b + 32)]) (rest := []) ⟨hx, hb, hml, hown, hts⟩ (n_look l D dA b M (by rw [g0]) (by rw [g1]) (by rw [g2])) (cwV 1 hts (z_gV k511 k512 k513 k7 k514) rfl rfl rfl dm_X1_look ⟨Nat.le_of_ble_eq_true rfl, Nat.le_of_ble_eq_true rfl⟩) ⟨zP_blind, (z_recv hS hK.1 (by decide) (zkd_of (rfl : zcd wC 57 = 16) rfl) (by decide) (rfl : vwCl[1]? = some (RX1, TX1, 4))), z_pre hS hK⟩ rfl rfl hl.1 rfl (lv_room (Nat.le_of_ble_eq_true rfl)) dX11_all_8 ⟨Nat.le_refl _, Nat.le_refl _⟩) hS hS0 (zms_sub rfl) (fun M1 H locs h2 F3 hS hS0 => ?_)
  have J4 := hS.2.1
  obtain ⟨h2, m5, m6⟩ := h2
  refine lv_aload_n hx hb dX11_all_11 rfl (lv_at hl 0 rfl) ?_
  refine z_getr (j2 := 57) hx hb hts (z_memU u11) hown hK.1 hS f11_3 (by decide) (zkd_of (rfl : zcd wC 0 = 0) rfl) (zrf_of (rfl : zcd wC 0 = 0) rfl) (Or.inl (hts _ (z_mem k245))) dX11_all_12 ?_
  refine z_calll (va_runV (As := []) (rest := []) ⟨hx, hb, hml, hown, hts⟩ (n_allTicks l D dA b M1 (by rw [m5])) (cwV 0 hts (z_gV k542 k543 k544 k7 k545) rfl rfl rfl dm_X1_allTicks ⟨Nat.le_of_ble_eq_true rfl, Nat.le_of_ble_eq_true rfl⟩) ⟨zP_blind, (z_recv hS hK.1 (by decide) (zkd_of (rfl : zcd wC 57 = 16) rfl) (by decide) (rfl : vwCl[1]? = some (RX1, TX1, 4))), z_pre hS hK⟩ rfl rfl hl.1 rfl (lv_room (Nat.le_of_ble_eq_true rfl)) dX11_all_15 ⟨Nat.le_refl _, Nat.le_refl _⟩) hS hS0 (zms_sub rfl) (fun z11 M7 H locs r12 h8 F9 hS hS0 => ?_)
  obtain ⟨h13, h8⟩ := h8
  rw [h13] at hS
  have h14 := h8
  obtain ⟨z11e, h14⟩ := h14
  subst z11e
  exact z_lret hx hb hr hlocks hS hS0 (by decide) (by first | exact trivial | exact ⟨rfl, trivial⟩ | omega | (refine ⟨by omega, trivial⟩)) dX11_all_18

set_option maxHeartbeats 4000000 in
set_option maxRecDepth 100000 in
theorem x_wish (l : Launch) (D : va_G) (dA : Nat → ClassId) (b : Nat) (M : zM) (rg : Int) (v : Int) (r_rg : R32 rg) (r_v : R32 v) (g0 : M 32 2 = 0) : Met l yX11_wish (.code yX11_wish cX11_wish 4 (some .boolean) :: zt) (z_rm 1) (va_Pc [.ref (b + 0), .int (iI rg), .int (iI v)] (zP D dA vwCl (z_tys dA) wC nC b M)) (va_Qi (zQi wC (zms wC []) M (fun z M1 => M1 = M ∧ (z = 0 ∧ True))) (zB D dA vwCl wC nC b) (zA nC b)) 0 0 (zA nC b) := by
  refine Met.ofW (cc := cX11_wish) (maxL := 4) (ret := (some .boolean)) (by decide) rfl ?_
  intro p e s m args below meth c s₁ B hml hv
  obtain ⟨hargs, hR0, hJ, hK⟩ := hv
  have hx := B.exec
  have hb := B.bytes
  have hr := B.returns
  have hts := atoms_spec (ws := .code yX11_wish cX11_wish 4 (some .boolean) :: zt) B.pre
  have hown : s.vm.findClass RX11 = some m.cls := findClass_of_methodNamed B.named
  have hlocks := B.notSynchronized
  have hS : zS D dA vwCl wC nC b (zms wC []) M M s.heap := ⟨hR0, hJ, zF_rf _ _⟩
  have hS0 : va_S (zA nC b) s.heap s.heap [] := va_S.rf
  have hl := lv_entry ([.ref (b + 0), .int (iI rg), .int (iI v)]) (n := 4) (Nat.le_of_ble_eq_true rfl)
  have hent : entryFrame m args 4 = F0 m 0 ((lg_sl ([.ref (b + 0), .int (iI rg), .int (iI v)]) ++ List.replicate (4 - (lg_sl ([.ref (b + 0), .int (iI rg), .int (iI v)])).length) Slot.unset).toArray) [] := by rw [hargs]; exact lg_entry_eq m ([.ref (b + 0), .int (iI rg), .int (iI v)]) 4
  rw [hent]
  generalize (lg_sl ([.ref (b + 0), .int (iI rg), .int (iI v)]) ++ List.replicate (4 - (lg_sl ([.ref (b + 0), .int (iI rg), .int (iI v)])).length) Slot.unset).toArray = ls at hl ⊢
  have hl : lv_has ls 4 [(0, .ref (b + 0)), (1, .int (iI rg)), (2, .int (iI v))] := hl
  refine lv_aload_n hx hb dX11_wish_0 rfl (lv_at hl 0 rfl) ?_
  refine z_getr (j2 := 32) hx hb hts (z_memU u11) hown hK.1 hS f11_2 (by decide) (zkd_of (rfl : zcd wC 0 = 0) rfl) (zrf_of (rfl : zcd wC 0 = 0) rfl) (Or.inl (hts _ (z_mem k244))) dX11_wish_1 ?_
  refine lv_iload_n hx hb dX11_wish_4 rfl (lv_at hl 1 rfl) ?_
  refine z_callq (va_runV (As := [.int (iI rg)]) (rest := []) ⟨hx, hb, hml, hown, hts⟩ (n_find l D dA b M rg r_rg (by rw [g0])) (cwV 1 hts (z_gV k411 k412 k413 k4 k414) rfl rfl rfl dm_X9_find ⟨Nat.le_of_ble_eq_true rfl, Nat.le_of_ble_eq_true rfl⟩) ⟨zP_blind, (z_recv hS hK.1 (by decide) (zkd_of (rfl : zcd wC 32 = 8) rfl) (by decide) (rfl : vwCl[9]? = some (RX9, TX9, 3))), z_pre hS hK⟩ rfl rfl hl.1 rfl (lv_room (Nat.le_of_ble_eq_true rfl)) dX11_wish_5 ⟨Nat.le_refl _, Nat.le_refl _⟩) hS hS0 (zms_sub rfl) (fun z5 M1 H locs h2 F3 hS hS0 => ?_)
  obtain ⟨h6, h2⟩ := h2
  rw [h6] at hS
  have h7 := h2
  obtain ⟨z5e, h7⟩ := h7
  subst z5e
  show W _ _ _ _ _ _ _ _ _ _ _ _ _ _ _ (F0 m _ ls (.null :: []))
  refine lv_astore_nN (lv' := [(3, .null), (0, .ref (b + 0)), (1, .int (iI rg)), (2, .int (iI v))]) hx hb dX11_wish_8 rfl hl (by decide) rfl (fun ls hl => ?_)
  refine lv_aload_nN hx hb dX11_wish_9 rfl (lv_at hl 0 rfl) ?_
  refine lv_ifnullN (tgt := 20) hx hb dX11_wish_10 (by decide) ?_
  refine z_iconst hx hb dX11_wish_20 ?_
  exact z_zret hx hb hr hlocks hS hS0 (by first | decide | omega) (⟨rfl, by first | exact trivial | exact ⟨rfl, trivial⟩ | omega | (refine ⟨by omega, trivial⟩)⟩) dX11_wish_21

set_option maxHeartbeats 4000000 in
set_option maxRecDepth 100000 in
theorem x_meets (l : Launch) (D : va_G) (dA : Nat → ClassId) (b : Nat) (M : zM) (t : Int) (r_t : R64 t) (g0 : M 32 2 = 0) (g1 : M 35 2 = 0) (g2 : M 38 2 = 0) : Met l yX11_meets (.code yX11_meets cX11_meets 3 (some .long) :: zt) (z_rm 3) (va_Pc [.ref (b + 0), .long (iL t)] (zP D dA vwCl (z_tys dA) wC nC b M)) (va_Ql (zQl wC (zms wC [1024, 1025]) M (fun z M1 => (0 ≤ t ∧ t ≤ 1152921504606846976 ∧ z = t) ∨ ((t < 0 ∨ 1152921504606846976 < t) ∧ z = -1))) (zB D dA vwCl wC nC b) (zA nC b)) 0 0 (zA nC b) := by
  refine Met.ofW (cc := cX11_meets) (maxL := 3) (ret := (some .long)) (by decide) rfl ?_
  intro p e s m args below meth c s₁ B hml hv
  obtain ⟨hargs, hR0, hJ, hK⟩ := hv
  have hx := B.exec
  have hb := B.bytes
  have hr := B.returns
  have hts := atoms_spec (ws := .code yX11_meets cX11_meets 3 (some .long) :: zt) B.pre
  have hown : s.vm.findClass RX11 = some m.cls := findClass_of_methodNamed B.named
  have hlocks := B.notSynchronized
  have hS : zS D dA vwCl wC nC b (zms wC [1024, 1025]) M M s.heap := ⟨hR0, hJ, zF_rf _ _⟩
  have hS0 : va_S (zA nC b) s.heap s.heap [] := va_S.rf
  have hl := lv_entry ([.ref (b + 0), .long (iL t)]) (n := 3) (Nat.le_of_ble_eq_true rfl)
  have hent : entryFrame m args 3 = F0 m 0 ((lg_sl ([.ref (b + 0), .long (iL t)]) ++ List.replicate (3 - (lg_sl ([.ref (b + 0), .long (iL t)])).length) Slot.unset).toArray) [] := by rw [hargs]; exact lg_entry_eq m ([.ref (b + 0), .long (iL t)]) 3
  rw [hent]
  generalize (lg_sl ([.ref (b + 0), .long (iL t)]) ++ List.replicate (3 - (lg_sl ([.ref (b + 0), .long (iL t)])).length) Slot.unset).toArray = ls at hl ⊢
  have hl : lv_has ls 3 [(0, .ref (b + 0)), (1, .long (iL t))] := hl
  refine lv_lload_n hx hb dX11_meets_0 rfl (lv_at hl 1 rfl) ?_
  refine z_lconst0 hx hb dX11_meets_1 ?_
  refine z_lcmp_lt hx hb r_t (by decide) dX11_meets_2 dX11_meets_3 (tgt := 14) (by decide) (fun c1 => ?_) (fun c1 => ?_)
  · skip
    refine z_ldc2 (n := -1) hx hb hown (hts _ (z_mem k561)) (by decide) dX11_meets_14 ?_
    exact z_lret hx hb hr hlocks hS hS0 (by decide) (by first | exact trivial | exact ⟨rfl, trivial⟩ | omega | (refine ⟨by omega, trivial⟩)) dX11_meets_17
  · skip
    refine lv_lload_n hx hb dX11_meets_6 rfl (lv_at hl 1 rfl) ?_
    refine z_ldc2 (n := 1152921504606846976) hx hb hown (hts _ (z_mem k560)) (by decide) dX11_meets_7 ?_
    refine z_lcmp_le hx hb r_t (by decide) dX11_meets_10 dX11_meets_11 (tgt := 18) (by decide) (fun c2 => ?_) (fun c2 => ?_)
    · skip
      refine lv_aload_n hx hb dX11_meets_18 rfl (lv_at hl 0 rfl) ?_
      refine z_getr (j2 := 57) hx hb hts (z_memU u11) hown hK.1 hS f11_3 (by decide) (zkd_of (rfl : zcd wC 0 = 0) rfl) (zrf_of (rfl : zcd wC 0 = 0) rfl) (Or.inl (hts _ (z_mem k245))) dX11_meets_19 ?_
      refine lv_aload_n hx hb dX11_meets_22 rfl (lv_at hl 0 rfl) ?_
      refine z_getr (j2 := 32) hx hb hts (z_memU u11) hown hK.1 hS f11_2 (by decide) (zkd_of (rfl : zcd wC 0 = 0) rfl) (zrf_of (rfl : zcd wC 0 = 0) rfl) (Or.inl (hts _ (z_mem k244))) dX11_meets_23 ?_
      refine z_callv (va_runV (As := [.ref (b + 32)]) (rest := []) ⟨hx, hb, hml, hown, hts⟩ (n_look l D dA b M (by rw [g0]) (by rw [g1]) (by rw [g2])) (cwV 1 hts (z_gV k511 k512 k513 k7 k514) rfl rfl rfl dm_X1_look ⟨Nat.le_of_ble_eq_true rfl, Nat.le_of_ble_eq_true rfl⟩) ⟨zP_blind, (z_recv hS hK.1 (by decide) (zkd_of (rfl : zcd wC 57 = 16) rfl) (by decide) (rfl : vwCl[1]? = some (RX1, TX1, 4))), z_pre hS hK⟩ rfl rfl hl.1 rfl (lv_room (Nat.le_of_ble_eq_true rfl)) dX11_meets_26 ⟨Nat.le_refl _, Nat.le_refl _⟩) hS hS0 (zms_sub rfl) (fun M3 H locs h4 F5 hS hS0 => ?_)
      have J6 := hS.2.1
      obtain ⟨h4, m7, m8⟩ := h4
      refine lv_aload_n hx hb dX11_meets_29 rfl (lv_at hl 0 rfl) ?_
      refine z_getr (j2 := 57) hx hb hts (z_memU u11) hown hK.1 hS f11_3 (by decide) (zkd_of (rfl : zcd wC 0 = 0) rfl) (zrf_of (rfl : zcd wC 0 = 0) rfl) (Or.inl (hts _ (z_mem k245))) dX11_meets_30 ?_
      refine lv_aload_n hx hb dX11_meets_33 rfl (lv_at hl 0 rfl) ?_
      refine z_getr (j2 := 32) hx hb hts (z_memU u11) hown hK.1 hS f11_2 (by decide) (zkd_of (rfl : zcd wC 0 = 0) rfl) (zrf_of (rfl : zcd wC 0 = 0) rfl) (Or.inl (hts _ (z_mem k244))) dX11_meets_34 ?_
      refine lv_lload_n hx hb dX11_meets_37 rfl (lv_at hl 1 rfl) ?_
      refine z_calll (va_runV (As := [.ref (b + 32), .long (iL t)]) (rest := []) ⟨hx, hb, hml, hown, hts⟩ (n_first l D dA b M3 t r_t (by rw [m7]) (by rw [m8]) (by omega)) (cwV 2 hts (z_gV k562 k563 k564 k7 k565) rfl rfl rfl dm_X1_first ⟨Nat.le_of_ble_eq_true rfl, Nat.le_of_ble_eq_true rfl⟩) ⟨zP_blind, (z_recv hS hK.1 (by decide) (zkd_of (rfl : zcd wC 57 = 16) rfl) (by decide) (rfl : vwCl[1]? = some (RX1, TX1, 4))), z_pre hS hK⟩ rfl rfl hl.1 rfl (lv_room (Nat.le_of_ble_eq_true rfl)) dX11_meets_38 ⟨Nat.le_refl _, Nat.le_refl _⟩) hS hS0 (zms_sub rfl) (fun z13 M9 H locs r14 h10 F11 hS hS0 => ?_)
      obtain ⟨h15, h10⟩ := h10
      rw [h15] at hS
      have h16 := h10
      obtain ⟨z13e, h16⟩ := h16
      subst z13e
      exact z_lret hx hb hr hlocks hS hS0 r_t (by first | exact trivial | exact ⟨rfl, trivial⟩ | omega | (refine ⟨by omega, trivial⟩)) dX11_meets_41
    · skip
      refine z_ldc2 (n := -1) hx hb hown (hts _ (z_mem k561)) (by decide) dX11_meets_14 ?_
      exact z_lret hx hb hr hlocks hS hS0 (by decide) (by first | exact trivial | exact ⟨rfl, trivial⟩ | omega | (refine ⟨by omega, trivial⟩)) dX11_meets_17

set_option maxHeartbeats 4000000 in
set_option maxRecDepth 100000 in
theorem x_often (l : Launch) (D : va_G) (dA : Nat → ClassId) (b : Nat) (M : zM) (g0 : M 32 2 = 0) (g1 : M 35 2 = 0) (g2 : M 38 2 = 0) : Met l yX11_often (.code yX11_often cX11_often 1 (some .long) :: zt) (z_rm 3) (va_Pc [.ref (b + 0)] (zP D dA vwCl (z_tys dA) wC nC b M)) (va_Ql (zQl wC (zms wC [1024, 1025]) M (fun z M1 => z = 1 ∧ True)) (zB D dA vwCl wC nC b) (zA nC b)) 0 0 (zA nC b) := by
  refine Met.ofW (cc := cX11_often) (maxL := 1) (ret := (some .long)) (by decide) rfl ?_
  intro p e s m args below meth c s₁ B hml hv
  obtain ⟨hargs, hR0, hJ, hK⟩ := hv
  have hx := B.exec
  have hb := B.bytes
  have hr := B.returns
  have hts := atoms_spec (ws := .code yX11_often cX11_often 1 (some .long) :: zt) B.pre
  have hown : s.vm.findClass RX11 = some m.cls := findClass_of_methodNamed B.named
  have hlocks := B.notSynchronized
  have hS : zS D dA vwCl wC nC b (zms wC [1024, 1025]) M M s.heap := ⟨hR0, hJ, zF_rf _ _⟩
  have hS0 : va_S (zA nC b) s.heap s.heap [] := va_S.rf
  have hl := lv_entry ([.ref (b + 0)]) (n := 1) (Nat.le_of_ble_eq_true rfl)
  have hent : entryFrame m args 1 = F0 m 0 ((lg_sl ([.ref (b + 0)]) ++ List.replicate (1 - (lg_sl ([.ref (b + 0)])).length) Slot.unset).toArray) [] := by rw [hargs]; exact lg_entry_eq m ([.ref (b + 0)]) 1
  rw [hent]
  generalize (lg_sl ([.ref (b + 0)]) ++ List.replicate (1 - (lg_sl ([.ref (b + 0)])).length) Slot.unset).toArray = ls at hl ⊢
  have hl : lv_has ls 1 [(0, .ref (b + 0))] := hl
  refine lv_aload_n hx hb dX11_often_0 rfl (lv_at hl 0 rfl) ?_
  refine z_getr (j2 := 57) hx hb hts (z_memU u11) hown hK.1 hS f11_3 (by decide) (zkd_of (rfl : zcd wC 0 = 0) rfl) (zrf_of (rfl : zcd wC 0 = 0) rfl) (Or.inl (hts _ (z_mem k245))) dX11_often_1 ?_
  refine lv_aload_n hx hb dX11_often_4 rfl (lv_at hl 0 rfl) ?_
  refine z_getr (j2 := 32) hx hb hts (z_memU u11) hown hK.1 hS f11_2 (by decide) (zkd_of (rfl : zcd wC 0 = 0) rfl) (zrf_of (rfl : zcd wC 0 = 0) rfl) (Or.inl (hts _ (z_mem k244))) dX11_often_5 ?_
  refine z_callv (va_runV (As := [.ref (b + 32)]) (rest := []) ⟨hx, hb, hml, hown, hts⟩ (n_look l D dA b M (by rw [g0]) (by rw [g1]) (by rw [g2])) (cwV 1 hts (z_gV k511 k512 k513 k7 k514) rfl rfl rfl dm_X1_look ⟨Nat.le_of_ble_eq_true rfl, Nat.le_of_ble_eq_true rfl⟩) ⟨zP_blind, (z_recv hS hK.1 (by decide) (zkd_of (rfl : zcd wC 57 = 16) rfl) (by decide) (rfl : vwCl[1]? = some (RX1, TX1, 4))), z_pre hS hK⟩ rfl rfl hl.1 rfl (lv_room (Nat.le_of_ble_eq_true rfl)) dX11_often_8 ⟨Nat.le_refl _, Nat.le_refl _⟩) hS hS0 (zms_sub rfl) (fun M1 H locs h2 F3 hS hS0 => ?_)
  have J4 := hS.2.1
  obtain ⟨h2, m5, m6⟩ := h2
  refine lv_aload_n hx hb dX11_often_11 rfl (lv_at hl 0 rfl) ?_
  refine z_getr (j2 := 57) hx hb hts (z_memU u11) hown hK.1 hS f11_3 (by decide) (zkd_of (rfl : zcd wC 0 = 0) rfl) (zrf_of (rfl : zcd wC 0 = 0) rfl) (Or.inl (hts _ (z_mem k245))) dX11_often_12 ?_
  refine z_calll (va_runV (As := []) (rest := []) ⟨hx, hb, hml, hown, hts⟩ (n_howOften l D dA b M1 (by rw [m5])) (cwV 0 hts (z_gV k595 k572 k573 k7 k574) rfl rfl rfl dm_X1_howOften ⟨Nat.le_of_ble_eq_true rfl, Nat.le_of_ble_eq_true rfl⟩) ⟨zP_blind, (z_recv hS hK.1 (by decide) (zkd_of (rfl : zcd wC 57 = 16) rfl) (by decide) (rfl : vwCl[1]? = some (RX1, TX1, 4))), z_pre hS hK⟩ rfl rfl hl.1 rfl (lv_room (Nat.le_of_ble_eq_true rfl)) dX11_often_15 ⟨Nat.le_refl _, Nat.le_refl _⟩) hS hS0 (zms_sub rfl) (fun z11 M7 H locs r12 h8 F9 hS hS0 => ?_)
  obtain ⟨h13, h8⟩ := h8
  rw [h13] at hS
  have h14 := h8
  obtain ⟨z11e, h14⟩ := h14
  subst z11e
  exact z_lret hx hb hr hlocks hS hS0 (by decide) (by first | exact trivial | exact ⟨rfl, trivial⟩ | omega | (refine ⟨by omega, trivial⟩)) dX11_often_18

set_option maxHeartbeats 4000000 in
set_option maxRecDepth 100000 in
theorem x_mark (l : Launch) (D : va_G) (dA : Nat → ClassId) (b : Nat) (M : zM) (tk : Int) (sd : Int) (r_tk : R32 tk) (r_sd : R32 sd) (g0 : M 60 2 = 0) : Met l yX11_mark (.code yX11_mark cX11_mark 3 (some .int) :: zt) (z_rm 2) (va_Pc [.ref (b + 0), .int (iI tk), .int (iI sd)] (zP D dA vwCl (z_tys dA) wC nC b M)) (va_Qi (zQi wC (zms wC [1218, 1343, 1407]) M (fun z M1 => ((0 ≤ tk ∧ tk ≤ 100000) ∧ (1 ≤ sd ∧ sd ≤ 9) ∧ z = 1) ∨ (¬ ((0 ≤ tk ∧ tk ≤ 100000) ∧ 1 ≤ sd ∧ sd ≤ 9) ∧ z = -1))) (zB D dA vwCl wC nC b) (zA nC b)) 0 0 (zA nC b) := by
  refine Met.ofW (cc := cX11_mark) (maxL := 3) (ret := (some .int)) (by decide) rfl ?_
  intro p e s m args below meth c s₁ B hml hv
  obtain ⟨hargs, hR0, hJ, hK⟩ := hv
  have hx := B.exec
  have hb := B.bytes
  have hr := B.returns
  have hts := atoms_spec (ws := .code yX11_mark cX11_mark 3 (some .int) :: zt) B.pre
  have hown : s.vm.findClass RX11 = some m.cls := findClass_of_methodNamed B.named
  have hlocks := B.notSynchronized
  have hS : zS D dA vwCl wC nC b (zms wC [1218, 1343, 1407]) M M s.heap := ⟨hR0, hJ, zF_rf _ _⟩
  have hS0 : va_S (zA nC b) s.heap s.heap [] := va_S.rf
  have hl := lv_entry ([.ref (b + 0), .int (iI tk), .int (iI sd)]) (n := 3) (Nat.le_of_ble_eq_true rfl)
  have hent : entryFrame m args 3 = F0 m 0 ((lg_sl ([.ref (b + 0), .int (iI tk), .int (iI sd)]) ++ List.replicate (3 - (lg_sl ([.ref (b + 0), .int (iI tk), .int (iI sd)])).length) Slot.unset).toArray) [] := by rw [hargs]; exact lg_entry_eq m ([.ref (b + 0), .int (iI tk), .int (iI sd)]) 3
  rw [hent]
  generalize (lg_sl ([.ref (b + 0), .int (iI tk), .int (iI sd)]) ++ List.replicate (3 - (lg_sl ([.ref (b + 0), .int (iI tk), .int (iI sd)])).length) Slot.unset).toArray = ls at hl ⊢
  have hl : lv_has ls 3 [(0, .ref (b + 0)), (1, .int (iI tk)), (2, .int (iI sd))] := hl
  refine lv_iload_n hx hb dX11_mark_0 rfl (lv_at hl 1 rfl) ?_
  refine z_iconst hx hb dX11_mark_1 ?_
  refine z_ldc (n := 100000) hx hb hown (hts _ (z_mem k600)) (by decide) dX11_mark_2 ?_
  refine z_calli (va_runS (As := [.int (iI tk), .int (iI 0), .int (iI 100000)]) (rest := []) ⟨hx, hb, hml, hown, hts⟩ (c_within l D dA b M tk 0 100000 r_tk (by decide) (by decide)) (va_cwS 3 hts (z_gS k382 k383 k1 k384) rfl rfl rfl dm_X11_within.2 ⟨Nat.le_of_ble_eq_true rfl, Nat.le_of_ble_eq_true rfl⟩) ⟨zP_blind, z_pre hS hK⟩ rfl rfl hl.1 rfl (lv_room (Nat.le_of_ble_eq_true rfl)) dX11_mark_4 ⟨Nat.le_refl _, Nat.le_refl _⟩) hS hS0 (zms_sub rfl) (fun z5 M1 H locs r6 h2 F3 hS hS0 => ?_)
  obtain ⟨h7, h2⟩ := h2
  rw [h7] at hS
  rcases h2 with h8 | h9
  · skip
    obtain ⟨z5e, h8⟩ := h8
    subst z5e
    refine z_if_eq (tgt := 17) hx hb (by decide) dX11_mark_7 (by decide) (fun c10 => absurd c10 (by decide)) (fun c10 => ?_)
    refine lv_iload_n hx hb dX11_mark_10 rfl (lv_at hl 2 rfl) ?_
    refine z_calli (va_runS (As := [.int (iI sd)]) (rest := []) ⟨hx, hb, hml, hown, hts⟩ (c_isSound l D dA b M sd r_sd) (va_cwS 1 hts (z_gS k601 k602 k1 k603) rfl rfl rfl dm_X11_isSound.2 ⟨Nat.le_of_ble_eq_true rfl, Nat.le_of_ble_eq_true rfl⟩) ⟨zP_blind, z_pre hS hK⟩ rfl rfl hl.1 rfl (lv_room (Nat.le_of_ble_eq_true rfl)) dX11_mark_11 ⟨Nat.le_refl _, Nat.le_refl _⟩) hS hS0 (zms_sub rfl) (fun z15 M11 H locs r16 h12 F13 hS hS0 => ?_)
    obtain ⟨h17, h12⟩ := h12
    rw [h17] at hS
    rcases h12 with h18 | h19
    · skip
      obtain ⟨z15e, h18⟩ := h18
      subst z15e
      refine z_if_ne (tgt := 19) hx hb (by decide) dX11_mark_14 (by decide) (fun c20 => ?_) (fun c20 => absurd c20 (by decide))
      refine lv_aload_n hx hb dX11_mark_19 rfl (lv_at hl 0 rfl) ?_
      refine z_getr (j2 := 60) hx hb hts (z_memU u11) hown hK.1 hS f11_4 (by decide) (zkd_of (rfl : zcd wC 0 = 0) rfl) (zrf_of (rfl : zcd wC 0 = 0) rfl) (Or.inl (hts _ (z_mem k246))) dX11_mark_20 ?_
      refine lv_iload_n hx hb dX11_mark_23 rfl (lv_at hl 1 rfl) ?_
      refine lv_iload_n hx hb dX11_mark_24 rfl (lv_at hl 2 rfl) ?_
      refine z_calli (va_runV (As := [.int (iI tk), .int (iI sd)]) (rest := []) ⟨hx, hb, hml, hown, hts⟩ (n_padd l D dA b M tk sd r_tk r_sd (by rw [g0]) (by omega) (by omega)) (cwV 2 hts (z_gV k604 k605 k606 k8 k607) rfl rfl rfl dm_X5_add ⟨Nat.le_of_ble_eq_true rfl, Nat.le_of_ble_eq_true rfl⟩) ⟨zP_blind, (z_recv hS hK.1 (by decide) (zkd_of (rfl : zcd wC 60 = 19) rfl) (by decide) (rfl : vwCl[5]? = some (RX5, TX5, 9))), z_pre hS hK⟩ rfl rfl hl.1 rfl (lv_room (Nat.le_of_ble_eq_true rfl)) dX11_mark_25 ⟨Nat.le_refl _, Nat.le_refl _⟩) hS hS0 (zms_sub rfl) (fun z25 M21 H locs r26 h22 F23 hS hS0 => ?_)
      have J24 := hS.2.1
      have h27 := h22
      obtain ⟨z25e, h27⟩ := h27
      subst z25e
      exact z_iret hx hb hr hlocks hS hS0 (by decide) (by first | exact trivial | exact ⟨rfl, trivial⟩ | omega | (refine ⟨by omega, trivial⟩)) dX11_mark_28
    · skip
      obtain ⟨z15e, h19⟩ := h19
      subst z15e
      refine z_if_ne (tgt := 19) hx hb (by decide) dX11_mark_14 (by decide) (fun c28 => absurd c28 (by decide)) (fun c28 => ?_)
      refine z_iconst hx hb dX11_mark_17 ?_
      exact z_iret hx hb hr hlocks hS hS0 (by decide) (by first | exact trivial | exact ⟨rfl, trivial⟩ | omega | (refine ⟨by omega, trivial⟩)) dX11_mark_18
  · skip
    obtain ⟨z5e, h9⟩ := h9
    subst z5e
    refine z_if_eq (tgt := 17) hx hb (by decide) dX11_mark_7 (by decide) (fun c29 => ?_) (fun c29 => absurd c29 (by decide))
    refine z_iconst hx hb dX11_mark_17 ?_
    exact z_iret hx hb hr hlocks hS hS0 (by decide) (by first | exact trivial | exact ⟨rfl, trivial⟩ | omega | (refine ⟨by omega, trivial⟩)) dX11_mark_18

set_option maxHeartbeats 4000000 in
set_option maxRecDepth 100000 in
theorem x_kept (l : Launch) (D : va_G) (dA : Nat → ClassId) (b : Nat) (M : zM) (g0 : M 60 2 = 0) : Met l yX11_kept (.code yX11_kept cX11_kept 1 (some .int) :: zt) (z_rm 1) (va_Pc [.ref (b + 0)] (zP D dA vwCl (z_tys dA) wC nC b M)) (va_Qi (zQi wC (zms wC []) M (fun z M1 => M1 = M ∧ (z = 0 ∧ True))) (zB D dA vwCl wC nC b) (zA nC b)) 0 0 (zA nC b) := by
  refine Met.ofW (cc := cX11_kept) (maxL := 1) (ret := (some .int)) (by decide) rfl ?_
  intro p e s m args below meth c s₁ B hml hv
  obtain ⟨hargs, hR0, hJ, hK⟩ := hv
  have hx := B.exec
  have hb := B.bytes
  have hr := B.returns
  have hts := atoms_spec (ws := .code yX11_kept cX11_kept 1 (some .int) :: zt) B.pre
  have hown : s.vm.findClass RX11 = some m.cls := findClass_of_methodNamed B.named
  have hlocks := B.notSynchronized
  have hS : zS D dA vwCl wC nC b (zms wC []) M M s.heap := ⟨hR0, hJ, zF_rf _ _⟩
  have hS0 : va_S (zA nC b) s.heap s.heap [] := va_S.rf
  have hl := lv_entry ([.ref (b + 0)]) (n := 1) (Nat.le_of_ble_eq_true rfl)
  have hent : entryFrame m args 1 = F0 m 0 ((lg_sl ([.ref (b + 0)]) ++ List.replicate (1 - (lg_sl ([.ref (b + 0)])).length) Slot.unset).toArray) [] := by rw [hargs]; exact lg_entry_eq m ([.ref (b + 0)]) 1
  rw [hent]
  generalize (lg_sl ([.ref (b + 0)]) ++ List.replicate (1 - (lg_sl ([.ref (b + 0)])).length) Slot.unset).toArray = ls at hl ⊢
  have hl : lv_has ls 1 [(0, .ref (b + 0))] := hl
  refine lv_aload_n hx hb dX11_kept_0 rfl (lv_at hl 0 rfl) ?_
  refine z_getr (j2 := 60) hx hb hts (z_memU u11) hown hK.1 hS f11_4 (by decide) (zkd_of (rfl : zcd wC 0 = 0) rfl) (zrf_of (rfl : zcd wC 0 = 0) rfl) (Or.inl (hts _ (z_mem k246))) dX11_kept_1 ?_
  refine lv_aload_n hx hb dX11_kept_4 rfl (lv_at hl 0 rfl) ?_
  refine z_getr (j2 := 32) hx hb hts (z_memU u11) hown hK.1 hS f11_2 (by decide) (zkd_of (rfl : zcd wC 0 = 0) rfl) (zrf_of (rfl : zcd wC 0 = 0) rfl) (Or.inl (hts _ (z_mem k244))) dX11_kept_5 ?_
  refine z_calli (va_runV (As := [.ref (b + 32)]) (rest := []) ⟨hx, hb, hml, hown, hts⟩ (n_marksTrue l D dA b M (by rw [g0])) (cwV 1 hts (z_gV k612 k613 k614 k8 k615) rfl rfl rfl dm_X5_marksTrue ⟨Nat.le_of_ble_eq_true rfl, Nat.le_of_ble_eq_true rfl⟩) ⟨zP_blind, (z_recv hS hK.1 (by decide) (zkd_of (rfl : zcd wC 60 = 19) rfl) (by decide) (rfl : vwCl[5]? = some (RX5, TX5, 9))), z_pre hS hK⟩ rfl rfl hl.1 rfl (lv_room (Nat.le_of_ble_eq_true rfl)) dX11_kept_8 ⟨Nat.le_refl _, Nat.le_refl _⟩) hS hS0 (zms_sub rfl) (fun z5 M1 H locs r6 h2 F3 hS hS0 => ?_)
  obtain ⟨h7, h2⟩ := h2
  rw [h7] at hS
  have h8 := h2
  obtain ⟨z5e, h8⟩ := h8
  subst z5e
  exact z_iret hx hb hr hlocks hS hS0 (by decide) (⟨rfl, by first | exact trivial | exact ⟨rfl, trivial⟩ | omega | (refine ⟨by omega, trivial⟩)⟩) dX11_kept_11

set_option maxHeartbeats 4000000 in
set_option maxRecDepth 100000 in
theorem x_plan (l : Launch) (D : va_G) (dA : Nat → ClassId) (b : Nat) (M : zM) (g0 : M 60 2 = 0) (g1 : M 32 2 = 0) : Met l yX11_plan (.code yX11_plan cX11_plan 2 (some .int) :: zt) (z_rm 2) (va_Pc [.ref (b + 0)] (zP D dA vwCl (z_tys dA) wC nC b M)) (va_Qi (zQi wC (zms wC [1727, 10, 3199]) M (fun z M1 => z = 0 ∧ True)) (zB D dA vwCl wC nC b) (zA nC b)) 0 0 (zA nC b) := by
  refine Met.ofW (cc := cX11_plan) (maxL := 2) (ret := (some .int)) (by decide) rfl ?_
  intro p e s m args below meth c s₁ B hml hv
  obtain ⟨hargs, hR0, hJ, hK⟩ := hv
  have hx := B.exec
  have hb := B.bytes
  have hr := B.returns
  have hts := atoms_spec (ws := .code yX11_plan cX11_plan 2 (some .int) :: zt) B.pre
  have hown : s.vm.findClass RX11 = some m.cls := findClass_of_methodNamed B.named
  have hlocks := B.notSynchronized
  have hS : zS D dA vwCl wC nC b (zms wC [1727, 10, 3199]) M M s.heap := ⟨hR0, hJ, zF_rf _ _⟩
  have hS0 : va_S (zA nC b) s.heap s.heap [] := va_S.rf
  have hl := lv_entry ([.ref (b + 0)]) (n := 2) (Nat.le_of_ble_eq_true rfl)
  have hent : entryFrame m args 2 = F0 m 0 ((lg_sl ([.ref (b + 0)]) ++ List.replicate (2 - (lg_sl ([.ref (b + 0)])).length) Slot.unset).toArray) [] := by rw [hargs]; exact lg_entry_eq m ([.ref (b + 0)]) 2
  rw [hent]
  generalize (lg_sl ([.ref (b + 0)]) ++ List.replicate (2 - (lg_sl ([.ref (b + 0)])).length) Slot.unset).toArray = ls at hl ⊢
  have hl : lv_has ls 2 [(0, .ref (b + 0))] := hl
  refine lv_aload_n hx hb dX11_plan_0 rfl (lv_at hl 0 rfl) ?_
  refine z_getr (j2 := 60) hx hb hts (z_memU u11) hown hK.1 hS f11_4 (by decide) (zkd_of (rfl : zcd wC 0 = 0) rfl) (zrf_of (rfl : zcd wC 0 = 0) rfl) (Or.inl (hts _ (z_mem k246))) dX11_plan_1 ?_
  refine lv_aload_n hx hb dX11_plan_4 rfl (lv_at hl 0 rfl) ?_
  refine z_getr (j2 := 32) hx hb hts (z_memU u11) hown hK.1 hS f11_2 (by decide) (zkd_of (rfl : zcd wC 0 = 0) rfl) (zrf_of (rfl : zcd wC 0 = 0) rfl) (Or.inl (hts _ (z_mem k244))) dX11_plan_5 ?_
  refine z_calli (va_runV (As := [.ref (b + 32)]) (rest := []) ⟨hx, hb, hml, hown, hts⟩ (n_pfind l D dA b M (by rw [g0]) (by rw [g1])) (cwV 1 hts (z_gV k621 k622 k623 k8 k624) rfl rfl rfl dm_X5_find ⟨Nat.le_of_ble_eq_true rfl, Nat.le_of_ble_eq_true rfl⟩) ⟨zP_blind, (z_recv hS hK.1 (by decide) (zkd_of (rfl : zcd wC 60 = 19) rfl) (by decide) (rfl : vwCl[5]? = some (RX5, TX5, 9))), z_pre hS hK⟩ rfl rfl hl.1 rfl (lv_room (Nat.le_of_ble_eq_true rfl)) dX11_plan_8 ⟨Nat.le_refl _, Nat.le_refl _⟩) hS hS0 (zms_sub rfl) (fun z5 M1 H locs r6 h2 F3 hS hS0 => ?_)
  have J4 := hS.2.1
  have h7 := h2
  obtain ⟨z5e, h7⟩ := h7
  subst z5e
  refine lv_istore_n (lv' := [(1, .int (iI 0)), (0, .ref (b + 0))]) hx hb dX11_plan_11 rfl hl (by decide) rfl (fun ls hl => ?_)
  refine lv_iload_n hx hb dX11_plan_12 rfl (lv_at hl 0 rfl) ?_
  refine z_iconst hx hb dX11_plan_13 ?_
  refine z_icmp_eq (tgt := 37) hx hb (by decide) (by decide) dX11_plan_14 (by decide) (fun c8 => absurd c8 (by decide)) (fun c8 => ?_)
  refine lv_aload_n hx hb dX11_plan_17 rfl (lv_at hl 1 rfl) ?_
  refine lv_aload_n hx hb dX11_plan_18 rfl (lv_at hl 1 rfl) ?_
  refine z_getr (j2 := 60) hx hb hts (z_memU u11) hown hK.1 hS f11_4 (by decide) (zkd_of (rfl : zcd wC 0 = 0) rfl) (zrf_of (rfl : zcd wC 0 = 0) rfl) (Or.inl (hts _ (z_mem k246))) dX11_plan_19 ?_
  refine z_getr (j2 := 63) hx hb hts (z_memU u5) hown hK.1 hS f5_3 (by decide) (zkd_of (rfl : zcd wC 60 = 19) rfl) (zrf_of (rfl : zcd wC 60 = 19) rfl) (Or.inl (hts _ (z_mem k148))) dX11_plan_22 ?_
  refine z_iconst hx hb dX11_plan_25 ?_
  refine lv_aload_n hx hb dX11_plan_26 rfl (lv_at hl 1 rfl) ?_
  refine z_getr (j2 := 32) hx hb hts (z_memU u11) hown hK.1 hS f11_2 (by decide) (zkd_of (rfl : zcd wC 0 = 0) rfl) (zrf_of (rfl : zcd wC 0 = 0) rfl) (Or.inl (hts _ (z_mem k244))) dX11_plan_27 ?_
  refine z_geti hx hb hts (z_memU u9) hown hK.1 hS f9_2 (by decide) (zkd_of (rfl : zcd wC 32 = 8) rfl) (Or.inl (hts _ (z_mem k120))) dX11_plan_30 ?_
  refine z_top (show M1 32 2 = 0 from by rw [F3 _ _ (zms_not (rfl : zcd wC 32 = 8) rfl), g1]) ?_
  refine z_imul hx hb dX11_plan_33 ?_
  refine z_top (show ((2 * 0) : Int) = 0 from (by decide)) ?_
  refine z_callv (va_runV (As := [.ref (b + 63), .int (iI 0)]) (rest := []) ⟨hx, hb, hml, hown, hts⟩ (n_tellP l D dA b M1 0 (by decide) (by omega)) (cwV 2 hts (z_gV k653 k654 k1379 k1 k655) rfl rfl rfl dm_X11_tell ⟨Nat.le_of_ble_eq_true rfl, Nat.le_of_ble_eq_true rfl⟩) ⟨zP_blind, (z_recv hS hK.1 (by decide) (zkd_of (rfl : zcd wC 0 = 0) rfl) (by decide) (rfl : vwCl[11]? = some (RX11, TX11, 11))), z_pre hS hK⟩ rfl rfl hl.1 rfl (lv_room (Nat.le_of_ble_eq_true rfl)) dX11_plan_34 ⟨Nat.le_refl _, Nat.le_refl _⟩) hS hS0 (zms_sub rfl) (fun M9 H locs h10 F11 hS hS0 => ?_)
  have J12 := hS.2.1
  refine lv_iload_n hx hb dX11_plan_37 rfl (lv_at hl 0 rfl) ?_
  exact z_iret hx hb hr hlocks hS hS0 (by decide) (by first | exact trivial | exact ⟨rfl, trivial⟩ | omega | (refine ⟨by omega, trivial⟩)) dX11_plan_38

set_option maxHeartbeats 4000000 in
set_option maxRecDepth 100000 in
theorem x_make (l : Launch) (D : va_G) (dA : Nat → ClassId) (b : Nat) (M : zM) (g0 : M 60 2 = 0) (g1 : M 32 2 = 0) : Met l yX11_make (.code yX11_make cX11_make 2 (some .int) :: zt) (z_rm 2) (va_Pc [.ref (b + 0)] (zP D dA vwCl (z_tys dA) wC nC b M)) (va_Qi (zQi wC (zms wC [1727]) M (fun z M1 => z = 0 ∧ True)) (zB D dA vwCl wC nC b) (zA nC b)) 0 0 (zA nC b) := by
  refine Met.ofW (cc := cX11_make) (maxL := 2) (ret := (some .int)) (by decide) rfl ?_
  intro p e s m args below meth c s₁ B hml hv
  obtain ⟨hargs, hR0, hJ, hK⟩ := hv
  have hx := B.exec
  have hb := B.bytes
  have hr := B.returns
  have hts := atoms_spec (ws := .code yX11_make cX11_make 2 (some .int) :: zt) B.pre
  have hown : s.vm.findClass RX11 = some m.cls := findClass_of_methodNamed B.named
  have hlocks := B.notSynchronized
  have hS : zS D dA vwCl wC nC b (zms wC [1727]) M M s.heap := ⟨hR0, hJ, zF_rf _ _⟩
  have hS0 : va_S (zA nC b) s.heap s.heap [] := va_S.rf
  have hl := lv_entry ([.ref (b + 0)]) (n := 2) (Nat.le_of_ble_eq_true rfl)
  have hent : entryFrame m args 2 = F0 m 0 ((lg_sl ([.ref (b + 0)]) ++ List.replicate (2 - (lg_sl ([.ref (b + 0)])).length) Slot.unset).toArray) [] := by rw [hargs]; exact lg_entry_eq m ([.ref (b + 0)]) 2
  rw [hent]
  generalize (lg_sl ([.ref (b + 0)]) ++ List.replicate (2 - (lg_sl ([.ref (b + 0)])).length) Slot.unset).toArray = ls at hl ⊢
  have hl : lv_has ls 2 [(0, .ref (b + 0))] := hl
  refine lv_aload_n hx hb dX11_make_0 rfl (lv_at hl 0 rfl) ?_
  refine z_getr (j2 := 60) hx hb hts (z_memU u11) hown hK.1 hS f11_4 (by decide) (zkd_of (rfl : zcd wC 0 = 0) rfl) (zrf_of (rfl : zcd wC 0 = 0) rfl) (Or.inl (hts _ (z_mem k246))) dX11_make_1 ?_
  refine lv_aload_n hx hb dX11_make_4 rfl (lv_at hl 0 rfl) ?_
  refine z_getr (j2 := 32) hx hb hts (z_memU u11) hown hK.1 hS f11_2 (by decide) (zkd_of (rfl : zcd wC 0 = 0) rfl) (zrf_of (rfl : zcd wC 0 = 0) rfl) (Or.inl (hts _ (z_mem k244))) dX11_make_5 ?_
  refine z_calli (va_runV (As := [.ref (b + 32)]) (rest := []) ⟨hx, hb, hml, hown, hts⟩ (n_pfind l D dA b M (by rw [g0]) (by rw [g1])) (cwV 1 hts (z_gV k621 k622 k623 k8 k624) rfl rfl rfl dm_X5_find ⟨Nat.le_of_ble_eq_true rfl, Nat.le_of_ble_eq_true rfl⟩) ⟨zP_blind, (z_recv hS hK.1 (by decide) (zkd_of (rfl : zcd wC 60 = 19) rfl) (by decide) (rfl : vwCl[5]? = some (RX5, TX5, 9))), z_pre hS hK⟩ rfl rfl hl.1 rfl (lv_room (Nat.le_of_ble_eq_true rfl)) dX11_make_8 ⟨Nat.le_refl _, Nat.le_refl _⟩) hS hS0 (zms_sub rfl) (fun z5 M1 H locs r6 h2 F3 hS hS0 => ?_)
  have J4 := hS.2.1
  have h7 := h2
  obtain ⟨z5e, h7⟩ := h7
  subst z5e
  refine lv_istore_n (lv' := [(1, .int (iI 0)), (0, .ref (b + 0))]) hx hb dX11_make_11 rfl hl (by decide) rfl (fun ls hl => ?_)
  refine lv_iload_n hx hb dX11_make_12 rfl (lv_at hl 0 rfl) ?_
  refine z_iconst hx hb dX11_make_13 ?_
  refine z_icmp_eq (tgt := 28) hx hb (by decide) (by decide) dX11_make_14 (by decide) (fun c8 => absurd c8 (by decide)) (fun c8 => ?_)
  refine lv_aload_n hx hb dX11_make_17 rfl (lv_at hl 1 rfl) ?_
  refine z_getr (j2 := 60) hx hb hts (z_memU u11) hown hK.1 hS f11_4 (by decide) (zkd_of (rfl : zcd wC 0 = 0) rfl) (zrf_of (rfl : zcd wC 0 = 0) rfl) (Or.inl (hts _ (z_mem k246))) dX11_make_18 ?_
  refine lv_aload_n hx hb dX11_make_21 rfl (lv_at hl 1 rfl) ?_
  refine z_getr (j2 := 32) hx hb hts (z_memU u11) hown hK.1 hS f11_2 (by decide) (zkd_of (rfl : zcd wC 0 = 0) rfl) (zrf_of (rfl : zcd wC 0 = 0) rfl) (Or.inl (hts _ (z_mem k244))) dX11_make_22 ?_
  refine z_callv (va_runV (As := [.ref (b + 32)]) (rest := []) ⟨hx, hb, hml, hown, hts⟩ (n_carryOut l D dA b M1 (by rw [F3 _ _ (zms_not (rfl : zcd wC 32 = 8) rfl), g1])) (cwV 1 hts (z_gV k662 k663 k664 k8 k665) rfl rfl rfl dm_X5_carryOut ⟨Nat.le_of_ble_eq_true rfl, Nat.le_of_ble_eq_true rfl⟩) ⟨zP_blind, (z_recv hS hK.1 (by decide) (zkd_of (rfl : zcd wC 60 = 19) rfl) (by decide) (rfl : vwCl[5]? = some (RX5, TX5, 9))), z_pre hS hK⟩ rfl rfl hl.1 rfl (lv_room (Nat.le_of_ble_eq_true rfl)) dX11_make_25 ⟨Nat.le_refl _, Nat.le_refl _⟩) hS hS0 (zms_sub rfl) (fun M9 H locs h10 F11 hS hS0 => ?_)
  obtain ⟨h13, h10⟩ := h10
  rw [h13] at hS
  refine lv_iload_n hx hb dX11_make_28 rfl (lv_at hl 0 rfl) ?_
  exact z_iret hx hb hr hlocks hS hS0 (by decide) (by first | exact trivial | exact ⟨rfl, trivial⟩ | omega | (refine ⟨by omega, trivial⟩)) dX11_make_29

set_option maxHeartbeats 4000000 in
set_option maxRecDepth 100000 in
theorem x_cut (l : Launch) (D : va_G) (dA : Nat → ClassId) (b : Nat) (M : zM) (rg : Int) (cu : Int) (r_rg : R32 rg) (r_cu : R32 cu) (g0 : M 32 2 = 0) : Met l yX11_cut (.code yX11_cut cX11_cut 4 (some .int) :: zt) (z_rm 1) (va_Pc [.ref (b + 0), .int (iI rg), .int (iI cu)] (zP D dA vwCl (z_tys dA) wC nC b M)) (va_Qi (zQi wC (zms wC []) M (fun z M1 => M1 = M ∧ (z = -1 ∧ True))) (zB D dA vwCl wC nC b) (zA nC b)) 0 0 (zA nC b) := by
  refine Met.ofW (cc := cX11_cut) (maxL := 4) (ret := (some .int)) (by decide) rfl ?_
  intro p e s m args below meth c s₁ B hml hv
  obtain ⟨hargs, hR0, hJ, hK⟩ := hv
  have hx := B.exec
  have hb := B.bytes
  have hr := B.returns
  have hts := atoms_spec (ws := .code yX11_cut cX11_cut 4 (some .int) :: zt) B.pre
  have hown : s.vm.findClass RX11 = some m.cls := findClass_of_methodNamed B.named
  have hlocks := B.notSynchronized
  have hS : zS D dA vwCl wC nC b (zms wC []) M M s.heap := ⟨hR0, hJ, zF_rf _ _⟩
  have hS0 : va_S (zA nC b) s.heap s.heap [] := va_S.rf
  have hl := lv_entry ([.ref (b + 0), .int (iI rg), .int (iI cu)]) (n := 4) (Nat.le_of_ble_eq_true rfl)
  have hent : entryFrame m args 4 = F0 m 0 ((lg_sl ([.ref (b + 0), .int (iI rg), .int (iI cu)]) ++ List.replicate (4 - (lg_sl ([.ref (b + 0), .int (iI rg), .int (iI cu)])).length) Slot.unset).toArray) [] := by rw [hargs]; exact lg_entry_eq m ([.ref (b + 0), .int (iI rg), .int (iI cu)]) 4
  rw [hent]
  generalize (lg_sl ([.ref (b + 0), .int (iI rg), .int (iI cu)]) ++ List.replicate (4 - (lg_sl ([.ref (b + 0), .int (iI rg), .int (iI cu)])).length) Slot.unset).toArray = ls at hl ⊢
  have hl : lv_has ls 4 [(0, .ref (b + 0)), (1, .int (iI rg)), (2, .int (iI cu))] := hl
  refine lv_aload_n hx hb dX11_cut_0 rfl (lv_at hl 0 rfl) ?_
  refine z_getr (j2 := 32) hx hb hts (z_memU u11) hown hK.1 hS f11_2 (by decide) (zkd_of (rfl : zcd wC 0 = 0) rfl) (zrf_of (rfl : zcd wC 0 = 0) rfl) (Or.inl (hts _ (z_mem k244))) dX11_cut_1 ?_
  refine lv_iload_n hx hb dX11_cut_4 rfl (lv_at hl 1 rfl) ?_
  refine z_callq (va_runV (As := [.int (iI rg)]) (rest := []) ⟨hx, hb, hml, hown, hts⟩ (n_find l D dA b M rg r_rg (by rw [g0])) (cwV 1 hts (z_gV k411 k412 k413 k4 k414) rfl rfl rfl dm_X9_find ⟨Nat.le_of_ble_eq_true rfl, Nat.le_of_ble_eq_true rfl⟩) ⟨zP_blind, (z_recv hS hK.1 (by decide) (zkd_of (rfl : zcd wC 32 = 8) rfl) (by decide) (rfl : vwCl[9]? = some (RX9, TX9, 3))), z_pre hS hK⟩ rfl rfl hl.1 rfl (lv_room (Nat.le_of_ble_eq_true rfl)) dX11_cut_5 ⟨Nat.le_refl _, Nat.le_refl _⟩) hS hS0 (zms_sub rfl) (fun z5 M1 H locs h2 F3 hS hS0 => ?_)
  obtain ⟨h6, h2⟩ := h2
  rw [h6] at hS
  have h7 := h2
  obtain ⟨z5e, h7⟩ := h7
  subst z5e
  show W _ _ _ _ _ _ _ _ _ _ _ _ _ _ _ (F0 m _ ls (.null :: []))
  refine lv_astore_nN (lv' := [(3, .null), (0, .ref (b + 0)), (1, .int (iI rg)), (2, .int (iI cu))]) hx hb dX11_cut_8 rfl hl (by decide) rfl (fun ls hl => ?_)
  refine lv_aload_nN hx hb dX11_cut_9 rfl (lv_at hl 0 rfl) ?_
  refine lv_ifnullN (tgt := 24) hx hb dX11_cut_10 (by decide) ?_
  refine z_iconst hx hb dX11_cut_24 ?_
  exact z_iret hx hb hr hlocks hS hS0 (by decide) (⟨rfl, by first | exact trivial | exact ⟨rfl, trivial⟩ | omega | (refine ⟨by omega, trivial⟩)⟩) dX11_cut_25

set_option maxHeartbeats 4000000 in
set_option maxRecDepth 100000 in
theorem x_weight (l : Launch) (D : va_G) (dA : Nat → ClassId) (b : Nat) (M : zM) (sd : Int) (v : Int) (r_sd : R32 sd) (r_v : R32 v) (a0 : ∀ k : Nat, k < 10 → M 80 k = 100) : Met l yX11_weight (.code yX11_weight cX11_weight 3 (some .int) :: zt) (z_rm 2) (va_Pc [.ref (b + 0), .int (iI sd), .int (iI v)] (zP D dA vwCl (z_tys dA) wC nC b M)) (va_Qi (zQi wC (zms wC [2111]) M (fun z M1 => ((1 ≤ sd ∧ sd ≤ 9) ∧ (0 ≤ v ∧ v ≤ 200) ∧ z = 100) ∨ (¬ ((1 ≤ sd ∧ sd ≤ 9) ∧ 0 ≤ v ∧ v ≤ 200) ∧ z = -1))) (zB D dA vwCl wC nC b) (zA nC b)) 0 0 (zA nC b) := by
  refine Met.ofW (cc := cX11_weight) (maxL := 3) (ret := (some .int)) (by decide) rfl ?_
  intro p e s m args below meth c s₁ B hml hv
  obtain ⟨hargs, hR0, hJ, hK⟩ := hv
  have hx := B.exec
  have hb := B.bytes
  have hr := B.returns
  have hts := atoms_spec (ws := .code yX11_weight cX11_weight 3 (some .int) :: zt) B.pre
  have hown : s.vm.findClass RX11 = some m.cls := findClass_of_methodNamed B.named
  have hlocks := B.notSynchronized
  have hS : zS D dA vwCl wC nC b (zms wC [2111]) M M s.heap := ⟨hR0, hJ, zF_rf _ _⟩
  have hS0 : va_S (zA nC b) s.heap s.heap [] := va_S.rf
  have hl := lv_entry ([.ref (b + 0), .int (iI sd), .int (iI v)]) (n := 3) (Nat.le_of_ble_eq_true rfl)
  have hent : entryFrame m args 3 = F0 m 0 ((lg_sl ([.ref (b + 0), .int (iI sd), .int (iI v)]) ++ List.replicate (3 - (lg_sl ([.ref (b + 0), .int (iI sd), .int (iI v)])).length) Slot.unset).toArray) [] := by rw [hargs]; exact lg_entry_eq m ([.ref (b + 0), .int (iI sd), .int (iI v)]) 3
  rw [hent]
  generalize (lg_sl ([.ref (b + 0), .int (iI sd), .int (iI v)]) ++ List.replicate (3 - (lg_sl ([.ref (b + 0), .int (iI sd), .int (iI v)])).length) Slot.unset).toArray = ls at hl ⊢
  have hl : lv_has ls 3 [(0, .ref (b + 0)), (1, .int (iI sd)), (2, .int (iI v))] := hl
  refine lv_iload_n hx hb dX11_weight_0 rfl (lv_at hl 1 rfl) ?_
  refine z_calli (va_runS (As := [.int (iI sd)]) (rest := []) ⟨hx, hb, hml, hown, hts⟩ (c_isSound l D dA b M sd r_sd) (va_cwS 1 hts (z_gS k601 k602 k1 k603) rfl rfl rfl dm_X11_isSound.2 ⟨Nat.le_of_ble_eq_true rfl, Nat.le_of_ble_eq_true rfl⟩) ⟨zP_blind, z_pre hS hK⟩ rfl rfl hl.1 rfl (lv_room (Nat.le_of_ble_eq_true rfl)) dX11_weight_1 ⟨Nat.le_refl _, Nat.le_refl _⟩) hS hS0 (zms_sub rfl) (fun z5 M1 H locs r6 h2 F3 hS hS0 => ?_)
  obtain ⟨h7, h2⟩ := h2
  rw [h7] at hS
  rcases h2 with h8 | h9
  · skip
    obtain ⟨z5e, h8⟩ := h8
    subst z5e
    refine z_if_eq (tgt := 18) hx hb (by decide) dX11_weight_4 (by decide) (fun c10 => absurd c10 (by decide)) (fun c10 => ?_)
    refine lv_iload_n hx hb dX11_weight_7 rfl (lv_at hl 2 rfl) ?_
    refine z_iconst hx hb dX11_weight_8 ?_
    refine z_sipush hx hb (by decide) dX11_weight_9 ?_
    refine z_calli (va_runS (As := [.int (iI v), .int (iI 0), .int (iI 200)]) (rest := []) ⟨hx, hb, hml, hown, hts⟩ (c_within l D dA b M v 0 200 r_v (by decide) (by decide)) (va_cwS 3 hts (z_gS k382 k383 k1 k384) rfl rfl rfl dm_X11_within.2 ⟨Nat.le_of_ble_eq_true rfl, Nat.le_of_ble_eq_true rfl⟩) ⟨zP_blind, z_pre hS hK⟩ rfl rfl hl.1 rfl (lv_room (Nat.le_of_ble_eq_true rfl)) dX11_weight_12 ⟨Nat.le_refl _, Nat.le_refl _⟩) hS hS0 (zms_sub rfl) (fun z15 M11 H locs r16 h12 F13 hS hS0 => ?_)
    obtain ⟨h17, h12⟩ := h12
    rw [h17] at hS
    rcases h12 with h18 | h19
    · skip
      obtain ⟨z15e, h18⟩ := h18
      subst z15e
      refine z_if_ne (tgt := 20) hx hb (by decide) dX11_weight_15 (by decide) (fun c20 => ?_) (fun c20 => absurd c20 (by decide))
      refine lv_aload_n hx hb dX11_weight_20 rfl (lv_at hl 0 rfl) ?_
      refine z_getr (j2 := 78) hx hb hts (z_memU u11) hown hK.1 hS f11_5 (by decide) (zkd_of (rfl : zcd wC 0 = 0) rfl) (zrf_of (rfl : zcd wC 0 = 0) rfl) (Or.inl (hts _ (z_mem k247))) dX11_weight_21 ?_
      refine lv_iload_n hx hb dX11_weight_24 rfl (lv_at hl 1 rfl) ?_
      refine lv_iload_n hx hb dX11_weight_25 rfl (lv_at hl 2 rfl) ?_
      refine z_calli (va_runV (As := [.int (iI sd), .int (iI v)]) (rest := []) ⟨hx, hb, hml, hown, hts⟩ (n_weigh l D dA b M sd v r_sd r_v a0 (by omega) (by omega)) (cwV 2 hts (z_gV k679 k680 k681 k9 k682) rfl rfl rfl dm_X0_weigh ⟨Nat.le_of_ble_eq_true rfl, Nat.le_of_ble_eq_true rfl⟩) ⟨zP_blind, (z_recv hS hK.1 (by decide) (zkd_of (rfl : zcd wC 78 = 30) rfl) (by decide) (rfl : vwCl[0]? = some (RX0, TX0, 8))), z_pre hS hK⟩ rfl rfl hl.1 rfl (lv_room (Nat.le_of_ble_eq_true rfl)) dX11_weight_26 ⟨Nat.le_refl _, Nat.le_refl _⟩) hS hS0 (zms_sub rfl) (fun z25 M21 H locs r26 h22 F23 hS hS0 => ?_)
      have J24 := hS.2.1
      have h27 := h22
      obtain ⟨z25e, h27⟩ := h27
      subst z25e
      exact z_iret hx hb hr hlocks hS hS0 (by decide) (by first | exact trivial | exact ⟨rfl, trivial⟩ | omega | (refine ⟨by omega, trivial⟩)) dX11_weight_29
    · skip
      obtain ⟨z15e, h19⟩ := h19
      subst z15e
      refine z_if_ne (tgt := 20) hx hb (by decide) dX11_weight_15 (by decide) (fun c28 => absurd c28 (by decide)) (fun c28 => ?_)
      refine z_iconst hx hb dX11_weight_18 ?_
      exact z_iret hx hb hr hlocks hS hS0 (by decide) (by first | exact trivial | exact ⟨rfl, trivial⟩ | omega | (refine ⟨by omega, trivial⟩)) dX11_weight_19
  · skip
    obtain ⟨z5e, h9⟩ := h9
    subst z5e
    refine z_if_eq (tgt := 18) hx hb (by decide) dX11_weight_4 (by decide) (fun c29 => ?_) (fun c29 => absurd c29 (by decide))
    refine z_iconst hx hb dX11_weight_18 ?_
    exact z_iret hx hb hr hlocks hS hS0 (by decide) (by first | exact trivial | exact ⟨rfl, trivial⟩ | omega | (refine ⟨by omega, trivial⟩)) dX11_weight_19

set_option maxHeartbeats 4000000 in
set_option maxRecDepth 100000 in
theorem x_heads (l : Launch) (D : va_G) (dA : Nat → ClassId) (b : Nat) (M : zM) (d : Int) (a : Int) (ed : Int) (bg : Int) (r_d : R32 d) (r_a : R32 a) (r_ed : R32 ed) (r_bg : R32 bg) : Met l yX11_heads (.code yX11_heads cX11_heads 5 (some .boolean) :: zt) (z_rm 1) (va_Pc [.ref (b + 0), .int (iI d), .int (iI a), .int (iI ed), .int (iI bg)] (zP D dA vwCl (z_tys dA) wC nC b M)) (va_Qi (zQi wC (zms wC [1923, 1924, 1925, 1926]) M (fun z M1 => ((1 ≤ d ∧ d ≤ 20 ∧ 0 ≤ a ∧ a ≤ 100 ∧ 1 ≤ ed ∧ ed ≤ 20 ∧ 0 ≤ bg ∧ bg ≤ 100) ∧ z = 1) ∨ (¬ (1 ≤ d ∧ d ≤ 20 ∧ 0 ≤ a ∧ a ≤ 100 ∧ 1 ≤ ed ∧ ed ≤ 20 ∧ 0 ≤ bg ∧ bg ≤ 100) ∧ z = 0))) (zB D dA vwCl wC nC b) (zA nC b)) 0 0 (zA nC b) := by
  refine Met.ofW (cc := cX11_heads) (maxL := 5) (ret := (some .boolean)) (by decide) rfl ?_
  intro p e s m args below meth c s₁ B hml hv
  obtain ⟨hargs, hR0, hJ, hK⟩ := hv
  have hx := B.exec
  have hb := B.bytes
  have hr := B.returns
  have hts := atoms_spec (ws := .code yX11_heads cX11_heads 5 (some .boolean) :: zt) B.pre
  have hown : s.vm.findClass RX11 = some m.cls := findClass_of_methodNamed B.named
  have hlocks := B.notSynchronized
  have hS : zS D dA vwCl wC nC b (zms wC [1923, 1924, 1925, 1926]) M M s.heap := ⟨hR0, hJ, zF_rf _ _⟩
  have hS0 : va_S (zA nC b) s.heap s.heap [] := va_S.rf
  have hl := lv_entry ([.ref (b + 0), .int (iI d), .int (iI a), .int (iI ed), .int (iI bg)]) (n := 5) (Nat.le_of_ble_eq_true rfl)
  have hent : entryFrame m args 5 = F0 m 0 ((lg_sl ([.ref (b + 0), .int (iI d), .int (iI a), .int (iI ed), .int (iI bg)]) ++ List.replicate (5 - (lg_sl ([.ref (b + 0), .int (iI d), .int (iI a), .int (iI ed), .int (iI bg)])).length) Slot.unset).toArray) [] := by rw [hargs]; exact lg_entry_eq m ([.ref (b + 0), .int (iI d), .int (iI a), .int (iI ed), .int (iI bg)]) 5
  rw [hent]
  generalize (lg_sl ([.ref (b + 0), .int (iI d), .int (iI a), .int (iI ed), .int (iI bg)]) ++ List.replicate (5 - (lg_sl ([.ref (b + 0), .int (iI d), .int (iI a), .int (iI ed), .int (iI bg)])).length) Slot.unset).toArray = ls at hl ⊢
  have hl : lv_has ls 5 [(0, .ref (b + 0)), (1, .int (iI d)), (2, .int (iI a)), (3, .int (iI ed)), (4, .int (iI bg))] := hl
  refine lv_iload_n hx hb dX11_heads_0 rfl (lv_at hl 1 rfl) ?_
  refine z_iconst hx hb dX11_heads_1 ?_
  refine z_bipush hx hb (by decide) dX11_heads_2 ?_
  refine z_calli (va_runS (As := [.int (iI d), .int (iI 1), .int (iI 20)]) (rest := []) ⟨hx, hb, hml, hown, hts⟩ (c_within l D dA b M d 1 20 r_d (by decide) (by decide)) (va_cwS 3 hts (z_gS k382 k383 k1 k384) rfl rfl rfl dm_X11_within.2 ⟨Nat.le_of_ble_eq_true rfl, Nat.le_of_ble_eq_true rfl⟩) ⟨zP_blind, z_pre hS hK⟩ rfl rfl hl.1 rfl (lv_room (Nat.le_of_ble_eq_true rfl)) dX11_heads_4 ⟨Nat.le_refl _, Nat.le_refl _⟩) hS hS0 (zms_sub rfl) (fun z5 M1 H locs r6 h2 F3 hS hS0 => ?_)
  obtain ⟨h7, h2⟩ := h2
  rw [h7] at hS
  rcases h2 with h8 | h9
  · skip
    obtain ⟨z5e, h8⟩ := h8
    subst z5e
    refine z_if_eq (tgt := 41) hx hb (by decide) dX11_heads_7 (by decide) (fun c10 => absurd c10 (by decide)) (fun c10 => ?_)
    refine lv_iload_n hx hb dX11_heads_10 rfl (lv_at hl 2 rfl) ?_
    refine z_iconst hx hb dX11_heads_11 ?_
    refine z_bipush hx hb (by decide) dX11_heads_12 ?_
    refine z_calli (va_runS (As := [.int (iI a), .int (iI 0), .int (iI 100)]) (rest := []) ⟨hx, hb, hml, hown, hts⟩ (c_within l D dA b M a 0 100 r_a (by decide) (by decide)) (va_cwS 3 hts (z_gS k382 k383 k1 k384) rfl rfl rfl dm_X11_within.2 ⟨Nat.le_of_ble_eq_true rfl, Nat.le_of_ble_eq_true rfl⟩) ⟨zP_blind, z_pre hS hK⟩ rfl rfl hl.1 rfl (lv_room (Nat.le_of_ble_eq_true rfl)) dX11_heads_14 ⟨Nat.le_refl _, Nat.le_refl _⟩) hS hS0 (zms_sub rfl) (fun z15 M11 H locs r16 h12 F13 hS hS0 => ?_)
    obtain ⟨h17, h12⟩ := h12
    rw [h17] at hS
    rcases h12 with h18 | h19
    · skip
      obtain ⟨z15e, h18⟩ := h18
      subst z15e
      refine z_if_eq (tgt := 41) hx hb (by decide) dX11_heads_17 (by decide) (fun c20 => absurd c20 (by decide)) (fun c20 => ?_)
      refine lv_iload_n hx hb dX11_heads_20 rfl (lv_at hl 3 rfl) ?_
      refine z_iconst hx hb dX11_heads_21 ?_
      refine z_bipush hx hb (by decide) dX11_heads_22 ?_
      refine z_calli (va_runS (As := [.int (iI ed), .int (iI 1), .int (iI 20)]) (rest := []) ⟨hx, hb, hml, hown, hts⟩ (c_within l D dA b M ed 1 20 r_ed (by decide) (by decide)) (va_cwS 3 hts (z_gS k382 k383 k1 k384) rfl rfl rfl dm_X11_within.2 ⟨Nat.le_of_ble_eq_true rfl, Nat.le_of_ble_eq_true rfl⟩) ⟨zP_blind, z_pre hS hK⟩ rfl rfl hl.1 rfl (lv_room (Nat.le_of_ble_eq_true rfl)) dX11_heads_24 ⟨Nat.le_refl _, Nat.le_refl _⟩) hS hS0 (zms_sub rfl) (fun z25 M21 H locs r26 h22 F23 hS hS0 => ?_)
      obtain ⟨h27, h22⟩ := h22
      rw [h27] at hS
      rcases h22 with h28 | h29
      · skip
        obtain ⟨z25e, h28⟩ := h28
        subst z25e
        refine z_if_eq (tgt := 41) hx hb (by decide) dX11_heads_27 (by decide) (fun c30 => absurd c30 (by decide)) (fun c30 => ?_)
        refine lv_iload hx hb dX11_heads_30 (lv_at hl 4 rfl) ?_
        refine z_iconst hx hb dX11_heads_32 ?_
        refine z_bipush hx hb (by decide) dX11_heads_33 ?_
        refine z_calli (va_runS (As := [.int (iI bg), .int (iI 0), .int (iI 100)]) (rest := []) ⟨hx, hb, hml, hown, hts⟩ (c_within l D dA b M bg 0 100 r_bg (by decide) (by decide)) (va_cwS 3 hts (z_gS k382 k383 k1 k384) rfl rfl rfl dm_X11_within.2 ⟨Nat.le_of_ble_eq_true rfl, Nat.le_of_ble_eq_true rfl⟩) ⟨zP_blind, z_pre hS hK⟩ rfl rfl hl.1 rfl (lv_room (Nat.le_of_ble_eq_true rfl)) dX11_heads_35 ⟨Nat.le_refl _, Nat.le_refl _⟩) hS hS0 (zms_sub rfl) (fun z35 M31 H locs r36 h32 F33 hS hS0 => ?_)
        obtain ⟨h37, h32⟩ := h32
        rw [h37] at hS
        rcases h32 with h38 | h39
        · skip
          obtain ⟨z35e, h38⟩ := h38
          subst z35e
          refine z_if_ne (tgt := 43) hx hb (by decide) dX11_heads_38 (by decide) (fun c40 => ?_) (fun c40 => absurd c40 (by decide))
          refine lv_aload_n hx hb dX11_heads_43 rfl (lv_at hl 0 rfl) ?_
          refine z_getr (j2 := 78) hx hb hts (z_memU u11) hown hK.1 hS f11_5 (by decide) (zkd_of (rfl : zcd wC 0 = 0) rfl) (zrf_of (rfl : zcd wC 0 = 0) rfl) (Or.inl (hts _ (z_mem k247))) dX11_heads_44 ?_
          refine lv_iload_n hx hb dX11_heads_47 rfl (lv_at hl 1 rfl) ?_
          refine lv_iload_n hx hb dX11_heads_48 rfl (lv_at hl 2 rfl) ?_
          refine lv_iload_n hx hb dX11_heads_49 rfl (lv_at hl 3 rfl) ?_
          refine lv_iload hx hb dX11_heads_50 (lv_at hl 4 rfl) ?_
          refine z_callv (va_runV (As := [.int (iI d), .int (iI a), .int (iI ed), .int (iI bg)]) (rest := []) ⟨hx, hb, hml, hown, hts⟩ (n_place l D dA b M d a ed bg r_d r_a r_ed r_bg (by omega) (by omega) (by omega) (by omega)) (cwV 4 hts (z_gV k687 k688 k689 k9 k690) rfl rfl rfl dm_X0_place ⟨Nat.le_of_ble_eq_true rfl, Nat.le_of_ble_eq_true rfl⟩) ⟨zP_blind, (z_recv hS hK.1 (by decide) (zkd_of (rfl : zcd wC 78 = 30) rfl) (by decide) (rfl : vwCl[0]? = some (RX0, TX0, 8))), z_pre hS hK⟩ rfl rfl hl.1 rfl (lv_room (Nat.le_of_ble_eq_true rfl)) dX11_heads_52 ⟨Nat.le_refl _, Nat.le_refl _⟩) hS hS0 (zms_sub rfl) (fun M41 H locs h42 F43 hS hS0 => ?_)
          have J44 := hS.2.1
          refine z_iconst hx hb dX11_heads_55 ?_
          exact z_zret hx hb hr hlocks hS hS0 (by first | decide | omega) (by first | exact trivial | exact ⟨rfl, trivial⟩ | omega | (refine ⟨by omega, trivial⟩)) dX11_heads_56
        · skip
          obtain ⟨z35e, h39⟩ := h39
          subst z35e
          refine z_if_ne (tgt := 43) hx hb (by decide) dX11_heads_38 (by decide) (fun c45 => absurd c45 (by decide)) (fun c45 => ?_)
          refine z_iconst hx hb dX11_heads_41 ?_
          exact z_zret hx hb hr hlocks hS hS0 (by first | decide | omega) (by first | exact trivial | exact ⟨rfl, trivial⟩ | omega | (refine ⟨by omega, trivial⟩)) dX11_heads_42
      · skip
        obtain ⟨z25e, h29⟩ := h29
        subst z25e
        refine z_if_eq (tgt := 41) hx hb (by decide) dX11_heads_27 (by decide) (fun c46 => ?_) (fun c46 => absurd c46 (by decide))
        refine z_iconst hx hb dX11_heads_41 ?_
        exact z_zret hx hb hr hlocks hS hS0 (by first | decide | omega) (by first | exact trivial | exact ⟨rfl, trivial⟩ | omega | (refine ⟨by omega, trivial⟩)) dX11_heads_42
    · skip
      obtain ⟨z15e, h19⟩ := h19
      subst z15e
      refine z_if_eq (tgt := 41) hx hb (by decide) dX11_heads_17 (by decide) (fun c47 => ?_) (fun c47 => absurd c47 (by decide))
      refine z_iconst hx hb dX11_heads_41 ?_
      exact z_zret hx hb hr hlocks hS hS0 (by first | decide | omega) (by first | exact trivial | exact ⟨rfl, trivial⟩ | omega | (refine ⟨by omega, trivial⟩)) dX11_heads_42
  · skip
    obtain ⟨z5e, h9⟩ := h9
    subst z5e
    refine z_if_eq (tgt := 41) hx hb (by decide) dX11_heads_7 (by decide) (fun c48 => ?_) (fun c48 => absurd c48 (by decide))
    refine z_iconst hx hb dX11_heads_41 ?_
    exact z_zret hx hb hr hlocks hS hS0 (by first | decide | omega) (by first | exact trivial | exact ⟨rfl, trivial⟩ | omega | (refine ⟨by omega, trivial⟩)) dX11_heads_42

set_option maxHeartbeats 4000000 in
set_option maxRecDepth 100000 in
theorem x_stop (l : Launch) (D : va_G) (dA : Nat → ClassId) (b : Nat) (M : zM) (v : Int) (r_v : R32 v) (g0 : M 78 0 = 0) : Met l yX11_stop (.code yX11_stop cX11_stop 3 (some .int) :: zt) (z_rm 1) (va_Pc [.ref (b + 0), .int (iI v)] (zP D dA vwCl (z_tys dA) wC nC b M)) (va_Qi (zQi wC (zms wC [1920]) M (fun z M1 => (0 ≤ v ∧ v ≤ 2000 ∧ z = 0) ∨ ((v < 0 ∨ 2000 < v) ∧ z = -1))) (zB D dA vwCl wC nC b) (zA nC b)) 0 0 (zA nC b) := by
  refine Met.ofW (cc := cX11_stop) (maxL := 3) (ret := (some .int)) (by decide) rfl ?_
  intro p e s m args below meth c s₁ B hml hv
  obtain ⟨hargs, hR0, hJ, hK⟩ := hv
  have hx := B.exec
  have hb := B.bytes
  have hr := B.returns
  have hts := atoms_spec (ws := .code yX11_stop cX11_stop 3 (some .int) :: zt) B.pre
  have hown : s.vm.findClass RX11 = some m.cls := findClass_of_methodNamed B.named
  have hlocks := B.notSynchronized
  have hS : zS D dA vwCl wC nC b (zms wC [1920]) M M s.heap := ⟨hR0, hJ, zF_rf _ _⟩
  have hS0 : va_S (zA nC b) s.heap s.heap [] := va_S.rf
  have hl := lv_entry ([.ref (b + 0), .int (iI v)]) (n := 3) (Nat.le_of_ble_eq_true rfl)
  have hent : entryFrame m args 3 = F0 m 0 ((lg_sl ([.ref (b + 0), .int (iI v)]) ++ List.replicate (3 - (lg_sl ([.ref (b + 0), .int (iI v)])).length) Slot.unset).toArray) [] := by rw [hargs]; exact lg_entry_eq m ([.ref (b + 0), .int (iI v)]) 3
  rw [hent]
  generalize (lg_sl ([.ref (b + 0), .int (iI v)]) ++ List.replicate (3 - (lg_sl ([.ref (b + 0), .int (iI v)])).length) Slot.unset).toArray = ls at hl ⊢
  have hl : lv_has ls 3 [(0, .ref (b + 0)), (1, .int (iI v))] := hl
  refine lv_iload_n hx hb dX11_stop_0 rfl (lv_at hl 1 rfl) ?_
  refine z_iconst hx hb dX11_stop_1 ?_
  refine z_sipush hx hb (by decide) dX11_stop_2 ?_
  refine z_calli (va_runS (As := [.int (iI v), .int (iI 0), .int (iI 2000)]) (rest := []) ⟨hx, hb, hml, hown, hts⟩ (c_within l D dA b M v 0 2000 r_v (by decide) (by decide)) (va_cwS 3 hts (z_gS k382 k383 k1 k384) rfl rfl rfl dm_X11_within.2 ⟨Nat.le_of_ble_eq_true rfl, Nat.le_of_ble_eq_true rfl⟩) ⟨zP_blind, z_pre hS hK⟩ rfl rfl hl.1 rfl (lv_room (Nat.le_of_ble_eq_true rfl)) dX11_stop_5 ⟨Nat.le_refl _, Nat.le_refl _⟩) hS hS0 (zms_sub rfl) (fun z5 M1 H locs r6 h2 F3 hS hS0 => ?_)
  obtain ⟨h7, h2⟩ := h2
  rw [h7] at hS
  rcases h2 with h8 | h9
  · skip
    obtain ⟨z5e, h8⟩ := h8
    subst z5e
    refine z_if_ne (tgt := 13) hx hb (by decide) dX11_stop_8 (by decide) (fun c10 => ?_) (fun c10 => absurd c10 (by decide))
    refine lv_aload_n hx hb dX11_stop_13 rfl (lv_at hl 0 rfl) ?_
    refine z_getr (j2 := 78) hx hb hts (z_memU u11) hown hK.1 hS f11_5 (by decide) (zkd_of (rfl : zcd wC 0 = 0) rfl) (zrf_of (rfl : zcd wC 0 = 0) rfl) (Or.inl (hts _ (z_mem k247))) dX11_stop_14 ?_
    refine z_geti hx hb hts (z_memU u0) hown hK.1 hS f0_0 (by decide) (zkd_of (rfl : zcd wC 78 = 30) rfl) (Or.inl (hts _ (z_mem k173))) dX11_stop_17 ?_
    refine z_top (show M 78 0 = 0 from by rw [g0]) ?_
    refine lv_istore_n (lv' := [(2, .int (iI 0)), (0, .ref (b + 0)), (1, .int (iI v))]) hx hb dX11_stop_20 rfl hl (by decide) rfl (fun ls hl => ?_)
    refine lv_aload_n hx hb dX11_stop_21 rfl (lv_at hl 1 rfl) ?_
    refine z_getr (j2 := 78) hx hb hts (z_memU u11) hown hK.1 hS f11_5 (by decide) (zkd_of (rfl : zcd wC 0 = 0) rfl) (zrf_of (rfl : zcd wC 0 = 0) rfl) (Or.inl (hts _ (z_mem k247))) dX11_stop_22 ?_
    refine lv_iload_n hx hb dX11_stop_25 rfl (lv_at hl 2 rfl) ?_
    refine z_puti hx hb hts (z_memU u0) tyX0 tyX0_ok nmX0 hown hK.1 hS hS0 f0_0 (by decide) (zkd_of (rfl : zcd wC 78 = 30) rfl) (Or.inl (hts _ (z_mem k173))) rfl (z := v) (by decide +kernel) (zbd_in (rfl : zcd wC 78 = 30) rfl ⟨by omega, by omega⟩) (zms_of (rfl : zcd wC 78 = 30) rfl) dX11_stop_26 (fun H locs hS hS0 => ?_)
    obtain ⟨M11, e12⟩ : ∃ M11 : zM, M11 = zup M 78 0 v := ⟨_, rfl⟩
    rw [← e12] at hS
    have J13 := hS.2.1
    refine lv_iload_n hx hb dX11_stop_29 rfl (lv_at hl 0 rfl) ?_
    exact z_iret hx hb hr hlocks hS hS0 (by decide) (by first | exact trivial | exact ⟨rfl, trivial⟩ | omega | (refine ⟨by omega, trivial⟩)) dX11_stop_30
  · skip
    obtain ⟨z5e, h9⟩ := h9
    subst z5e
    refine z_if_ne (tgt := 13) hx hb (by decide) dX11_stop_8 (by decide) (fun c14 => absurd c14 (by decide)) (fun c14 => ?_)
    refine z_iconst hx hb dX11_stop_11 ?_
    exact z_iret hx hb hr hlocks hS hS0 (by decide) (by first | exact trivial | exact ⟨rfl, trivial⟩ | omega | (refine ⟨by omega, trivial⟩)) dX11_stop_12

set_option maxHeartbeats 4000000 in
set_option maxRecDepth 100000 in
theorem n_out (l : Launch) (D : va_G) (dA : Nat → ClassId) (b : Nat) (M : zM) (t : Int) (r_t : R32 t) (g0 : M 32 2 = 0) (g1 : M 78 0 = 0) (g2 : M 78 3 = 1) (g3 : M 78 4 = 0) (g4 : M 78 5 = 1) (g5 : M 78 6 = 0) : Met l yX11_out (.code yX11_out cX11_out 2 (some .int) :: zt) (z_rm 3) (va_Pc [.ref (b + 0), .int (iI t)] (zP D dA vwCl (z_tys dA) wC nC b M)) (va_Qi (zQi wC (zms wC [2175]) M (fun z M1 => (0 ≤ t ∧ t ≤ 4000 ∧ z = 0) ∨ ((t < 0 ∨ 4000 < t) ∧ z = -1))) (zB D dA vwCl wC nC b) (zA nC b)) 0 0 (zA nC b) := by
  refine Met.ofW (cc := cX11_out) (maxL := 2) (ret := (some .int)) (by decide) rfl ?_
  intro p e s m args below meth c s₁ B hml hv
  obtain ⟨hargs, hR0, hJ, hK⟩ := hv
  have hx := B.exec
  have hb := B.bytes
  have hr := B.returns
  have hts := atoms_spec (ws := .code yX11_out cX11_out 2 (some .int) :: zt) B.pre
  have hown : s.vm.findClass RX11 = some m.cls := findClass_of_methodNamed B.named
  have hlocks := B.notSynchronized
  have hS : zS D dA vwCl wC nC b (zms wC [2175]) M M s.heap := ⟨hR0, hJ, zF_rf _ _⟩
  have hS0 : va_S (zA nC b) s.heap s.heap [] := va_S.rf
  have hl := lv_entry ([.ref (b + 0), .int (iI t)]) (n := 2) (Nat.le_of_ble_eq_true rfl)
  have hent : entryFrame m args 2 = F0 m 0 ((lg_sl ([.ref (b + 0), .int (iI t)]) ++ List.replicate (2 - (lg_sl ([.ref (b + 0), .int (iI t)])).length) Slot.unset).toArray) [] := by rw [hargs]; exact lg_entry_eq m ([.ref (b + 0), .int (iI t)]) 2
  rw [hent]
  generalize (lg_sl ([.ref (b + 0), .int (iI t)]) ++ List.replicate (2 - (lg_sl ([.ref (b + 0), .int (iI t)])).length) Slot.unset).toArray = ls at hl ⊢
  have hl : lv_has ls 2 [(0, .ref (b + 0)), (1, .int (iI t))] := hl
  refine lv_iload_n hx hb dX11_out_0 rfl (lv_at hl 1 rfl) ?_
  refine z_iconst hx hb dX11_out_1 ?_
  refine z_sipush hx hb (by decide) dX11_out_2 ?_
  refine z_calli (va_runS (As := [.int (iI t), .int (iI 0), .int (iI 4000)]) (rest := []) ⟨hx, hb, hml, hown, hts⟩ (c_within l D dA b M t 0 4000 r_t (by decide) (by decide)) (va_cwS 3 hts (z_gS k382 k383 k1 k384) rfl rfl rfl dm_X11_within.2 ⟨Nat.le_of_ble_eq_true rfl, Nat.le_of_ble_eq_true rfl⟩) ⟨zP_blind, z_pre hS hK⟩ rfl rfl hl.1 rfl (lv_room (Nat.le_of_ble_eq_true rfl)) dX11_out_5 ⟨Nat.le_refl _, Nat.le_refl _⟩) hS hS0 (zms_sub rfl) (fun z5 M1 H locs r6 h2 F3 hS hS0 => ?_)
  obtain ⟨h7, h2⟩ := h2
  rw [h7] at hS
  rcases h2 with h8 | h9
  · skip
    obtain ⟨z5e, h8⟩ := h8
    subst z5e
    refine z_if_ne (tgt := 13) hx hb (by decide) dX11_out_8 (by decide) (fun c10 => ?_) (fun c10 => absurd c10 (by decide))
    refine lv_aload_n hx hb dX11_out_13 rfl (lv_at hl 0 rfl) ?_
    refine z_getr (j2 := 78) hx hb hts (z_memU u11) hown hK.1 hS f11_5 (by decide) (zkd_of (rfl : zcd wC 0 = 0) rfl) (zrf_of (rfl : zcd wC 0 = 0) rfl) (Or.inl (hts _ (z_mem k247))) dX11_out_14 ?_
    refine lv_aload_n hx hb dX11_out_17 rfl (lv_at hl 0 rfl) ?_
    refine z_getr (j2 := 32) hx hb hts (z_memU u11) hown hK.1 hS f11_2 (by decide) (zkd_of (rfl : zcd wC 0 = 0) rfl) (zrf_of (rfl : zcd wC 0 = 0) rfl) (Or.inl (hts _ (z_mem k244))) dX11_out_18 ?_
    refine lv_iload_n hx hb dX11_out_21 rfl (lv_at hl 1 rfl) ?_
    refine z_callv (va_runV (As := [.ref (b + 32), .int (iI t)]) (rest := []) ⟨hx, hb, hml, hown, hts⟩ (n_run l D dA b M t r_t (by rw [g1]) (by rw [g2]) (by rw [g3]) (by rw [g4]) (by rw [g5]) (by omega)) (cwV 2 hts (z_gV k699 k700 k701 k9 k702) rfl rfl rfl dm_X0_run ⟨Nat.le_of_ble_eq_true rfl, Nat.le_of_ble_eq_true rfl⟩) ⟨zP_blind, (z_recv hS hK.1 (by decide) (zkd_of (rfl : zcd wC 78 = 30) rfl) (by decide) (rfl : vwCl[0]? = some (RX0, TX0, 8))), z_pre hS hK⟩ rfl rfl hl.1 rfl (lv_room (Nat.le_of_ble_eq_true rfl)) dX11_out_22 ⟨Nat.le_refl _, Nat.le_refl _⟩) hS hS0 (zms_sub rfl) (fun M11 H locs h12 F13 hS hS0 => ?_)
    have J14 := hS.2.1
    have ar15 := h12 t.toNat (by omega)
    refine lv_aload_n hx hb dX11_out_25 rfl (lv_at hl 0 rfl) ?_
    refine z_getr (j2 := 78) hx hb hts (z_memU u11) hown hK.1 hS f11_5 (by decide) (zkd_of (rfl : zcd wC 0 = 0) rfl) (zrf_of (rfl : zcd wC 0 = 0) rfl) (Or.inl (hts _ (z_mem k247))) dX11_out_26 ?_
    refine lv_iload_n hx hb dX11_out_29 rfl (lv_at hl 1 rfl) ?_
    refine z_calli (va_runV (As := [.int (iI t)]) (rest := []) ⟨hx, hb, hml, hown, hts⟩ (n_outAtT l D dA b M11 t r_t (by omega) (by omega)) (cwV 1 hts (z_gV k715 k711 k712 k9 k713) rfl rfl rfl dm_X0_outAt ⟨Nat.le_of_ble_eq_true rfl, Nat.le_of_ble_eq_true rfl⟩) ⟨zP_blind, (z_recv hS hK.1 (by decide) (zkd_of (rfl : zcd wC 78 = 30) rfl) (by decide) (rfl : vwCl[0]? = some (RX0, TX0, 8))), z_pre hS hK⟩ rfl rfl hl.1 rfl (lv_room (Nat.le_of_ble_eq_true rfl)) dX11_out_30 ⟨Nat.le_refl _, Nat.le_refl _⟩) hS hS0 (zms_sub rfl) (fun z20 M16 H locs r21 h17 F18 hS hS0 => ?_)
    obtain ⟨h22, h17⟩ := h17
    rw [h22] at hS
    have h23 := h17
    obtain ⟨z20e, h23⟩ := h23
    subst z20e
    exact z_iret hx hb hr hlocks hS hS0 (by decide) (by first | exact trivial | exact ⟨rfl, trivial⟩ | omega | (refine ⟨by omega, trivial⟩)) dX11_out_33
  · skip
    obtain ⟨z5e, h9⟩ := h9
    subst z5e
    refine z_if_ne (tgt := 13) hx hb (by decide) dX11_out_8 (by decide) (fun c24 => absurd c24 (by decide)) (fun c24 => ?_)
    refine z_iconst hx hb dX11_out_11 ?_
    exact z_iret hx hb hr hlocks hS hS0 (by decide) (by first | exact trivial | exact ⟨rfl, trivial⟩ | omega | (refine ⟨by omega, trivial⟩)) dX11_out_12

set_option maxHeartbeats 4000000 in
set_option maxRecDepth 100000 in
theorem x_dies (l : Launch) (D : va_G) (dA : Nat → ClassId) (b : Nat) (M : zM) (g0 : M 32 2 = 0) (g1 : M 78 0 = 0) (g2 : M 78 3 = 1) (g3 : M 78 4 = 0) (g4 : M 78 5 = 1) (g5 : M 78 6 = 0) : Met l yX11_dies (.code yX11_dies cX11_dies 2 (some .int) :: zt) (z_rm 4) (va_Pc [.ref (b + 0)] (zP D dA vwCl (z_tys dA) wC nC b M)) (va_Qi (zQi wC (zms wC [2175]) M (fun z M1 => z = 0 ∧ True)) (zB D dA vwCl wC nC b) (zA nC b)) 0 0 (zA nC b) := by
  refine Met.ofW (cc := cX11_dies) (maxL := 2) (ret := (some .int)) (by decide) rfl ?_
  intro p e s m args below meth c s₁ B hml hv
  obtain ⟨hargs, hR0, hJ, hK⟩ := hv
  have hx := B.exec
  have hb := B.bytes
  have hr := B.returns
  have hts := atoms_spec (ws := .code yX11_dies cX11_dies 2 (some .int) :: zt) B.pre
  have hown : s.vm.findClass RX11 = some m.cls := findClass_of_methodNamed B.named
  have hlocks := B.notSynchronized
  have hS : zS D dA vwCl wC nC b (zms wC [2175]) M M s.heap := ⟨hR0, hJ, zF_rf _ _⟩
  have hS0 : va_S (zA nC b) s.heap s.heap [] := va_S.rf
  have hl := lv_entry ([.ref (b + 0)]) (n := 2) (Nat.le_of_ble_eq_true rfl)
  have hent : entryFrame m args 2 = F0 m 0 ((lg_sl ([.ref (b + 0)]) ++ List.replicate (2 - (lg_sl ([.ref (b + 0)])).length) Slot.unset).toArray) [] := by rw [hargs]; exact lg_entry_eq m ([.ref (b + 0)]) 2
  rw [hent]
  generalize (lg_sl ([.ref (b + 0)]) ++ List.replicate (2 - (lg_sl ([.ref (b + 0)])).length) Slot.unset).toArray = ls at hl ⊢
  have hl : lv_has ls 2 [(0, .ref (b + 0))] := hl
  refine lv_aload_n hx hb dX11_dies_0 rfl (lv_at hl 0 rfl) ?_
  refine z_getr (j2 := 78) hx hb hts (z_memU u11) hown hK.1 hS f11_5 (by decide) (zkd_of (rfl : zcd wC 0 = 0) rfl) (zrf_of (rfl : zcd wC 0 = 0) rfl) (Or.inl (hts _ (z_mem k247))) dX11_dies_1 ?_
  refine lv_aload_n hx hb dX11_dies_4 rfl (lv_at hl 0 rfl) ?_
  refine z_getr (j2 := 32) hx hb hts (z_memU u11) hown hK.1 hS f11_2 (by decide) (zkd_of (rfl : zcd wC 0 = 0) rfl) (zrf_of (rfl : zcd wC 0 = 0) rfl) (Or.inl (hts _ (z_mem k244))) dX11_dies_5 ?_
  refine z_calli (va_runV (As := [.ref (b + 32)]) (rest := []) ⟨hx, hb, hml, hown, hts⟩ (n_fate l D dA b M (by rw [g1]) (by rw [g2]) (by rw [g3]) (by rw [g4]) (by rw [g5])) (cwV 1 hts (z_gV k720 k721 k722 k9 k723) rfl rfl rfl dm_X0_fate ⟨Nat.le_of_ble_eq_true rfl, Nat.le_of_ble_eq_true rfl⟩) ⟨zP_blind, (z_recv hS hK.1 (by decide) (zkd_of (rfl : zcd wC 78 = 30) rfl) (by decide) (rfl : vwCl[0]? = some (RX0, TX0, 8))), z_pre hS hK⟩ rfl rfl hl.1 rfl (lv_room (Nat.le_of_ble_eq_true rfl)) dX11_dies_8 ⟨Nat.le_refl _, Nat.le_refl _⟩) hS hS0 (zms_sub rfl) (fun z5 M1 H locs r6 h2 F3 hS hS0 => ?_)
  have J4 := hS.2.1
  have h7 := h2
  obtain ⟨z5e, h7⟩ := h7
  subst z5e
  refine lv_istore_n (lv' := [(1, .int (iI 0)), (0, .ref (b + 0))]) hx hb dX11_dies_11 rfl hl (by decide) rfl (fun ls hl => ?_)
  refine lv_iload_n hx hb dX11_dies_12 rfl (lv_at hl 0 rfl) ?_
  refine z_bipush hx hb (by decide) dX11_dies_13 ?_
  refine z_icmp_ne (tgt := 30) hx hb (by decide) (by decide) dX11_dies_15 (by decide) (fun c8 => ?_) (fun c8 => absurd c8 (by decide))
  refine lv_iload_n hx hb dX11_dies_30 rfl (lv_at hl 0 rfl) ?_
  exact z_iret hx hb hr hlocks hS hS0 (by decide) (by first | exact trivial | exact ⟨rfl, trivial⟩ | omega | (refine ⟨by omega, trivial⟩)) dX11_dies_31

set_option maxHeartbeats 4000000 in
set_option maxRecDepth 100000 in
theorem x_tape (l : Launch) (D : va_G) (dA : Nat → ClassId) (b : Nat) (M : zM) (v : Int) (r_v : R32 v) (g0 : M 82 1 = 0) : Met l yX11_tape (.code yX11_tape cX11_tape 2 (some .int) :: zt) (z_rm 1) (va_Pc [.ref (b + 0), .int (iI v)] (zP D dA vwCl (z_tys dA) wC nC b M)) (va_Qi (zQi wC (zms wC [2177, 2303]) M (fun z M1 => ((v = -1 ∨ SND v) ∧ z = 1) ∨ (¬ (v = -1 ∨ SND v) ∧ z = -1))) (zB D dA vwCl wC nC b) (zA nC b)) 0 0 (zA nC b) := by
  refine Met.ofW (cc := cX11_tape) (maxL := 2) (ret := (some .int)) (by decide) rfl ?_
  intro p e s m args below meth c s₁ B hml hv
  obtain ⟨hargs, hR0, hJ, hK⟩ := hv
  have hx := B.exec
  have hb := B.bytes
  have hr := B.returns
  have hts := atoms_spec (ws := .code yX11_tape cX11_tape 2 (some .int) :: zt) B.pre
  have hown : s.vm.findClass RX11 = some m.cls := findClass_of_methodNamed B.named
  have hlocks := B.notSynchronized
  have hS : zS D dA vwCl wC nC b (zms wC [2177, 2303]) M M s.heap := ⟨hR0, hJ, zF_rf _ _⟩
  have hS0 : va_S (zA nC b) s.heap s.heap [] := va_S.rf
  have hl := lv_entry ([.ref (b + 0), .int (iI v)]) (n := 2) (Nat.le_of_ble_eq_true rfl)
  have hent : entryFrame m args 2 = F0 m 0 ((lg_sl ([.ref (b + 0), .int (iI v)]) ++ List.replicate (2 - (lg_sl ([.ref (b + 0), .int (iI v)])).length) Slot.unset).toArray) [] := by rw [hargs]; exact lg_entry_eq m ([.ref (b + 0), .int (iI v)]) 2
  rw [hent]
  generalize (lg_sl ([.ref (b + 0), .int (iI v)]) ++ List.replicate (2 - (lg_sl ([.ref (b + 0), .int (iI v)])).length) Slot.unset).toArray = ls at hl ⊢
  have hl : lv_has ls 2 [(0, .ref (b + 0)), (1, .int (iI v))] := hl
  refine lv_iload_n hx hb dX11_tape_0 rfl (lv_at hl 1 rfl) ?_
  refine z_iconst hx hb dX11_tape_1 ?_
  refine z_icmp_eq (tgt := 12) hx hb r_v (by decide) dX11_tape_2 (by decide) (fun c1 => ?_) (fun c1 => ?_)
  · skip
    refine lv_aload_n hx hb dX11_tape_12 rfl (lv_at hl 0 rfl) ?_
    refine z_getr (j2 := 82) hx hb hts (z_memU u11) hown hK.1 hS f11_6 (by decide) (zkd_of (rfl : zcd wC 0 = 0) rfl) (zrf_of (rfl : zcd wC 0 = 0) rfl) (Or.inl (hts _ (z_mem k248))) dX11_tape_13 ?_
    refine lv_iload_n hx hb dX11_tape_16 rfl (lv_at hl 1 rfl) ?_
    refine z_calli (va_runV (As := [.int (iI v)]) (rest := []) ⟨hx, hb, hml, hown, hts⟩ (n_oadd l D dA b M v 0 r_v (by rw [g0]) (by omega)) (cwV 1 hts (z_gV k738 k739 k740 k11 k741) rfl rfl rfl dm_X3_add ⟨Nat.le_of_ble_eq_true rfl, Nat.le_of_ble_eq_true rfl⟩) ⟨zP_blind, (z_recv hS hK.1 (by decide) (zkd_of (rfl : zcd wC 82 = 34) rfl) (by decide) (rfl : vwCl[3]? = some (RX3, TX3, 4))), z_pre hS hK⟩ rfl rfl hl.1 rfl (lv_room (Nat.le_of_ble_eq_true rfl)) dX11_tape_17 ⟨Nat.le_refl _, Nat.le_refl _⟩) hS hS0 (zms_sub rfl) (fun z6 M2 H locs r7 h3 F4 hS hS0 => ?_)
    have J5 := hS.2.1
    obtain ⟨h3, m8⟩ := h3
    have h9 := h3
    refine lv_goto (tgt := 24) hx hb dX11_tape_20 (by decide) ?_
    exact z_iret hx hb hr hlocks hS hS0 r7 (by first | exact Or.inl ⟨Or.inl (by omega), rfl⟩ | exact Or.inl ⟨Or.inr (by assumption), rfl⟩ | exact Or.inl ⟨Or.inl (by assumption), by omega⟩ | exact Or.inl ⟨Or.inr (by assumption), by omega⟩ | exact Or.inr ⟨fun h9 => h9.elim (fun h8 => by omega) (by assumption), rfl⟩) dX11_tape_24
  · skip
    refine lv_iload_n hx hb dX11_tape_5 rfl (lv_at hl 1 rfl) ?_
    refine z_calli (va_runS (As := [.int (iI v)]) (rest := []) ⟨hx, hb, hml, hown, hts⟩ (c_isSounds l D dA b M v r_v) (va_cwS 1 hts (z_gS k553 k554 k1 k555) rfl rfl rfl dm_X11_isSounds.2 ⟨Nat.le_of_ble_eq_true rfl, Nat.le_of_ble_eq_true rfl⟩) ⟨zP_blind, z_pre hS hK⟩ rfl rfl hl.1 rfl (lv_room (Nat.le_of_ble_eq_true rfl)) dX11_tape_6 ⟨Nat.le_refl _, Nat.le_refl _⟩) hS hS0 (zms_sub rfl) (fun z14 M10 H locs r15 h11 F12 hS hS0 => ?_)
    obtain ⟨h16, h11⟩ := h11
    rw [h16] at hS
    rcases h11 with h17 | h18
    · skip
      obtain ⟨z14e, h17⟩ := h17
      subst z14e
      refine z_if_eq (tgt := 23) hx hb (by decide) dX11_tape_9 (by decide) (fun c19 => absurd c19 (by decide)) (fun c19 => ?_)
      refine lv_aload_n hx hb dX11_tape_12 rfl (lv_at hl 0 rfl) ?_
      refine z_getr (j2 := 82) hx hb hts (z_memU u11) hown hK.1 hS f11_6 (by decide) (zkd_of (rfl : zcd wC 0 = 0) rfl) (zrf_of (rfl : zcd wC 0 = 0) rfl) (Or.inl (hts _ (z_mem k248))) dX11_tape_13 ?_
      refine lv_iload_n hx hb dX11_tape_16 rfl (lv_at hl 1 rfl) ?_
      refine z_calli (va_runV (As := [.int (iI v)]) (rest := []) ⟨hx, hb, hml, hown, hts⟩ (n_oadd l D dA b M v 0 r_v (by rw [g0]) (by omega)) (cwV 1 hts (z_gV k738 k739 k740 k11 k741) rfl rfl rfl dm_X3_add ⟨Nat.le_of_ble_eq_true rfl, Nat.le_of_ble_eq_true rfl⟩) ⟨zP_blind, (z_recv hS hK.1 (by decide) (zkd_of (rfl : zcd wC 82 = 34) rfl) (by decide) (rfl : vwCl[3]? = some (RX3, TX3, 4))), z_pre hS hK⟩ rfl rfl hl.1 rfl (lv_room (Nat.le_of_ble_eq_true rfl)) dX11_tape_17 ⟨Nat.le_refl _, Nat.le_refl _⟩) hS hS0 (zms_sub rfl) (fun z24 M20 H locs r25 h21 F22 hS hS0 => ?_)
      have J23 := hS.2.1
      obtain ⟨h21, m26⟩ := h21
      have h27 := h21
      refine lv_goto (tgt := 24) hx hb dX11_tape_20 (by decide) ?_
      exact z_iret hx hb hr hlocks hS hS0 r25 (by first | exact Or.inl ⟨Or.inl (by omega), rfl⟩ | exact Or.inl ⟨Or.inr (by assumption), rfl⟩ | exact Or.inl ⟨Or.inl (by assumption), by omega⟩ | exact Or.inl ⟨Or.inr (by assumption), by omega⟩ | exact Or.inr ⟨fun h9 => h9.elim (fun h8 => by omega) (by assumption), rfl⟩) dX11_tape_24
    · skip
      obtain ⟨z14e, h18⟩ := h18
      subst z14e
      refine z_if_eq (tgt := 23) hx hb (by decide) dX11_tape_9 (by decide) (fun c28 => ?_) (fun c28 => absurd c28 (by decide))
      refine z_iconst hx hb dX11_tape_23 ?_
      exact z_iret hx hb hr hlocks hS hS0 (by decide) (by first | exact Or.inl ⟨Or.inl (by omega), rfl⟩ | exact Or.inl ⟨Or.inr (by assumption), rfl⟩ | exact Or.inl ⟨Or.inl (by assumption), by omega⟩ | exact Or.inl ⟨Or.inr (by assumption), by omega⟩ | exact Or.inr ⟨fun h9 => h9.elim (fun h8 => by omega) (by assumption), rfl⟩) dX11_tape_24

set_option maxHeartbeats 4000000 in
set_option maxRecDepth 100000 in
theorem x_take (l : Launch) (D : va_G) (dA : Nat → ClassId) (b : Nat) (M : zM) (tk : Int) (n : Int) (r_tk : R32 tk) (r_n : R32 n) (g0 : M 32 2 = 0) : Met l yX11_take (.code yX11_take cX11_take 4 (some .boolean) :: zt) (z_rm 1) (va_Pc [.ref (b + 0), .int (iI tk), .int (iI n)] (zP D dA vwCl (z_tys dA) wC nC b M)) (va_Qi (zQi wC (zms wC [2177, 2303]) M (fun z M1 => ((0 ≤ tk ∧ tk ≤ 100000 ∧ 0 ≤ n ∧ n ≤ 60) ∧ z = 1) ∨ (¬ (0 ≤ tk ∧ tk ≤ 100000 ∧ 0 ≤ n ∧ n ≤ 60) ∧ z = 0))) (zB D dA vwCl wC nC b) (zA nC b)) 0 0 (zA nC b) := by
  refine Met.ofW (cc := cX11_take) (maxL := 4) (ret := (some .boolean)) (by decide) rfl ?_
  intro p e s m args below meth c s₁ B hml hv
  obtain ⟨hargs, hR0, hJ, hK⟩ := hv
  have hx := B.exec
  have hb := B.bytes
  have hr := B.returns
  have hts := atoms_spec (ws := .code yX11_take cX11_take 4 (some .boolean) :: zt) B.pre
  have hown : s.vm.findClass RX11 = some m.cls := findClass_of_methodNamed B.named
  have hlocks := B.notSynchronized
  have hS : zS D dA vwCl wC nC b (zms wC [2177, 2303]) M M s.heap := ⟨hR0, hJ, zF_rf _ _⟩
  have hS0 : va_S (zA nC b) s.heap s.heap [] := va_S.rf
  have hl := lv_entry ([.ref (b + 0), .int (iI tk), .int (iI n)]) (n := 4) (Nat.le_of_ble_eq_true rfl)
  have hent : entryFrame m args 4 = F0 m 0 ((lg_sl ([.ref (b + 0), .int (iI tk), .int (iI n)]) ++ List.replicate (4 - (lg_sl ([.ref (b + 0), .int (iI tk), .int (iI n)])).length) Slot.unset).toArray) [] := by rw [hargs]; exact lg_entry_eq m ([.ref (b + 0), .int (iI tk), .int (iI n)]) 4
  rw [hent]
  generalize (lg_sl ([.ref (b + 0), .int (iI tk), .int (iI n)]) ++ List.replicate (4 - (lg_sl ([.ref (b + 0), .int (iI tk), .int (iI n)])).length) Slot.unset).toArray = ls at hl ⊢
  have hl : lv_has ls 4 [(0, .ref (b + 0)), (1, .int (iI tk)), (2, .int (iI n))] := hl
  refine lv_iload_n hx hb dX11_take_0 rfl (lv_at hl 1 rfl) ?_
  refine z_iconst hx hb dX11_take_1 ?_
  refine z_ldc (n := 100000) hx hb hown (hts _ (z_mem k600)) (by decide) dX11_take_2 ?_
  refine z_calli (va_runS (As := [.int (iI tk), .int (iI 0), .int (iI 100000)]) (rest := []) ⟨hx, hb, hml, hown, hts⟩ (c_within l D dA b M tk 0 100000 r_tk (by decide) (by decide)) (va_cwS 3 hts (z_gS k382 k383 k1 k384) rfl rfl rfl dm_X11_within.2 ⟨Nat.le_of_ble_eq_true rfl, Nat.le_of_ble_eq_true rfl⟩) ⟨zP_blind, z_pre hS hK⟩ rfl rfl hl.1 rfl (lv_room (Nat.le_of_ble_eq_true rfl)) dX11_take_4 ⟨Nat.le_refl _, Nat.le_refl _⟩) hS hS0 (zms_sub rfl) (fun z5 M1 H locs r6 h2 F3 hS hS0 => ?_)
  obtain ⟨h7, h2⟩ := h2
  rw [h7] at hS
  rcases h2 with h8 | h9
  · skip
    obtain ⟨z5e, h8⟩ := h8
    subst z5e
    refine z_if_eq (tgt := 20) hx hb (by decide) dX11_take_7 (by decide) (fun c10 => absurd c10 (by decide)) (fun c10 => ?_)
    refine lv_iload_n hx hb dX11_take_10 rfl (lv_at hl 2 rfl) ?_
    refine z_iconst hx hb dX11_take_11 ?_
    refine z_bipush hx hb (by decide) dX11_take_12 ?_
    refine z_calli (va_runS (As := [.int (iI n), .int (iI 0), .int (iI 60)]) (rest := []) ⟨hx, hb, hml, hown, hts⟩ (c_within l D dA b M n 0 60 r_n (by decide) (by decide)) (va_cwS 3 hts (z_gS k382 k383 k1 k384) rfl rfl rfl dm_X11_within.2 ⟨Nat.le_of_ble_eq_true rfl, Nat.le_of_ble_eq_true rfl⟩) ⟨zP_blind, z_pre hS hK⟩ rfl rfl hl.1 rfl (lv_room (Nat.le_of_ble_eq_true rfl)) dX11_take_14 ⟨Nat.le_refl _, Nat.le_refl _⟩) hS hS0 (zms_sub rfl) (fun z15 M11 H locs r16 h12 F13 hS hS0 => ?_)
    obtain ⟨h17, h12⟩ := h12
    rw [h17] at hS
    rcases h12 with h18 | h19
    · skip
      obtain ⟨z15e, h18⟩ := h18
      subst z15e
      refine z_if_ne (tgt := 22) hx hb (by decide) dX11_take_17 (by decide) (fun c20 => ?_) (fun c20 => absurd c20 (by decide))
      refine lv_aload_n hx hb dX11_take_22 rfl (lv_at hl 0 rfl) ?_
      refine z_getr (j2 := 82) hx hb hts (z_memU u11) hown hK.1 hS f11_6 (by decide) (zkd_of (rfl : zcd wC 0 = 0) rfl) (zrf_of (rfl : zcd wC 0 = 0) rfl) (Or.inl (hts _ (z_mem k248))) dX11_take_23 ?_
      refine z_iconst hx hb dX11_take_26 ?_
      refine z_puti hx hb hts (z_memU u3) tyX3 tyX3_ok nmX3 hown hK.1 hS hS0 f3_1 (by decide) (zkd_of (rfl : zcd wC 82 = 34) rfl) (Or.inl (hts _ (z_mem k197))) rfl (z := 0) (by decide +kernel) (zbd_in (rfl : zcd wC 82 = 34) rfl (by decide)) (zms_of (rfl : zcd wC 82 = 34) rfl) dX11_take_27 (fun H locs hS hS0 => ?_)
      obtain ⟨M21, e22⟩ : ∃ M21 : zM, M21 = zup M 82 1 0 := ⟨_, rfl⟩
      rw [← e22] at hS
      have J23 := hS.2.1
      refine z_iconst hx hb dX11_take_30 ?_
      refine lv_istore_n (lv' := [(3, .int (iI 0)), (0, .ref (b + 0)), (1, .int (iI tk)), (2, .int (iI n))]) hx hb dX11_take_31 rfl hl (by decide) rfl (fun ls hl => ?_)
      have L27 : ∀ (n25 : Nat) (i24 : Int) (M28 : zM) (H : Heap) (locs : List Loc) (ls : Array Slot), (2147483648 - i24).toNat ≤ n25 → R32 i24 → (0 ≤ i24 ∧ i24 ≤ n) → (M28 82 1 = i24) → zS D dA vwCl wC nC b (zms wC [2177, 2303]) M M28 H → va_S (zA nC b) s.heap H locs → lv_has ls 4 [(0, .ref (b + 0)), (1, .int (iI tk)), (2, .int (iI n)), (3, .int (iI i24))] → W p l e (headSpec (.code yX11_take cX11_take 4 (some .boolean) :: zt) (z_rm 1)).room s m args below meth c H locs 0 0 (MQ below (va_Qi (zQi wC (zms wC [2177, 2303]) M (fun z M1 => ((0 ≤ tk ∧ tk ≤ 100000 ∧ 0 ≤ n ∧ n ≤ 60) ∧ z = 1) ∨ (¬ (0 ≤ tk ∧ tk ≤ 100000 ∧ 0 ≤ n ∧ n ≤ 60) ∧ z = 0))) (zB D dA vwCl wC nC b) (zA nC b)) args s 0 0 (zA nC b)) (F0 m 32 ls []) := by
        intro n25
        induction n25 with
        | zero =>
          intro i24 M28 H locs ls hm r_i24 i29 i30 hS hS0 hl
          exfalso
          omega
        | succ n25 ih26 =>
          intro i24 M28 H locs ls hm r_i24 i29 i30 hS hS0 hl
          have J31 := hS.2.1
          have F32 := hS.2.2
          refine lv_iload_n hx hb dX11_take_32 rfl (lv_at hl 3 rfl) ?_
          refine lv_iload_n hx hb dX11_take_33 rfl (lv_at hl 2 rfl) ?_
          refine z_icmp_ge (tgt := 62) hx hb r_i24 r_n dX11_take_34 (by decide) (fun c33 => ?_) (fun c33 => ?_)
          · skip
            refine z_iconst hx hb dX11_take_62 ?_
            exact z_zret hx hb hr hlocks hS hS0 (by first | decide | omega) (by first | exact trivial | exact ⟨rfl, trivial⟩ | omega | (refine ⟨by omega, trivial⟩)) dX11_take_63
          · skip
            refine lv_aload_n hx hb dX11_take_37 rfl (lv_at hl 0 rfl) ?_
            refine z_getr (j2 := 82) hx hb hts (z_memU u11) hown hK.1 hS f11_6 (by decide) (zkd_of (rfl : zcd wC 0 = 0) rfl) (zrf_of (rfl : zcd wC 0 = 0) rfl) (Or.inl (hts _ (z_mem k248))) dX11_take_38 ?_
            refine lv_aload_n hx hb dX11_take_41 rfl (lv_at hl 0 rfl) ?_
            refine z_getr (j2 := 32) hx hb hts (z_memU u11) hown hK.1 hS f11_2 (by decide) (zkd_of (rfl : zcd wC 0 = 0) rfl) (zrf_of (rfl : zcd wC 0 = 0) rfl) (Or.inl (hts _ (z_mem k244))) dX11_take_42 ?_
            refine lv_iload_n hx hb dX11_take_45 rfl (lv_at hl 1 rfl) ?_
            refine lv_iload_n hx hb dX11_take_46 rfl (lv_at hl 3 rfl) ?_
            refine z_iadd hx hb dX11_take_47 ?_
            refine z_i2l hx hb ⟨by omega, by omega⟩ dX11_take_48 ?_
            refine z_calli (va_runV (As := [.long (iL (tk + i24))]) (rest := [.ref (b + 82)]) ⟨hx, hb, hml, hown, hts⟩ (n_heardInAll l D dA b M28 (tk + i24) ⟨by omega, by omega⟩ (by rw [F32 _ _ (zms_not (rfl : zcd wC 32 = 8) rfl), g0])) (cwV 1 hts (z_gV k474 k475 k476 k4 k477) rfl rfl rfl dm_X9_heardInAll ⟨Nat.le_of_ble_eq_true rfl, Nat.le_of_ble_eq_true rfl⟩) ⟨zP_blind, (z_recv hS hK.1 (by decide) (zkd_of (rfl : zcd wC 32 = 8) rfl) (by decide) (rfl : vwCl[9]? = some (RX9, TX9, 3))), z_pre hS hK⟩ rfl rfl hl.1 rfl (lv_room (Nat.le_of_ble_eq_true rfl)) dX11_take_49 ⟨Nat.le_refl _, Nat.le_refl _⟩) hS hS0 (zms_sub rfl) (fun z38 M34 H locs r39 h35 F36 hS hS0 => ?_)
            obtain ⟨h40, h35⟩ := h35
            rw [h40] at hS
            have h41 := h35
            obtain ⟨z38e, h41⟩ := h41
            subst z38e
            refine z_calli (va_runV (As := [.int (iI 0)]) (rest := []) ⟨hx, hb, hml, hown, hts⟩ (n_oadd l D dA b M28 0 i24 (by decide) (by rw [i30]) (by omega)) (cwV 1 hts (z_gV k738 k739 k740 k11 k741) rfl rfl rfl dm_X3_add ⟨Nat.le_of_ble_eq_true rfl, Nat.le_of_ble_eq_true rfl⟩) ⟨zP_blind, (z_recv hS hK.1 (by decide) (zkd_of (rfl : zcd wC 82 = 34) rfl) (by decide) (rfl : vwCl[3]? = some (RX3, TX3, 4))), z_pre hS hK⟩ rfl rfl hl.1 rfl (lv_room (Nat.le_of_ble_eq_true rfl)) dX11_take_52 ⟨Nat.le_refl _, Nat.le_refl _⟩) hS hS0 (zms_sub rfl) (fun z46 M42 H locs r47 h43 F44 hS hS0 => ?_)
            have J45 := hS.2.1
            obtain ⟨h43, m48⟩ := h43
            have h49 := h43
            refine lv_pop hx hb dX11_take_55 rfl ?_
            refine z_iinc (lv' := [(3, .int (iI (i24 + 1))), (0, .ref (b + 0)), (1, .int (iI tk)), (2, .int (iI n))]) hx hb dX11_take_56 hl (k := 3) rfl (by decide) rfl (fun ls hl => ?_)
            refine lv_goto (tgt := 32) hx hb dX11_take_59 (by decide) ?_
            exact ih26 (i24 + 1) M42 _ _ _ (by omega) ⟨by omega, by omega⟩ (by omega) (by rw [m48]) hS hS0 (lv_sub hl [1, 2, 3, 0] rfl)
      exact L27 _ 0 M21 _ _ _ (Nat.le_refl _) (by decide) (by omega) (by rw [e22, zup_s]) hS hS0 (lv_sub hl [1, 2, 3, 0] rfl)
    · skip
      obtain ⟨z15e, h19⟩ := h19
      subst z15e
      refine z_if_ne (tgt := 22) hx hb (by decide) dX11_take_17 (by decide) (fun c50 => absurd c50 (by decide)) (fun c50 => ?_)
      refine z_iconst hx hb dX11_take_20 ?_
      exact z_zret hx hb hr hlocks hS hS0 (by first | decide | omega) (by first | exact trivial | exact ⟨rfl, trivial⟩ | omega | (refine ⟨by omega, trivial⟩)) dX11_take_21
  · skip
    obtain ⟨z5e, h9⟩ := h9
    subst z5e
    refine z_if_eq (tgt := 20) hx hb (by decide) dX11_take_7 (by decide) (fun c51 => ?_) (fun c51 => absurd c51 (by decide))
    refine z_iconst hx hb dX11_take_20 ?_
    exact z_zret hx hb hr hlocks hS hS0 (by first | decide | omega) (by first | exact trivial | exact ⟨rfl, trivial⟩ | omega | (refine ⟨by omega, trivial⟩)) dX11_take_21

set_option maxHeartbeats 4000000 in
set_option maxRecDepth 100000 in
theorem x_gap (l : Launch) (D : va_G) (dA : Nat → ClassId) (b : Nat) (M : zM) (i : Int) (r_i : R32 i) (g0 : M 82 1 = 0) : Met l yX11_gap (.code yX11_gap cX11_gap 2 (some .boolean) :: zt) (z_rm 1) (va_Pc [.ref (b + 0), .int (iI i)] (zP D dA vwCl (z_tys dA) wC nC b M)) (va_Qi (zQi wC (zms wC []) M (fun z M1 => M1 = M ∧ (z = 0 ∧ True))) (zB D dA vwCl wC nC b) (zA nC b)) 0 0 (zA nC b) := by
  refine Met.ofW (cc := cX11_gap) (maxL := 2) (ret := (some .boolean)) (by decide) rfl ?_
  intro p e s m args below meth c s₁ B hml hv
  obtain ⟨hargs, hR0, hJ, hK⟩ := hv
  have hx := B.exec
  have hb := B.bytes
  have hr := B.returns
  have hts := atoms_spec (ws := .code yX11_gap cX11_gap 2 (some .boolean) :: zt) B.pre
  have hown : s.vm.findClass RX11 = some m.cls := findClass_of_methodNamed B.named
  have hlocks := B.notSynchronized
  have hS : zS D dA vwCl wC nC b (zms wC []) M M s.heap := ⟨hR0, hJ, zF_rf _ _⟩
  have hS0 : va_S (zA nC b) s.heap s.heap [] := va_S.rf
  have hl := lv_entry ([.ref (b + 0), .int (iI i)]) (n := 2) (Nat.le_of_ble_eq_true rfl)
  have hent : entryFrame m args 2 = F0 m 0 ((lg_sl ([.ref (b + 0), .int (iI i)]) ++ List.replicate (2 - (lg_sl ([.ref (b + 0), .int (iI i)])).length) Slot.unset).toArray) [] := by rw [hargs]; exact lg_entry_eq m ([.ref (b + 0), .int (iI i)]) 2
  rw [hent]
  generalize (lg_sl ([.ref (b + 0), .int (iI i)]) ++ List.replicate (2 - (lg_sl ([.ref (b + 0), .int (iI i)])).length) Slot.unset).toArray = ls at hl ⊢
  have hl : lv_has ls 2 [(0, .ref (b + 0)), (1, .int (iI i))] := hl
  refine lv_aload_n hx hb dX11_gap_0 rfl (lv_at hl 0 rfl) ?_
  refine z_getr (j2 := 82) hx hb hts (z_memU u11) hown hK.1 hS f11_6 (by decide) (zkd_of (rfl : zcd wC 0 = 0) rfl) (zrf_of (rfl : zcd wC 0 = 0) rfl) (Or.inl (hts _ (z_mem k248))) dX11_gap_1 ?_
  refine lv_iload_n hx hb dX11_gap_4 rfl (lv_at hl 1 rfl) ?_
  refine z_calli (va_runV (As := [.int (iI i)]) (rest := []) ⟨hx, hb, hml, hown, hts⟩ (n_makeGap l D dA b M i r_i (by rw [g0])) (cwV 1 hts (z_gV k750 k751 k752 k11 k753) rfl rfl rfl dm_X3_makeGap ⟨Nat.le_of_ble_eq_true rfl, Nat.le_of_ble_eq_true rfl⟩) ⟨zP_blind, (z_recv hS hK.1 (by decide) (zkd_of (rfl : zcd wC 82 = 34) rfl) (by decide) (rfl : vwCl[3]? = some (RX3, TX3, 4))), z_pre hS hK⟩ rfl rfl hl.1 rfl (lv_room (Nat.le_of_ble_eq_true rfl)) dX11_gap_5 ⟨Nat.le_refl _, Nat.le_refl _⟩) hS hS0 (zms_sub rfl) (fun z5 M1 H locs r6 h2 F3 hS hS0 => ?_)
  obtain ⟨h7, h2⟩ := h2
  rw [h7] at hS
  have h8 := h2
  obtain ⟨z5e, h8⟩ := h8
  subst z5e
  exact z_zret hx hb hr hlocks hS hS0 (by first | decide | omega) (⟨rfl, by first | exact trivial | exact ⟨rfl, trivial⟩ | omega | (refine ⟨by omega, trivial⟩)⟩) dX11_gap_8

set_option maxHeartbeats 4000000 in
set_option maxRecDepth 100000 in
theorem x_wipe (l : Launch) (D : va_G) (dA : Nat → ClassId) (b : Nat) (M : zM) (g0 : M 82 1 = 0) : Met l yX11_wipe (.code yX11_wipe cX11_wipe 2 (some .int) :: zt) (z_rm 0) (va_Pc [.ref (b + 0)] (zP D dA vwCl (z_tys dA) wC nC b M)) (va_Qi (zQi wC (zms wC [2177]) M (fun z M1 => z = 0 ∧ True)) (zB D dA vwCl wC nC b) (zA nC b)) 0 0 (zA nC b) := by
  refine Met.ofW (cc := cX11_wipe) (maxL := 2) (ret := (some .int)) (by decide) rfl ?_
  intro p e s m args below meth c s₁ B hml hv
  obtain ⟨hargs, hR0, hJ, hK⟩ := hv
  have hx := B.exec
  have hb := B.bytes
  have hr := B.returns
  have hts := atoms_spec (ws := .code yX11_wipe cX11_wipe 2 (some .int) :: zt) B.pre
  have hown : s.vm.findClass RX11 = some m.cls := findClass_of_methodNamed B.named
  have hlocks := B.notSynchronized
  have hS : zS D dA vwCl wC nC b (zms wC [2177]) M M s.heap := ⟨hR0, hJ, zF_rf _ _⟩
  have hS0 : va_S (zA nC b) s.heap s.heap [] := va_S.rf
  have hl := lv_entry ([.ref (b + 0)]) (n := 2) (Nat.le_of_ble_eq_true rfl)
  have hent : entryFrame m args 2 = F0 m 0 ((lg_sl ([.ref (b + 0)]) ++ List.replicate (2 - (lg_sl ([.ref (b + 0)])).length) Slot.unset).toArray) [] := by rw [hargs]; exact lg_entry_eq m ([.ref (b + 0)]) 2
  rw [hent]
  generalize (lg_sl ([.ref (b + 0)]) ++ List.replicate (2 - (lg_sl ([.ref (b + 0)])).length) Slot.unset).toArray = ls at hl ⊢
  have hl : lv_has ls 2 [(0, .ref (b + 0))] := hl
  refine lv_aload_n hx hb dX11_wipe_0 rfl (lv_at hl 0 rfl) ?_
  refine z_getr (j2 := 82) hx hb hts (z_memU u11) hown hK.1 hS f11_6 (by decide) (zkd_of (rfl : zcd wC 0 = 0) rfl) (zrf_of (rfl : zcd wC 0 = 0) rfl) (Or.inl (hts _ (z_mem k248))) dX11_wipe_1 ?_
  refine z_geti hx hb hts (z_memU u3) hown hK.1 hS f3_1 (by decide) (zkd_of (rfl : zcd wC 82 = 34) rfl) (Or.inl (hts _ (z_mem k197))) dX11_wipe_4 ?_
  refine z_top (show M 82 1 = 0 from by rw [g0]) ?_
  refine lv_istore_n (lv' := [(1, .int (iI 0)), (0, .ref (b + 0))]) hx hb dX11_wipe_7 rfl hl (by decide) rfl (fun ls hl => ?_)
  refine lv_aload_n hx hb dX11_wipe_8 rfl (lv_at hl 1 rfl) ?_
  refine z_getr (j2 := 82) hx hb hts (z_memU u11) hown hK.1 hS f11_6 (by decide) (zkd_of (rfl : zcd wC 0 = 0) rfl) (zrf_of (rfl : zcd wC 0 = 0) rfl) (Or.inl (hts _ (z_mem k248))) dX11_wipe_9 ?_
  refine z_iconst hx hb dX11_wipe_12 ?_
  refine z_puti hx hb hts (z_memU u3) tyX3 tyX3_ok nmX3 hown hK.1 hS hS0 f3_1 (by decide) (zkd_of (rfl : zcd wC 82 = 34) rfl) (Or.inl (hts _ (z_mem k197))) rfl (z := 0) (by decide +kernel) (zbd_in (rfl : zcd wC 82 = 34) rfl (by decide)) (zms_of (rfl : zcd wC 82 = 34) rfl) dX11_wipe_13 (fun H locs hS hS0 => ?_)
  obtain ⟨M1, e2⟩ : ∃ M1 : zM, M1 = zup M 82 1 0 := ⟨_, rfl⟩
  rw [← e2] at hS
  have J3 := hS.2.1
  refine lv_iload_n hx hb dX11_wipe_16 rfl (lv_at hl 0 rfl) ?_
  exact z_iret hx hb hr hlocks hS hS0 (by decide) (by first | exact trivial | exact ⟨rfl, trivial⟩ | omega | (refine ⟨by omega, trivial⟩)) dX11_wipe_17

set_option maxHeartbeats 4000000 in
set_option maxRecDepth 100000 in
theorem x_span (l : Launch) (D : va_G) (dA : Nat → ClassId) (b : Nat) (M : zM) (i : Int) (r_i : R32 i) (g0 : M 82 1 = 0) : Met l yX11_span (.code yX11_span cX11_span 2 (some .int) :: zt) (z_rm 3) (va_Pc [.ref (b + 0), .int (iI i)] (zP D dA vwCl (z_tys dA) wC nC b M)) (va_Qi (zQi wC (zms wC [2367]) M (fun z M1 => (0 ≤ i ∧ i < 24 ∧ z = i + 1) ∨ ((i < 0 ∨ 24 ≤ i) ∧ z = -1))) (zB D dA vwCl wC nC b) (zA nC b)) 0 0 (zA nC b) := by
  refine Met.ofW (cc := cX11_span) (maxL := 2) (ret := (some .int)) (by decide) rfl ?_
  intro p e s m args below meth c s₁ B hml hv
  obtain ⟨hargs, hR0, hJ, hK⟩ := hv
  have hx := B.exec
  have hb := B.bytes
  have hr := B.returns
  have hts := atoms_spec (ws := .code yX11_span cX11_span 2 (some .int) :: zt) B.pre
  have hown : s.vm.findClass RX11 = some m.cls := findClass_of_methodNamed B.named
  have hlocks := B.notSynchronized
  have hS : zS D dA vwCl wC nC b (zms wC [2367]) M M s.heap := ⟨hR0, hJ, zF_rf _ _⟩
  have hS0 : va_S (zA nC b) s.heap s.heap [] := va_S.rf
  have hl := lv_entry ([.ref (b + 0), .int (iI i)]) (n := 2) (Nat.le_of_ble_eq_true rfl)
  have hent : entryFrame m args 2 = F0 m 0 ((lg_sl ([.ref (b + 0), .int (iI i)]) ++ List.replicate (2 - (lg_sl ([.ref (b + 0), .int (iI i)])).length) Slot.unset).toArray) [] := by rw [hargs]; exact lg_entry_eq m ([.ref (b + 0), .int (iI i)]) 2
  rw [hent]
  generalize (lg_sl ([.ref (b + 0), .int (iI i)]) ++ List.replicate (2 - (lg_sl ([.ref (b + 0), .int (iI i)])).length) Slot.unset).toArray = ls at hl ⊢
  have hl : lv_has ls 2 [(0, .ref (b + 0)), (1, .int (iI i))] := hl
  refine lv_aload_n hx hb dX11_span_0 rfl (lv_at hl 0 rfl) ?_
  refine z_getr (j2 := 82) hx hb hts (z_memU u11) hown hK.1 hS f11_6 (by decide) (zkd_of (rfl : zcd wC 0 = 0) rfl) (zrf_of (rfl : zcd wC 0 = 0) rfl) (Or.inl (hts _ (z_mem k248))) dX11_span_1 ?_
  refine lv_iload_n hx hb dX11_span_4 rfl (lv_at hl 1 rfl) ?_
  refine z_calli (va_runV (As := [.int (iI i)]) (rest := []) ⟨hx, hb, hml, hown, hts⟩ (n_spanNumber l D dA b M i r_i (by rw [g0])) (cwV 1 hts (z_gV k762 k763 k764 k11 k765) rfl rfl rfl dm_X3_spanNumber ⟨Nat.le_of_ble_eq_true rfl, Nat.le_of_ble_eq_true rfl⟩) ⟨zP_blind, (z_recv hS hK.1 (by decide) (zkd_of (rfl : zcd wC 82 = 34) rfl) (by decide) (rfl : vwCl[3]? = some (RX3, TX3, 4))), z_pre hS hK⟩ rfl rfl hl.1 rfl (lv_room (Nat.le_of_ble_eq_true rfl)) dX11_span_5 ⟨Nat.le_refl _, Nat.le_refl _⟩) hS hS0 (zms_sub rfl) (fun z5 M1 H locs r6 h2 F3 hS hS0 => ?_)
  have J4 := hS.2.1
  exact z_iret hx hb hr hlocks hS hS0 r6 (by first | exact trivial | exact ⟨rfl, trivial⟩ | omega | (refine ⟨by omega, trivial⟩)) dX11_span_8

set_option maxHeartbeats 4000000 in
set_option maxRecDepth 100000 in
theorem x_pair (l : Launch) (D : va_G) (dA : Nat → ClassId) (b : Nat) (M : zM) (i : Int) (r_i : R32 i) (g0 : M 82 1 = 0) : Met l yX11_pair (.code yX11_pair cX11_pair 2 (some .int) :: zt) (z_rm 4) (va_Pc [.ref (b + 0), .int (iI i)] (zP D dA vwCl (z_tys dA) wC nC b M)) (va_Qi (zQi wC (zms wC [2367, 2431]) M (fun z M1 => PR i z)) (zB D dA vwCl wC nC b) (zA nC b)) 0 0 (zA nC b) := by
  refine Met.ofW (cc := cX11_pair) (maxL := 2) (ret := (some .int)) (by decide) rfl ?_
  intro p e s m args below meth c s₁ B hml hv
  obtain ⟨hargs, hR0, hJ, hK⟩ := hv
  have hx := B.exec
  have hb := B.bytes
  have hr := B.returns
  have hts := atoms_spec (ws := .code yX11_pair cX11_pair 2 (some .int) :: zt) B.pre
  have hown : s.vm.findClass RX11 = some m.cls := findClass_of_methodNamed B.named
  have hlocks := B.notSynchronized
  have hS : zS D dA vwCl wC nC b (zms wC [2367, 2431]) M M s.heap := ⟨hR0, hJ, zF_rf _ _⟩
  have hS0 : va_S (zA nC b) s.heap s.heap [] := va_S.rf
  have hl := lv_entry ([.ref (b + 0), .int (iI i)]) (n := 2) (Nat.le_of_ble_eq_true rfl)
  have hent : entryFrame m args 2 = F0 m 0 ((lg_sl ([.ref (b + 0), .int (iI i)]) ++ List.replicate (2 - (lg_sl ([.ref (b + 0), .int (iI i)])).length) Slot.unset).toArray) [] := by rw [hargs]; exact lg_entry_eq m ([.ref (b + 0), .int (iI i)]) 2
  rw [hent]
  generalize (lg_sl ([.ref (b + 0), .int (iI i)]) ++ List.replicate (2 - (lg_sl ([.ref (b + 0), .int (iI i)])).length) Slot.unset).toArray = ls at hl ⊢
  have hl : lv_has ls 2 [(0, .ref (b + 0)), (1, .int (iI i))] := hl
  refine lv_aload_n hx hb dX11_pair_0 rfl (lv_at hl 0 rfl) ?_
  refine z_getr (j2 := 82) hx hb hts (z_memU u11) hown hK.1 hS f11_6 (by decide) (zkd_of (rfl : zcd wC 0 = 0) rfl) (zrf_of (rfl : zcd wC 0 = 0) rfl) (Or.inl (hts _ (z_mem k248))) dX11_pair_1 ?_
  refine lv_iload_n hx hb dX11_pair_4 rfl (lv_at hl 1 rfl) ?_
  refine z_calli (va_runV (As := [.int (iI i)]) (rest := []) ⟨hx, hb, hml, hown, hts⟩ (n_pairNumber l D dA b M i r_i (by rw [g0])) (cwV 1 hts (z_gV k774 k775 k776 k11 k777) rfl rfl rfl dm_X3_pairNumber ⟨Nat.le_of_ble_eq_true rfl, Nat.le_of_ble_eq_true rfl⟩) ⟨zP_blind, (z_recv hS hK.1 (by decide) (zkd_of (rfl : zcd wC 82 = 34) rfl) (by decide) (rfl : vwCl[3]? = some (RX3, TX3, 4))), z_pre hS hK⟩ rfl rfl hl.1 rfl (lv_room (Nat.le_of_ble_eq_true rfl)) dX11_pair_5 ⟨Nat.le_refl _, Nat.le_refl _⟩) hS hS0 (zms_sub rfl) (fun z5 M1 H locs r6 h2 F3 hS hS0 => ?_)
  have J4 := hS.2.1
  exact z_iret hx hb hr hlocks hS hS0 r6 (h2) dX11_pair_8

set_option maxHeartbeats 4000000 in
set_option maxRecDepth 100000 in
theorem x_mended (l : Launch) (D : va_G) (dA : Nat → ClassId) (b : Nat) (M : zM) (i : Int) (r_i : R32 i) (g0 : M 82 1 = 0) : Met l yX11_mended (.code yX11_mended cX11_mended 2 (some .int) :: zt) (z_rm 1) (va_Pc [.ref (b + 0), .int (iI i)] (zP D dA vwCl (z_tys dA) wC nC b M)) (va_Qi (zQi wC (zms wC []) M (fun z M1 => M1 = M ∧ (z = -1 ∧ True))) (zB D dA vwCl wC nC b) (zA nC b)) 0 0 (zA nC b) := by
  refine Met.ofW (cc := cX11_mended) (maxL := 2) (ret := (some .int)) (by decide) rfl ?_
  intro p e s m args below meth c s₁ B hml hv
  obtain ⟨hargs, hR0, hJ, hK⟩ := hv
  have hx := B.exec
  have hb := B.bytes
  have hr := B.returns
  have hts := atoms_spec (ws := .code yX11_mended cX11_mended 2 (some .int) :: zt) B.pre
  have hown : s.vm.findClass RX11 = some m.cls := findClass_of_methodNamed B.named
  have hlocks := B.notSynchronized
  have hS : zS D dA vwCl wC nC b (zms wC []) M M s.heap := ⟨hR0, hJ, zF_rf _ _⟩
  have hS0 : va_S (zA nC b) s.heap s.heap [] := va_S.rf
  have hl := lv_entry ([.ref (b + 0), .int (iI i)]) (n := 2) (Nat.le_of_ble_eq_true rfl)
  have hent : entryFrame m args 2 = F0 m 0 ((lg_sl ([.ref (b + 0), .int (iI i)]) ++ List.replicate (2 - (lg_sl ([.ref (b + 0), .int (iI i)])).length) Slot.unset).toArray) [] := by rw [hargs]; exact lg_entry_eq m ([.ref (b + 0), .int (iI i)]) 2
  rw [hent]
  generalize (lg_sl ([.ref (b + 0), .int (iI i)]) ++ List.replicate (2 - (lg_sl ([.ref (b + 0), .int (iI i)])).length) Slot.unset).toArray = ls at hl ⊢
  have hl : lv_has ls 2 [(0, .ref (b + 0)), (1, .int (iI i))] := hl
  refine lv_aload_n hx hb dX11_mended_0 rfl (lv_at hl 0 rfl) ?_
  refine z_getr (j2 := 82) hx hb hts (z_memU u11) hown hK.1 hS f11_6 (by decide) (zkd_of (rfl : zcd wC 0 = 0) rfl) (zrf_of (rfl : zcd wC 0 = 0) rfl) (Or.inl (hts _ (z_mem k248))) dX11_mended_1 ?_
  refine lv_iload_n hx hb dX11_mended_4 rfl (lv_at hl 1 rfl) ?_
  refine z_calli (va_runV (As := [.int (iI i)]) (rest := []) ⟨hx, hb, hml, hown, hts⟩ (n_mendedAt l D dA b M i r_i (by rw [g0])) (cwV 1 hts (z_gV k789 k790 k791 k11 k792) rfl rfl rfl dm_X3_mendedAt ⟨Nat.le_of_ble_eq_true rfl, Nat.le_of_ble_eq_true rfl⟩) ⟨zP_blind, (z_recv hS hK.1 (by decide) (zkd_of (rfl : zcd wC 82 = 34) rfl) (by decide) (rfl : vwCl[3]? = some (RX3, TX3, 4))), z_pre hS hK⟩ rfl rfl hl.1 rfl (lv_room (Nat.le_of_ble_eq_true rfl)) dX11_mended_5 ⟨Nat.le_refl _, Nat.le_refl _⟩) hS hS0 (zms_sub rfl) (fun z5 M1 H locs r6 h2 F3 hS hS0 => ?_)
  obtain ⟨h7, h2⟩ := h2
  rw [h7] at hS
  have h8 := h2
  obtain ⟨z5e, h8⟩ := h8
  subst z5e
  exact z_iret hx hb hr hlocks hS hS0 (by decide) (⟨rfl, by first | exact trivial | exact ⟨rfl, trivial⟩ | omega | (refine ⟨by omega, trivial⟩)⟩) dX11_mended_8

set_option maxHeartbeats 4000000 in
set_option maxRecDepth 100000 in
theorem x_piece (l : Launch) (D : va_G) (dA : Nat → ClassId) (b : Nat) (M : zM) (v : Int) (n : Int) (r_v : R32 v) (r_n : R32 n) (g0 : M 86 0 = 0) : Met l yX11_piece (.code yX11_piece cX11_piece 3 (some .int) :: zt) (z_rm 2) (va_Pc [.ref (b + 0), .int (iI v), .int (iI n)] (zP D dA vwCl (z_tys dA) wC nC b M)) (va_Qi (zQi wC (zms wC [2432, 2687, 2751]) M (fun z M1 => ((1 ≤ n ∧ n ≤ 8) ∧ ((z = 0 ∧ ∀ k : Int, 0 ≤ k → k < n → DIG v k ≤ 9) ∨ (z = -1 ∧ ∃ k : Int, 0 ≤ k ∧ k < n ∧ 9 < DIG v k))) ∨ (¬ (1 ≤ n ∧ n ≤ 8) ∧ z = -1))) (zB D dA vwCl wC nC b) (zA nC b)) 0 0 (zA nC b) := by
  refine Met.ofW (cc := cX11_piece) (maxL := 3) (ret := (some .int)) (by decide) rfl ?_
  intro p e s m args below meth c s₁ B hml hv
  obtain ⟨hargs, hR0, hJ, hK⟩ := hv
  have hx := B.exec
  have hb := B.bytes
  have hr := B.returns
  have hts := atoms_spec (ws := .code yX11_piece cX11_piece 3 (some .int) :: zt) B.pre
  have hown : s.vm.findClass RX11 = some m.cls := findClass_of_methodNamed B.named
  have hlocks := B.notSynchronized
  have hS : zS D dA vwCl wC nC b (zms wC [2432, 2687, 2751]) M M s.heap := ⟨hR0, hJ, zF_rf _ _⟩
  have hS0 : va_S (zA nC b) s.heap s.heap [] := va_S.rf
  have hl := lv_entry ([.ref (b + 0), .int (iI v), .int (iI n)]) (n := 3) (Nat.le_of_ble_eq_true rfl)
  have hent : entryFrame m args 3 = F0 m 0 ((lg_sl ([.ref (b + 0), .int (iI v), .int (iI n)]) ++ List.replicate (3 - (lg_sl ([.ref (b + 0), .int (iI v), .int (iI n)])).length) Slot.unset).toArray) [] := by rw [hargs]; exact lg_entry_eq m ([.ref (b + 0), .int (iI v), .int (iI n)]) 3
  rw [hent]
  generalize (lg_sl ([.ref (b + 0), .int (iI v), .int (iI n)]) ++ List.replicate (3 - (lg_sl ([.ref (b + 0), .int (iI v), .int (iI n)])).length) Slot.unset).toArray = ls at hl ⊢
  have hl : lv_has ls 3 [(0, .ref (b + 0)), (1, .int (iI v)), (2, .int (iI n))] := hl
  refine lv_iload_n hx hb dX11_piece_0 rfl (lv_at hl 2 rfl) ?_
  refine z_iconst hx hb dX11_piece_1 ?_
  refine z_bipush hx hb (by decide) dX11_piece_2 ?_
  refine z_calli (va_runS (As := [.int (iI n), .int (iI 1), .int (iI 8)]) (rest := []) ⟨hx, hb, hml, hown, hts⟩ (c_within l D dA b M n 1 8 r_n (by decide) (by decide)) (va_cwS 3 hts (z_gS k382 k383 k1 k384) rfl rfl rfl dm_X11_within.2 ⟨Nat.le_of_ble_eq_true rfl, Nat.le_of_ble_eq_true rfl⟩) ⟨zP_blind, z_pre hS hK⟩ rfl rfl hl.1 rfl (lv_room (Nat.le_of_ble_eq_true rfl)) dX11_piece_4 ⟨Nat.le_refl _, Nat.le_refl _⟩) hS hS0 (zms_sub rfl) (fun z5 M1 H locs r6 h2 F3 hS hS0 => ?_)
  obtain ⟨h7, h2⟩ := h2
  rw [h7] at hS
  rcases h2 with h8 | h9
  · skip
    obtain ⟨z5e, h8⟩ := h8
    subst z5e
    refine z_if_eq (tgt := 22) hx hb (by decide) dX11_piece_7 (by decide) (fun c10 => absurd c10 (by decide)) (fun c10 => ?_)
    refine lv_aload_n hx hb dX11_piece_10 rfl (lv_at hl 0 rfl) ?_
    refine z_getr (j2 := 86) hx hb hts (z_memU u11) hown hK.1 hS f11_7 (by decide) (zkd_of (rfl : zcd wC 0 = 0) rfl) (zrf_of (rfl : zcd wC 0 = 0) rfl) (Or.inl (hts _ (z_mem k249))) dX11_piece_11 ?_
    refine lv_iload_n hx hb dX11_piece_14 rfl (lv_at hl 1 rfl) ?_
    refine lv_iload_n hx hb dX11_piece_15 rfl (lv_at hl 2 rfl) ?_
    refine z_calli (va_runV (As := [.int (iI v), .int (iI n)]) (rest := []) ⟨hx, hb, hml, hown, hts⟩ (n_pcadd l D dA b M v n r_v r_n (by rw [g0]) (by omega)) (cwV 2 hts (z_gV k798 k799 k800 k12 k801) rfl rfl rfl dm_X4_add ⟨Nat.le_of_ble_eq_true rfl, Nat.le_of_ble_eq_true rfl⟩) ⟨zP_blind, (z_recv hS hK.1 (by decide) (zkd_of (rfl : zcd wC 86 = 38) rfl) (by decide) (rfl : vwCl[4]? = some (RX4, TX4, 6))), z_pre hS hK⟩ rfl rfl hl.1 rfl (lv_room (Nat.le_of_ble_eq_true rfl)) dX11_piece_16 ⟨Nat.le_refl _, Nat.le_refl _⟩) hS hS0 (zms_sub rfl) (fun z15 M11 H locs r16 h12 F13 hS hS0 => ?_)
    have J14 := hS.2.1
    refine lv_goto (tgt := 23) hx hb dX11_piece_19 (by decide) ?_
    exact z_iret hx hb hr hlocks hS hS0 r16 (Or.inl ⟨by omega, h12⟩) dX11_piece_23
  · skip
    obtain ⟨z5e, h9⟩ := h9
    subst z5e
    refine z_if_eq (tgt := 22) hx hb (by decide) dX11_piece_7 (by decide) (fun c17 => ?_) (fun c17 => absurd c17 (by decide))
    refine z_iconst hx hb dX11_piece_22 ?_
    exact z_iret hx hb hr hlocks hS hS0 (by decide) (Or.inr ⟨by omega, rfl⟩) dX11_piece_23

set_option maxHeartbeats 4000000 in
set_option maxRecDepth 100000 in
theorem x_burn (l : Launch) (D : va_G) (dA : Nat → ClassId) (b : Nat) (M : zM) (g0 : M 86 0 = 0) : Met l yX11_burn (.code yX11_burn cX11_burn 2 (some .int) :: zt) (z_rm 0) (va_Pc [.ref (b + 0)] (zP D dA vwCl (z_tys dA) wC nC b M)) (va_Qi (zQi wC (zms wC [2432]) M (fun z M1 => z = 0 ∧ True)) (zB D dA vwCl wC nC b) (zA nC b)) 0 0 (zA nC b) := by
  refine Met.ofW (cc := cX11_burn) (maxL := 2) (ret := (some .int)) (by decide) rfl ?_
  intro p e s m args below meth c s₁ B hml hv
  obtain ⟨hargs, hR0, hJ, hK⟩ := hv
  have hx := B.exec
  have hb := B.bytes
  have hr := B.returns
  have hts := atoms_spec (ws := .code yX11_burn cX11_burn 2 (some .int) :: zt) B.pre
  have hown : s.vm.findClass RX11 = some m.cls := findClass_of_methodNamed B.named
  have hlocks := B.notSynchronized
  have hS : zS D dA vwCl wC nC b (zms wC [2432]) M M s.heap := ⟨hR0, hJ, zF_rf _ _⟩
  have hS0 : va_S (zA nC b) s.heap s.heap [] := va_S.rf
  have hl := lv_entry ([.ref (b + 0)]) (n := 2) (Nat.le_of_ble_eq_true rfl)
  have hent : entryFrame m args 2 = F0 m 0 ((lg_sl ([.ref (b + 0)]) ++ List.replicate (2 - (lg_sl ([.ref (b + 0)])).length) Slot.unset).toArray) [] := by rw [hargs]; exact lg_entry_eq m ([.ref (b + 0)]) 2
  rw [hent]
  generalize (lg_sl ([.ref (b + 0)]) ++ List.replicate (2 - (lg_sl ([.ref (b + 0)])).length) Slot.unset).toArray = ls at hl ⊢
  have hl : lv_has ls 2 [(0, .ref (b + 0))] := hl
  refine lv_aload_n hx hb dX11_burn_0 rfl (lv_at hl 0 rfl) ?_
  refine z_getr (j2 := 86) hx hb hts (z_memU u11) hown hK.1 hS f11_7 (by decide) (zkd_of (rfl : zcd wC 0 = 0) rfl) (zrf_of (rfl : zcd wC 0 = 0) rfl) (Or.inl (hts _ (z_mem k249))) dX11_burn_1 ?_
  refine z_geti hx hb hts (z_memU u4) hown hK.1 hS f4_0 (by decide) (zkd_of (rfl : zcd wC 86 = 38) rfl) (Or.inl (hts _ (z_mem k211))) dX11_burn_4 ?_
  refine z_top (show M 86 0 = 0 from by rw [g0]) ?_
  refine lv_istore_n (lv' := [(1, .int (iI 0)), (0, .ref (b + 0))]) hx hb dX11_burn_7 rfl hl (by decide) rfl (fun ls hl => ?_)
  refine lv_aload_n hx hb dX11_burn_8 rfl (lv_at hl 1 rfl) ?_
  refine z_getr (j2 := 86) hx hb hts (z_memU u11) hown hK.1 hS f11_7 (by decide) (zkd_of (rfl : zcd wC 0 = 0) rfl) (zrf_of (rfl : zcd wC 0 = 0) rfl) (Or.inl (hts _ (z_mem k249))) dX11_burn_9 ?_
  refine z_iconst hx hb dX11_burn_12 ?_
  refine z_puti hx hb hts (z_memU u4) tyX4 tyX4_ok nmX4 hown hK.1 hS hS0 f4_0 (by decide) (zkd_of (rfl : zcd wC 86 = 38) rfl) (Or.inl (hts _ (z_mem k211))) rfl (z := 0) (by decide +kernel) (zbd_in (rfl : zcd wC 86 = 38) rfl (by decide)) (zms_of (rfl : zcd wC 86 = 38) rfl) dX11_burn_13 (fun H locs hS hS0 => ?_)
  obtain ⟨M1, e2⟩ : ∃ M1 : zM, M1 = zup M 86 0 0 := ⟨_, rfl⟩
  rw [← e2] at hS
  have J3 := hS.2.1
  refine lv_iload_n hx hb dX11_burn_16 rfl (lv_at hl 0 rfl) ?_
  exact z_iret hx hb hr hlocks hS hS0 (by decide) (by first | exact trivial | exact ⟨rfl, trivial⟩ | omega | (refine ⟨by omega, trivial⟩)) dX11_burn_17

set_option maxHeartbeats 4000000 in
set_option maxRecDepth 100000 in
theorem x_join (l : Launch) (D : va_G) (dA : Nat → ClassId) (b : Nat) (M : zM) (g0 : M 86 0 = 0) : Met l yX11_join (.code yX11_join cX11_join 2 (some .int) :: zt) (z_rm 4) (va_Pc [.ref (b + 0)] (zP D dA vwCl (z_tys dA) wC nC b M)) (va_Qi (zQi wC (zms wC [2434, 2559, 10, 3199]) M (fun z M1 => z = 0 ∧ True)) (zB D dA vwCl wC nC b) (zA nC b)) 0 0 (zA nC b) := by
  refine Met.ofW (cc := cX11_join) (maxL := 2) (ret := (some .int)) (by decide) rfl ?_
  intro p e s m args below meth c s₁ B hml hv
  obtain ⟨hargs, hR0, hJ, hK⟩ := hv
  have hx := B.exec
  have hb := B.bytes
  have hr := B.returns
  have hts := atoms_spec (ws := .code yX11_join cX11_join 2 (some .int) :: zt) B.pre
  have hown : s.vm.findClass RX11 = some m.cls := findClass_of_methodNamed B.named
  have hlocks := B.notSynchronized
  have hS : zS D dA vwCl wC nC b (zms wC [2434, 2559, 10, 3199]) M M s.heap := ⟨hR0, hJ, zF_rf _ _⟩
  have hS0 : va_S (zA nC b) s.heap s.heap [] := va_S.rf
  have hl := lv_entry ([.ref (b + 0)]) (n := 2) (Nat.le_of_ble_eq_true rfl)
  have hent : entryFrame m args 2 = F0 m 0 ((lg_sl ([.ref (b + 0)]) ++ List.replicate (2 - (lg_sl ([.ref (b + 0)])).length) Slot.unset).toArray) [] := by rw [hargs]; exact lg_entry_eq m ([.ref (b + 0)]) 2
  rw [hent]
  generalize (lg_sl ([.ref (b + 0)]) ++ List.replicate (2 - (lg_sl ([.ref (b + 0)])).length) Slot.unset).toArray = ls at hl ⊢
  have hl : lv_has ls 2 [(0, .ref (b + 0))] := hl
  refine lv_aload_n hx hb dX11_join_0 rfl (lv_at hl 0 rfl) ?_
  refine z_getr (j2 := 86) hx hb hts (z_memU u11) hown hK.1 hS f11_7 (by decide) (zkd_of (rfl : zcd wC 0 = 0) rfl) (zrf_of (rfl : zcd wC 0 = 0) rfl) (Or.inl (hts _ (z_mem k249))) dX11_join_1 ?_
  refine z_calli (va_runV (As := []) (rest := []) ⟨hx, hb, hml, hown, hts⟩ (n_joinAll l D dA b M (by rw [g0])) (cwV 0 hts (z_gV k813 k814 k815 k12 k816) rfl rfl rfl dm_X4_joinAll ⟨Nat.le_of_ble_eq_true rfl, Nat.le_of_ble_eq_true rfl⟩) ⟨zP_blind, (z_recv hS hK.1 (by decide) (zkd_of (rfl : zcd wC 86 = 38) rfl) (by decide) (rfl : vwCl[4]? = some (RX4, TX4, 6))), z_pre hS hK⟩ rfl rfl hl.1 rfl (lv_room (Nat.le_of_ble_eq_true rfl)) dX11_join_4 ⟨Nat.le_refl _, Nat.le_refl _⟩) hS hS0 (zms_sub rfl) (fun z5 M1 H locs r6 h2 F3 hS hS0 => ?_)
  have J4 := hS.2.1
  have h7 := h2
  obtain ⟨z5e, h7⟩ := h7
  subst z5e
  refine lv_istore_n (lv' := [(1, .int (iI 0)), (0, .ref (b + 0))]) hx hb dX11_join_7 rfl hl (by decide) rfl (fun ls hl => ?_)
  refine lv_aload_n hx hb dX11_join_8 rfl (lv_at hl 1 rfl) ?_
  refine lv_aload_n hx hb dX11_join_9 rfl (lv_at hl 1 rfl) ?_
  refine z_getr (j2 := 86) hx hb hts (z_memU u11) hown hK.1 hS f11_7 (by decide) (zkd_of (rfl : zcd wC 0 = 0) rfl) (zrf_of (rfl : zcd wC 0 = 0) rfl) (Or.inl (hts _ (z_mem k249))) dX11_join_10 ?_
  refine z_getr (j2 := 87) hx hb hts (z_memU u4) hown hK.1 hS f4_1 (by decide) (zkd_of (rfl : zcd wC 86 = 38) rfl) (zrf_of (rfl : zcd wC 86 = 38) rfl) (Or.inl (hts _ (z_mem k213))) dX11_join_13 ?_
  refine lv_iload_n hx hb dX11_join_16 rfl (lv_at hl 0 rfl) ?_
  refine z_callv (va_runV (As := [.ref (b + 87), .int (iI 0)]) (rest := []) ⟨hx, hb, hml, hown, hts⟩ (n_tellB l D dA b M1 0 (by decide) (by omega)) (cwV 2 hts (z_gV k653 k654 k1379 k1 k655) rfl rfl rfl dm_X11_tell ⟨Nat.le_of_ble_eq_true rfl, Nat.le_of_ble_eq_true rfl⟩) ⟨zP_blind, (z_recv hS hK.1 (by decide) (zkd_of (rfl : zcd wC 0 = 0) rfl) (by decide) (rfl : vwCl[11]? = some (RX11, TX11, 11))), z_pre hS hK⟩ rfl rfl hl.1 rfl (lv_room (Nat.le_of_ble_eq_true rfl)) dX11_join_17 ⟨Nat.le_refl _, Nat.le_refl _⟩) hS hS0 (zms_sub rfl) (fun M8 H locs h9 F10 hS hS0 => ?_)
  have J11 := hS.2.1
  refine lv_iload_n hx hb dX11_join_20 rfl (lv_at hl 0 rfl) ?_
  exact z_iret hx hb hr hlocks hS hS0 (by decide) (by first | exact trivial | exact ⟨rfl, trivial⟩ | omega | (refine ⟨by omega, trivial⟩)) dX11_join_21

set_option maxHeartbeats 4000000 in
set_option maxRecDepth 100000 in
theorem x_keep (l : Launch) (D : va_G) (dA : Nat → ClassId) (b : Nat) (M : zM) (rg : Int) (dy : Int) (r_rg : R32 rg) (r_dy : R32 dy) (g0 : M 32 2 = 0) : Met l yX11_keep (.code yX11_keep cX11_keep 4 (some .int) :: zt) (z_rm 1) (va_Pc [.ref (b + 0), .int (iI rg), .int (iI dy)] (zP D dA vwCl (z_tys dA) wC nC b M)) (va_Qi (zQi wC (zms wC []) M (fun z M1 => M1 = M ∧ (z = -1 ∧ True))) (zB D dA vwCl wC nC b) (zA nC b)) 0 0 (zA nC b) := by
  refine Met.ofW (cc := cX11_keep) (maxL := 4) (ret := (some .int)) (by decide) rfl ?_
  intro p e s m args below meth c s₁ B hml hv
  obtain ⟨hargs, hR0, hJ, hK⟩ := hv
  have hx := B.exec
  have hb := B.bytes
  have hr := B.returns
  have hts := atoms_spec (ws := .code yX11_keep cX11_keep 4 (some .int) :: zt) B.pre
  have hown : s.vm.findClass RX11 = some m.cls := findClass_of_methodNamed B.named
  have hlocks := B.notSynchronized
  have hS : zS D dA vwCl wC nC b (zms wC []) M M s.heap := ⟨hR0, hJ, zF_rf _ _⟩
  have hS0 : va_S (zA nC b) s.heap s.heap [] := va_S.rf
  have hl := lv_entry ([.ref (b + 0), .int (iI rg), .int (iI dy)]) (n := 4) (Nat.le_of_ble_eq_true rfl)
  have hent : entryFrame m args 4 = F0 m 0 ((lg_sl ([.ref (b + 0), .int (iI rg), .int (iI dy)]) ++ List.replicate (4 - (lg_sl ([.ref (b + 0), .int (iI rg), .int (iI dy)])).length) Slot.unset).toArray) [] := by rw [hargs]; exact lg_entry_eq m ([.ref (b + 0), .int (iI rg), .int (iI dy)]) 4
  rw [hent]
  generalize (lg_sl ([.ref (b + 0), .int (iI rg), .int (iI dy)]) ++ List.replicate (4 - (lg_sl ([.ref (b + 0), .int (iI rg), .int (iI dy)])).length) Slot.unset).toArray = ls at hl ⊢
  have hl : lv_has ls 4 [(0, .ref (b + 0)), (1, .int (iI rg)), (2, .int (iI dy))] := hl
  refine lv_aload_n hx hb dX11_keep_0 rfl (lv_at hl 0 rfl) ?_
  refine z_getr (j2 := 32) hx hb hts (z_memU u11) hown hK.1 hS f11_2 (by decide) (zkd_of (rfl : zcd wC 0 = 0) rfl) (zrf_of (rfl : zcd wC 0 = 0) rfl) (Or.inl (hts _ (z_mem k244))) dX11_keep_1 ?_
  refine lv_iload_n hx hb dX11_keep_4 rfl (lv_at hl 1 rfl) ?_
  refine z_callq (va_runV (As := [.int (iI rg)]) (rest := []) ⟨hx, hb, hml, hown, hts⟩ (n_find l D dA b M rg r_rg (by rw [g0])) (cwV 1 hts (z_gV k411 k412 k413 k4 k414) rfl rfl rfl dm_X9_find ⟨Nat.le_of_ble_eq_true rfl, Nat.le_of_ble_eq_true rfl⟩) ⟨zP_blind, (z_recv hS hK.1 (by decide) (zkd_of (rfl : zcd wC 32 = 8) rfl) (by decide) (rfl : vwCl[9]? = some (RX9, TX9, 3))), z_pre hS hK⟩ rfl rfl hl.1 rfl (lv_room (Nat.le_of_ble_eq_true rfl)) dX11_keep_5 ⟨Nat.le_refl _, Nat.le_refl _⟩) hS hS0 (zms_sub rfl) (fun z5 M1 H locs h2 F3 hS hS0 => ?_)
  obtain ⟨h6, h2⟩ := h2
  rw [h6] at hS
  have h7 := h2
  obtain ⟨z5e, h7⟩ := h7
  subst z5e
  show W _ _ _ _ _ _ _ _ _ _ _ _ _ _ _ (F0 m _ ls (.null :: []))
  refine lv_astore_nN (lv' := [(3, .null), (0, .ref (b + 0)), (1, .int (iI rg)), (2, .int (iI dy))]) hx hb dX11_keep_8 rfl hl (by decide) rfl (fun ls hl => ?_)
  refine lv_aload_nN hx hb dX11_keep_9 rfl (lv_at hl 0 rfl) ?_
  refine lv_ifnullN (tgt := 24) hx hb dX11_keep_10 (by decide) ?_
  refine z_iconst hx hb dX11_keep_24 ?_
  exact z_iret hx hb hr hlocks hS hS0 (by decide) (⟨rfl, by first | exact trivial | exact ⟨rfl, trivial⟩ | omega | (refine ⟨by omega, trivial⟩)⟩) dX11_keep_25

set_option maxHeartbeats 4000000 in
set_option maxRecDepth 100000 in
theorem x_known (l : Launch) (D : va_G) (dA : Nat → ClassId) (b : Nat) (M : zM) (rg : Int) (dy : Int) (r_rg : R32 rg) (r_dy : R32 dy) (g0 : M 96 0 = 0) : Met l yX11_known (.code yX11_known cX11_known 3 (some .int) :: zt) (z_rm 1) (va_Pc [.ref (b + 0), .int (iI rg), .int (iI dy)] (zP D dA vwCl (z_tys dA) wC nC b M)) (va_Qi (zQi wC (zms wC []) M (fun z M1 => M1 = M ∧ (z = -1 ∧ True))) (zB D dA vwCl wC nC b) (zA nC b)) 0 0 (zA nC b) := by
  refine Met.ofW (cc := cX11_known) (maxL := 3) (ret := (some .int)) (by decide) rfl ?_
  intro p e s m args below meth c s₁ B hml hv
  obtain ⟨hargs, hR0, hJ, hK⟩ := hv
  have hx := B.exec
  have hb := B.bytes
  have hr := B.returns
  have hts := atoms_spec (ws := .code yX11_known cX11_known 3 (some .int) :: zt) B.pre
  have hown : s.vm.findClass RX11 = some m.cls := findClass_of_methodNamed B.named
  have hlocks := B.notSynchronized
  have hS : zS D dA vwCl wC nC b (zms wC []) M M s.heap := ⟨hR0, hJ, zF_rf _ _⟩
  have hS0 : va_S (zA nC b) s.heap s.heap [] := va_S.rf
  have hl := lv_entry ([.ref (b + 0), .int (iI rg), .int (iI dy)]) (n := 3) (Nat.le_of_ble_eq_true rfl)
  have hent : entryFrame m args 3 = F0 m 0 ((lg_sl ([.ref (b + 0), .int (iI rg), .int (iI dy)]) ++ List.replicate (3 - (lg_sl ([.ref (b + 0), .int (iI rg), .int (iI dy)])).length) Slot.unset).toArray) [] := by rw [hargs]; exact lg_entry_eq m ([.ref (b + 0), .int (iI rg), .int (iI dy)]) 3
  rw [hent]
  generalize (lg_sl ([.ref (b + 0), .int (iI rg), .int (iI dy)]) ++ List.replicate (3 - (lg_sl ([.ref (b + 0), .int (iI rg), .int (iI dy)])).length) Slot.unset).toArray = ls at hl ⊢
  have hl : lv_has ls 3 [(0, .ref (b + 0)), (1, .int (iI rg)), (2, .int (iI dy))] := hl
  refine lv_aload_n hx hb dX11_known_0 rfl (lv_at hl 0 rfl) ?_
  refine z_getr (j2 := 96) hx hb hts (z_memU u11) hown hK.1 hS f11_8 (by decide) (zkd_of (rfl : zcd wC 0 = 0) rfl) (zrf_of (rfl : zcd wC 0 = 0) rfl) (Or.inl (hts _ (z_mem k250))) dX11_known_1 ?_
  refine lv_iload_n hx hb dX11_known_4 rfl (lv_at hl 1 rfl) ?_
  refine lv_iload_n hx hb dX11_known_5 rfl (lv_at hl 2 rfl) ?_
  refine z_calli (va_runV (As := [.int (iI rg), .int (iI dy)]) (rest := []) ⟨hx, hb, hml, hown, hts⟩ (n_latest l D dA b M rg dy r_rg r_dy (by rw [g0])) (cwV 2 hts (z_gV k850 k851 k852 k13 k853) rfl rfl rfl dm_X10_latest ⟨Nat.le_of_ble_eq_true rfl, Nat.le_of_ble_eq_true rfl⟩) ⟨zP_blind, (z_recv hS hK.1 (by decide) (zkd_of (rfl : zcd wC 96 = 44) rfl) (by decide) (rfl : vwCl[10]? = some (RX10, TX10, 5))), z_pre hS hK⟩ rfl rfl hl.1 rfl (lv_room (Nat.le_of_ble_eq_true rfl)) dX11_known_6 ⟨Nat.le_refl _, Nat.le_refl _⟩) hS hS0 (zms_sub rfl) (fun z5 M1 H locs r6 h2 F3 hS hS0 => ?_)
  obtain ⟨h7, h2⟩ := h2
  rw [h7] at hS
  have h8 := h2
  obtain ⟨z5e, h8⟩ := h8
  subst z5e
  exact z_iret hx hb hr hlocks hS hS0 (by decide) (⟨rfl, by first | exact trivial | exact ⟨rfl, trivial⟩ | omega | (refine ⟨by omega, trivial⟩)⟩) dX11_known_9

set_option maxHeartbeats 4000000 in
set_option maxRecDepth 100000 in
theorem x_fetch (l : Launch) (D : va_G) (dA : Nat → ClassId) (b : Nat) (M : zM) (v : Int) (r_v : R32 v) (g0 : M 96 0 = 0) : Met l yX11_fetch (.code yX11_fetch cX11_fetch 3 (some .int) :: zt) (z_rm 1) (va_Pc [.ref (b + 0), .int (iI v)] (zP D dA vwCl (z_tys dA) wC nC b M)) (va_Qi (zQi wC (zms wC []) M (fun z M1 => M1 = M ∧ (z = -1 ∧ True))) (zB D dA vwCl wC nC b) (zA nC b)) 0 0 (zA nC b) := by
  refine Met.ofW (cc := cX11_fetch) (maxL := 3) (ret := (some .int)) (by decide) rfl ?_
  intro p e s m args below meth c s₁ B hml hv
  obtain ⟨hargs, hR0, hJ, hK⟩ := hv
  have hx := B.exec
  have hb := B.bytes
  have hr := B.returns
  have hts := atoms_spec (ws := .code yX11_fetch cX11_fetch 3 (some .int) :: zt) B.pre
  have hown : s.vm.findClass RX11 = some m.cls := findClass_of_methodNamed B.named
  have hlocks := B.notSynchronized
  have hS : zS D dA vwCl wC nC b (zms wC []) M M s.heap := ⟨hR0, hJ, zF_rf _ _⟩
  have hS0 : va_S (zA nC b) s.heap s.heap [] := va_S.rf
  have hl := lv_entry ([.ref (b + 0), .int (iI v)]) (n := 3) (Nat.le_of_ble_eq_true rfl)
  have hent : entryFrame m args 3 = F0 m 0 ((lg_sl ([.ref (b + 0), .int (iI v)]) ++ List.replicate (3 - (lg_sl ([.ref (b + 0), .int (iI v)])).length) Slot.unset).toArray) [] := by rw [hargs]; exact lg_entry_eq m ([.ref (b + 0), .int (iI v)]) 3
  rw [hent]
  generalize (lg_sl ([.ref (b + 0), .int (iI v)]) ++ List.replicate (3 - (lg_sl ([.ref (b + 0), .int (iI v)])).length) Slot.unset).toArray = ls at hl ⊢
  have hl : lv_has ls 3 [(0, .ref (b + 0)), (1, .int (iI v))] := hl
  refine lv_aload_n hx hb dX11_fetch_0 rfl (lv_at hl 0 rfl) ?_
  refine z_getr (j2 := 96) hx hb hts (z_memU u11) hown hK.1 hS f11_8 (by decide) (zkd_of (rfl : zcd wC 0 = 0) rfl) (zrf_of (rfl : zcd wC 0 = 0) rfl) (Or.inl (hts _ (z_mem k250))) dX11_fetch_1 ?_
  refine lv_iload_n hx hb dX11_fetch_4 rfl (lv_at hl 1 rfl) ?_
  refine z_callq (va_runV (As := [.int (iI v)]) (rest := []) ⟨hx, hb, hml, hown, hts⟩ (n_vfind l D dA b M v r_v (by rw [g0])) (cwV 1 hts (z_gV k858 k859 k860 k13 k861) rfl rfl rfl dm_X10_find ⟨Nat.le_of_ble_eq_true rfl, Nat.le_of_ble_eq_true rfl⟩) ⟨zP_blind, (z_recv hS hK.1 (by decide) (zkd_of (rfl : zcd wC 96 = 44) rfl) (by decide) (rfl : vwCl[10]? = some (RX10, TX10, 5))), z_pre hS hK⟩ rfl rfl hl.1 rfl (lv_room (Nat.le_of_ble_eq_true rfl)) dX11_fetch_5 ⟨Nat.le_refl _, Nat.le_refl _⟩) hS hS0 (zms_sub rfl) (fun z5 M1 H locs h2 F3 hS hS0 => ?_)
  obtain ⟨h6, h2⟩ := h2
  rw [h6] at hS
  have h7 := h2
  obtain ⟨z5e, h7⟩ := h7
  subst z5e
  show W _ _ _ _ _ _ _ _ _ _ _ _ _ _ _ (F0 m _ ls (.null :: []))
  refine lv_astore_nN (lv' := [(2, .null), (0, .ref (b + 0)), (1, .int (iI v))]) hx hb dX11_fetch_8 rfl hl (by decide) rfl (fun ls hl => ?_)
  refine lv_aload_nN hx hb dX11_fetch_9 rfl (lv_at hl 0 rfl) ?_
  refine lv_ifnonnullN hx hb dX11_fetch_10 ?_
  refine z_iconst hx hb dX11_fetch_13 ?_
  exact z_iret hx hb hr hlocks hS hS0 (by decide) (⟨rfl, by first | exact trivial | exact ⟨rfl, trivial⟩ | omega | (refine ⟨by omega, trivial⟩)⟩) dX11_fetch_14

set_option maxHeartbeats 4000000 in
set_option maxRecDepth 100000 in
theorem x_edits (l : Launch) (D : va_G) (dA : Nat → ClassId) (b : Nat) (M : zM) (v : Int) (u : Int) (r_v : R32 v) (r_u : R32 u) (g0 : M 96 0 = 0) : Met l yX11_edits (.code yX11_edits cX11_edits 5 (some .int) :: zt) (z_rm 1) (va_Pc [.ref (b + 0), .int (iI v), .int (iI u)] (zP D dA vwCl (z_tys dA) wC nC b M)) (va_Qi (zQi wC (zms wC []) M (fun z M1 => M1 = M ∧ (z = -1 ∧ True))) (zB D dA vwCl wC nC b) (zA nC b)) 0 0 (zA nC b) := by
  refine Met.ofW (cc := cX11_edits) (maxL := 5) (ret := (some .int)) (by decide) rfl ?_
  intro p e s m args below meth c s₁ B hml hv
  obtain ⟨hargs, hR0, hJ, hK⟩ := hv
  have hx := B.exec
  have hb := B.bytes
  have hr := B.returns
  have hts := atoms_spec (ws := .code yX11_edits cX11_edits 5 (some .int) :: zt) B.pre
  have hown : s.vm.findClass RX11 = some m.cls := findClass_of_methodNamed B.named
  have hlocks := B.notSynchronized
  have hS : zS D dA vwCl wC nC b (zms wC []) M M s.heap := ⟨hR0, hJ, zF_rf _ _⟩
  have hS0 : va_S (zA nC b) s.heap s.heap [] := va_S.rf
  have hl := lv_entry ([.ref (b + 0), .int (iI v), .int (iI u)]) (n := 5) (Nat.le_of_ble_eq_true rfl)
  have hent : entryFrame m args 5 = F0 m 0 ((lg_sl ([.ref (b + 0), .int (iI v), .int (iI u)]) ++ List.replicate (5 - (lg_sl ([.ref (b + 0), .int (iI v), .int (iI u)])).length) Slot.unset).toArray) [] := by rw [hargs]; exact lg_entry_eq m ([.ref (b + 0), .int (iI v), .int (iI u)]) 5
  rw [hent]
  generalize (lg_sl ([.ref (b + 0), .int (iI v), .int (iI u)]) ++ List.replicate (5 - (lg_sl ([.ref (b + 0), .int (iI v), .int (iI u)])).length) Slot.unset).toArray = ls at hl ⊢
  have hl : lv_has ls 5 [(0, .ref (b + 0)), (1, .int (iI v)), (2, .int (iI u))] := hl
  refine lv_aload_n hx hb dX11_edits_0 rfl (lv_at hl 0 rfl) ?_
  refine z_getr (j2 := 96) hx hb hts (z_memU u11) hown hK.1 hS f11_8 (by decide) (zkd_of (rfl : zcd wC 0 = 0) rfl) (zrf_of (rfl : zcd wC 0 = 0) rfl) (Or.inl (hts _ (z_mem k250))) dX11_edits_1 ?_
  refine lv_iload_n hx hb dX11_edits_4 rfl (lv_at hl 1 rfl) ?_
  refine z_callq (va_runV (As := [.int (iI v)]) (rest := []) ⟨hx, hb, hml, hown, hts⟩ (n_vfind l D dA b M v r_v (by rw [g0])) (cwV 1 hts (z_gV k858 k859 k860 k13 k861) rfl rfl rfl dm_X10_find ⟨Nat.le_of_ble_eq_true rfl, Nat.le_of_ble_eq_true rfl⟩) ⟨zP_blind, (z_recv hS hK.1 (by decide) (zkd_of (rfl : zcd wC 96 = 44) rfl) (by decide) (rfl : vwCl[10]? = some (RX10, TX10, 5))), z_pre hS hK⟩ rfl rfl hl.1 rfl (lv_room (Nat.le_of_ble_eq_true rfl)) dX11_edits_5 ⟨Nat.le_refl _, Nat.le_refl _⟩) hS hS0 (zms_sub rfl) (fun z5 M1 H locs h2 F3 hS hS0 => ?_)
  obtain ⟨h6, h2⟩ := h2
  rw [h6] at hS
  have h7 := h2
  obtain ⟨z5e, h7⟩ := h7
  subst z5e
  show W _ _ _ _ _ _ _ _ _ _ _ _ _ _ _ (F0 m _ ls (.null :: []))
  refine lv_astore_nN (lv' := [(3, .null), (0, .ref (b + 0)), (1, .int (iI v)), (2, .int (iI u))]) hx hb dX11_edits_8 rfl hl (by decide) rfl (fun ls hl => ?_)
  refine lv_aload_n hx hb dX11_edits_9 rfl (lv_at hl 1 rfl) ?_
  refine z_getr (j2 := 96) hx hb hts (z_memU u11) hown hK.1 hS f11_8 (by decide) (zkd_of (rfl : zcd wC 0 = 0) rfl) (zrf_of (rfl : zcd wC 0 = 0) rfl) (Or.inl (hts _ (z_mem k250))) dX11_edits_10 ?_
  refine lv_iload_n hx hb dX11_edits_13 rfl (lv_at hl 3 rfl) ?_
  refine z_callq (va_runV (As := [.int (iI u)]) (rest := []) ⟨hx, hb, hml, hown, hts⟩ (n_vfind l D dA b M u r_u (by rw [g0])) (cwV 1 hts (z_gV k858 k859 k860 k13 k861) rfl rfl rfl dm_X10_find ⟨Nat.le_of_ble_eq_true rfl, Nat.le_of_ble_eq_true rfl⟩) ⟨zP_blind, (z_recv hS hK.1 (by decide) (zkd_of (rfl : zcd wC 96 = 44) rfl) (by decide) (rfl : vwCl[10]? = some (RX10, TX10, 5))), z_pre hS hK⟩ rfl rfl hl.1 rfl (lv_room (Nat.le_of_ble_eq_true rfl)) dX11_edits_14 ⟨Nat.le_refl _, Nat.le_refl _⟩) hS hS0 (zms_sub rfl) (fun z12 M8 H locs h9 F10 hS hS0 => ?_)
  obtain ⟨h13, h9⟩ := h9
  rw [h13] at hS
  have h14 := h9
  obtain ⟨z12e, h14⟩ := h14
  subst z12e
  show W _ _ _ _ _ _ _ _ _ _ _ _ _ _ _ (F0 m _ ls (.null :: []))
  refine lv_astoreN (lv' := [(4, .null), (3, .null), (0, .ref (b + 0)), (1, .int (iI v)), (2, .int (iI u))]) hx hb dX11_edits_17 hl (by decide) rfl (fun ls hl => ?_)
  refine lv_aload_nN hx hb dX11_edits_19 rfl (lv_at hl 1 rfl) ?_
  refine lv_ifnullN (tgt := 28) hx hb dX11_edits_20 (by decide) ?_
  refine z_iconst hx hb dX11_edits_28 ?_
  refine lv_goto (tgt := 42) hx hb dX11_edits_29 (by decide) ?_
  exact z_iret hx hb hr hlocks hS hS0 (by decide) (⟨rfl, by first | exact trivial | exact ⟨rfl, trivial⟩ | omega | (refine ⟨by omega, trivial⟩)⟩) dX11_edits_42
