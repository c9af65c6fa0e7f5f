theorem dX12_allRounds_0 : decode cX12_allRounds 0 = .ok (.lconst 1, 1) := by decide +kernel
theorem dX12_allRounds_1 : decode cX12_allRounds 1 = .ok (.lstore_n 1, 1) := by decide +kernel
theorem dX12_allRounds_2 : decode cX12_allRounds 2 = .ok (.iconst 0, 1) := by decide +kernel
theorem dX12_allRounds_3 : decode cX12_allRounds 3 = .ok (.istore_n 3, 1) := by decide +kernel
theorem dX12_allRounds_4 : decode cX12_allRounds 4 = .ok (.iload_n 3, 1) := by decide +kernel
theorem dX12_allRounds_44 : decode cX12_allRounds 44 = .ok (.lload_n 1, 1) := by decide +kernel
theorem dX12_allRounds_45 : decode cX12_allRounds 45 = .ok (.lreturn, 1) := by decide +kernel
theorem dX12_allRounds_5 : decode cX12_allRounds 5 = .ok (.aload_n 0, 1) := by decide +kernel
theorem dX12_allRounds_6 : decode cX12_allRounds 6 = .ok (.getfield 121, 3) := by decide +kernel
theorem dX12_allRounds_9 : decode cX12_allRounds 9 = .ok (.if_icmp .ge 35, 3) := by decide +kernel
theorem dX12_all_0 : decode cX12_all 0 = .ok (.aload_n 0, 1) := by decide +kernel
theorem dX12_all_1 : decode cX12_all 1 = .ok (.iconst 0, 1) := by decide +kernel
theorem dX12_all_2 : decode cX12_all 2 = .ok (.putfield 118, 3) := by decide +kernel
theorem dX12_all_5 : decode cX12_all 5 = .ok (.aload_n 0, 1) := by decide +kernel
theorem dX12_all_6 : decode cX12_all 6 = .ok (.invokevirtual 233, 3) := by decide +kernel
theorem dX12_all_9 : decode cX12_all 9 = .ok (.lreturn, 1) := by decide +kernel
theorem dX12_areSounds_0 : decode cX12_areSounds 0 = .ok (.iload_n 0, 1) := by decide +kernel
theorem dX12_areSounds_1 : decode cX12_areSounds 1 = .ok (.sipush (-1023), 3) := by decide +kernel
theorem dX12_areSounds_12 : decode cX12_areSounds 12 = .ok (.iconst 0, 1) := by decide +kernel
theorem dX12_areSounds_13 : decode cX12_areSounds 13 = .ok (.ireturn, 1) := by decide +kernel
theorem dX12_areSounds_4 : decode cX12_areSounds 4 = .ok (.iand, 1) := by decide +kernel
theorem dX12_areSounds_5 : decode cX12_areSounds 5 = .ok (.ifCond .ne 7, 3) := by decide +kernel
theorem dX12_areSounds_8 : decode cX12_areSounds 8 = .ok (.iconst 1, 1) := by decide +kernel
theorem dX12_areSounds_9 : decode cX12_areSounds 9 = .ok (.goto 4, 3) := by decide +kernel
theorem dX12_burn_0 : decode cX12_burn 0 = .ok (.aload_n 0, 1) := by decide +kernel
theorem dX12_burn_1 : decode cX12_burn 1 = .ok (.iconst 0, 1) := by decide +kernel
theorem dX12_burn_10 : decode cX12_burn 10 = .ok (.aload_n 0, 1) := by decide +kernel
theorem dX12_burn_11 : decode cX12_burn 11 = .ok (.iconst 0, 1) := by decide +kernel
theorem dX12_burn_12 : decode cX12_burn 12 = .ok (.putfield 182, 3) := by decide +kernel
theorem dX12_burn_15 : decode cX12_burn 15 = .ok (.iload_n 1, 1) := by decide +kernel
theorem dX12_burn_16 : decode cX12_burn 16 = .ok (.ireturn, 1) := by decide +kernel
theorem dX12_burn_2 : decode cX12_burn 2 = .ok (.putfield 118, 3) := by decide +kernel
theorem dX12_burn_5 : decode cX12_burn 5 = .ok (.aload_n 0, 1) := by decide +kernel
theorem dX12_burn_6 : decode cX12_burn 6 = .ok (.getfield 182, 3) := by decide +kernel
theorem dX12_burn_9 : decode cX12_burn 9 = .ok (.istore_n 1, 1) := by decide +kernel
theorem dX12_clear_0 : decode cX12_clear 0 = .ok (.aload_n 0, 1) := by decide +kernel
theorem dX12_clear_1 : decode cX12_clear 1 = .ok (.iconst 0, 1) := by decide +kernel
theorem dX12_clear_10 : decode cX12_clear 10 = .ok (.aload_n 0, 1) := by decide +kernel
theorem dX12_clear_11 : decode cX12_clear 11 = .ok (.iconst 0, 1) := by decide +kernel
theorem dX12_clear_12 : decode cX12_clear 12 = .ok (.putfield 121, 3) := by decide +kernel
theorem dX12_clear_15 : decode cX12_clear 15 = .ok (.aload_n 0, 1) := by decide +kernel
theorem dX12_clear_16 : decode cX12_clear 16 = .ok (.iconst 0, 1) := by decide +kernel
theorem dX12_clear_17 : decode cX12_clear 17 = .ok (.putfield 176, 3) := by decide +kernel
theorem dX12_clear_2 : decode cX12_clear 2 = .ok (.putfield 118, 3) := by decide +kernel
theorem dX12_clear_20 : decode cX12_clear 20 = .ok (.iconst 0, 1) := by decide +kernel
theorem dX12_clear_21 : decode cX12_clear 21 = .ok (.istore_n 2, 1) := by decide +kernel
theorem dX12_clear_22 : decode cX12_clear 22 = .ok (.iload_n 2, 1) := by decide +kernel
theorem dX12_clear_23 : decode cX12_clear 23 = .ok (.iconst 2, 1) := by decide +kernel
theorem dX12_clear_24 : decode cX12_clear 24 = .ok (.if_icmp .ge 16, 3) := by decide +kernel
theorem dX12_clear_27 : decode cX12_clear 27 = .ok (.aload_n 0, 1) := by decide +kernel
theorem dX12_clear_28 : decode cX12_clear 28 = .ok (.getfield 41, 3) := by decide +kernel
theorem dX12_clear_31 : decode cX12_clear 31 = .ok (.iload_n 2, 1) := by decide +kernel
theorem dX12_clear_32 : decode cX12_clear 32 = .ok (.iconst 0, 1) := by decide +kernel
theorem dX12_clear_33 : decode cX12_clear 33 = .ok (.iastore, 1) := by decide +kernel
theorem dX12_clear_34 : decode cX12_clear 34 = .ok (.iinc 2 1, 3) := by decide +kernel
theorem dX12_clear_37 : decode cX12_clear 37 = .ok (.goto (-15), 3) := by decide +kernel
theorem dX12_clear_40 : decode cX12_clear 40 = .ok (.iload_n 1, 1) := by decide +kernel
theorem dX12_clear_41 : decode cX12_clear 41 = .ok (.ireturn, 1) := by decide +kernel
theorem dX12_clear_5 : decode cX12_clear 5 = .ok (.aload_n 0, 1) := by decide +kernel
theorem dX12_clear_6 : decode cX12_clear 6 = .ok (.getfield 121, 3) := by decide +kernel
theorem dX12_clear_9 : decode cX12_clear 9 = .ok (.istore_n 1, 1) := by decide +kernel
theorem dX12_count_0 : decode cX12_count 0 = .ok (.aload_n 0, 1) := by decide +kernel
theorem dX12_count_1 : decode cX12_count 1 = .ok (.iconst 0, 1) := by decide +kernel
theorem dX12_count_2 : decode cX12_count 2 = .ok (.putfield 118, 3) := by decide +kernel
theorem dX12_count_5 : decode cX12_count 5 = .ok (.iload_n 1, 1) := by decide +kernel
theorem dX12_count_52 : decode cX12_count 52 = .ok (.aload_n 0, 1) := by decide +kernel
theorem dX12_count_53 : decode cX12_count 53 = .ok (.getfield 121, 3) := by decide +kernel
theorem dX12_count_56 : decode cX12_count 56 = .ok (.ireturn, 1) := by decide +kernel
theorem dX12_count_57 : decode cX12_count 57 = .ok (.aload_n 0, 1) := by decide +kernel
theorem dX12_count_58 : decode cX12_count 58 = .ok (.getfield 176, 3) := by decide +kernel
theorem dX12_count_6 : decode cX12_count 6 = .ok (.tableswitch 86 0 7 #[46, 51, 56, 61, 66, 71, 76, 81], 46) := by decide +kernel
theorem dX12_count_61 : decode cX12_count 61 = .ok (.ireturn, 1) := by decide +kernel
theorem dX12_count_62 : decode cX12_count 62 = .ok (.aload_n 0, 1) := by decide +kernel
theorem dX12_count_63 : decode cX12_count 63 = .ok (.getfield 179, 3) := by decide +kernel
theorem dX12_count_66 : decode cX12_count 66 = .ok (.ireturn, 1) := by decide +kernel
theorem dX12_count_67 : decode cX12_count 67 = .ok (.aload_n 0, 1) := by decide +kernel
theorem dX12_count_68 : decode cX12_count 68 = .ok (.getfield 182, 3) := by decide +kernel
theorem dX12_count_71 : decode cX12_count 71 = .ok (.ireturn, 1) := by decide +kernel
theorem dX12_count_72 : decode cX12_count 72 = .ok (.aload_n 0, 1) := by decide +kernel
theorem dX12_count_73 : decode cX12_count 73 = .ok (.getfield 185, 3) := by decide +kernel
theorem dX12_count_76 : decode cX12_count 76 = .ok (.ireturn, 1) := by decide +kernel
theorem dX12_count_77 : decode cX12_count 77 = .ok (.aload_n 0, 1) := by decide +kernel
theorem dX12_count_78 : decode cX12_count 78 = .ok (.getfield 188, 3) := by decide +kernel
theorem dX12_count_81 : decode cX12_count 81 = .ok (.ireturn, 1) := by decide +kernel
theorem dX12_count_82 : decode cX12_count 82 = .ok (.aload_n 0, 1) := by decide +kernel
theorem dX12_count_83 : decode cX12_count 83 = .ok (.getfield 128, 3) := by decide +kernel
theorem dX12_count_86 : decode cX12_count 86 = .ok (.ireturn, 1) := by decide +kernel
theorem dX12_count_87 : decode cX12_count 87 = .ok (.aload_n 0, 1) := by decide +kernel
theorem dX12_count_88 : decode cX12_count 88 = .ok (.getfield 162, 3) := by decide +kernel
theorem dX12_count_91 : decode cX12_count 91 = .ok (.ireturn, 1) := by decide +kernel
theorem dX12_count_92 : decode cX12_count 92 = .ok (.iconst (-1), 1) := by decide +kernel
theorem dX12_count_93 : decode cX12_count 93 = .ok (.ireturn, 1) := by decide +kernel
theorem dX12_cut_0 : decode cX12_cut 0 = .ok (.aload_n 0, 1) := by decide +kernel
theorem dX12_cut_1 : decode cX12_cut 1 = .ok (.iconst 0, 1) := by decide +kernel
theorem dX12_cut_10 : decode cX12_cut 10 = .ok (.ifCond .eq 19, 3) := by decide +kernel
theorem dX12_cut_2 : decode cX12_cut 2 = .ok (.putfield 118, 3) := by decide +kernel
theorem dX12_cut_29 : decode cX12_cut 29 = .ok (.iconst (-1), 1) := by decide +kernel
theorem dX12_cut_30 : decode cX12_cut 30 = .ok (.ireturn, 1) := by decide +kernel
theorem dX12_cut_5 : decode cX12_cut 5 = .ok (.aload_n 0, 1) := by decide +kernel
theorem dX12_cut_6 : decode cX12_cut 6 = .ok (.iload_n 1, 1) := by decide +kernel
theorem dX12_cut_7 : decode cX12_cut 7 = .ok (.invokevirtual 168, 3) := by decide +kernel
theorem dX12_dies_0 : decode cX12_dies 0 = .ok (.aload_n 0, 1) := by decide +kernel
theorem dX12_dies_1 : decode cX12_dies 1 = .ok (.iconst 0, 1) := by decide +kernel
theorem dX12_dies_12 : decode cX12_dies 12 = .ok (.iconst 0, 1) := by decide +kernel
theorem dX12_dies_13 : decode cX12_dies 13 = .ok (.istore_n 1, 1) := by decide +kernel
theorem dX12_dies_14 : decode cX12_dies 14 = .ok (.aload_n 0, 1) := by decide +kernel
theorem dX12_dies_15 : decode cX12_dies 15 = .ok (.getfield 283, 3) := by decide +kernel
theorem dX12_dies_18 : decode cX12_dies 18 = .ok (.istore_n 2, 1) := by decide +kernel
theorem dX12_dies_19 : decode cX12_dies 19 = .ok (.iload_n 2, 1) := by decide +kernel
theorem dX12_dies_2 : decode cX12_dies 2 = .ok (.putfield 118, 3) := by decide +kernel
theorem dX12_dies_20 : decode cX12_dies 20 = .ok (.sipush 4000, 3) := by decide +kernel
theorem dX12_dies_23 : decode cX12_dies 23 = .ok (.if_icmp .gt 39, 3) := by decide +kernel
theorem dX12_dies_26 : decode cX12_dies 26 = .ok (.aload_n 0, 1) := by decide +kernel
theorem dX12_dies_27 : decode cX12_dies 27 = .ok (.getfield 106, 3) := by decide +kernel
theorem dX12_dies_30 : decode cX12_dies 30 = .ok (.iload_n 2, 1) := by decide +kernel
theorem dX12_dies_31 : decode cX12_dies 31 = .ok (.iaload, 1) := by decide +kernel
theorem dX12_dies_32 : decode cX12_dies 32 = .ok (.ifCond .ne 9, 3) := by decide +kernel
theorem dX12_dies_35 : decode cX12_dies 35 = .ok (.iload_n 1, 1) := by decide +kernel
theorem dX12_dies_36 : decode cX12_dies 36 = .ok (.iconst 1, 1) := by decide +kernel
theorem dX12_dies_37 : decode cX12_dies 37 = .ok (.iadd, 1) := by decide +kernel
theorem dX12_dies_38 : decode cX12_dies 38 = .ok (.goto 4, 3) := by decide +kernel
theorem dX12_dies_42 : decode cX12_dies 42 = .ok (.istore_n 1, 1) := by decide +kernel
theorem dX12_dies_43 : decode cX12_dies 43 = .ok (.iload_n 1, 1) := by decide +kernel
theorem dX12_dies_44 : decode cX12_dies 44 = .ok (.bipush 20, 2) := by decide +kernel
theorem dX12_dies_46 : decode cX12_dies 46 = .ok (.if_icmp .ne 10, 3) := by decide +kernel
theorem dX12_dies_49 : decode cX12_dies 49 = .ok (.iload_n 2, 1) := by decide +kernel
theorem dX12_dies_5 : decode cX12_dies 5 = .ok (.aload_n 0, 1) := by decide +kernel
theorem dX12_dies_50 : decode cX12_dies 50 = .ok (.bipush 20, 2) := by decide +kernel
theorem dX12_dies_52 : decode cX12_dies 52 = .ok (.isub, 1) := by decide +kernel
theorem dX12_dies_53 : decode cX12_dies 53 = .ok (.iconst 1, 1) := by decide +kernel
theorem dX12_dies_54 : decode cX12_dies 54 = .ok (.iadd, 1) := by decide +kernel
theorem dX12_dies_55 : decode cX12_dies 55 = .ok (.ireturn, 1) := by decide +kernel
theorem dX12_dies_56 : decode cX12_dies 56 = .ok (.iinc 2 1, 3) := by decide +kernel
theorem dX12_dies_59 : decode cX12_dies 59 = .ok (.goto (-40), 3) := by decide +kernel
theorem dX12_dies_6 : decode cX12_dies 6 = .ok (.sipush 4000, 3) := by decide +kernel
theorem dX12_dies_9 : decode cX12_dies 9 = .ok (.invokevirtual 286, 3) := by decide +kernel
theorem dX12_edits_0 : decode cX12_edits 0 = .ok (.aload_n 0, 1) := by decide +kernel
theorem dX12_edits_1 : decode cX12_edits 1 = .ok (.iconst 0, 1) := by decide +kernel
theorem dX12_edits_11 : decode cX12_edits 11 = .ok (.iconst 1, 1) := by decide +kernel
theorem dX12_edits_12 : decode cX12_edits 12 = .ok (.isub, 1) := by decide +kernel
theorem dX12_edits_13 : decode cX12_edits 13 = .ok (.invokestatic 124, 3) := by decide +kernel
theorem dX12_edits_16 : decode cX12_edits 16 = .ok (.ifCond .eq 17, 3) := by decide +kernel
theorem dX12_edits_2 : decode cX12_edits 2 = .ok (.putfield 118, 3) := by decide +kernel
theorem dX12_edits_33 : decode cX12_edits 33 = .ok (.iconst (-1), 1) := by decide +kernel
theorem dX12_edits_34 : decode cX12_edits 34 = .ok (.ireturn, 1) := by decide +kernel
theorem dX12_edits_5 : decode cX12_edits 5 = .ok (.iload_n 1, 1) := by decide +kernel
theorem dX12_edits_6 : decode cX12_edits 6 = .ok (.iconst 0, 1) := by decide +kernel
theorem dX12_edits_7 : decode cX12_edits 7 = .ok (.aload_n 0, 1) := by decide +kernel
theorem dX12_edits_8 : decode cX12_edits 8 = .ok (.getfield 185, 3) := by decide +kernel
theorem dX12_end_0 : decode cX12_end 0 = .ok (.aload_n 0, 1) := by decide +kernel
theorem dX12_end_1 : decode cX12_end 1 = .ok (.iconst 0, 1) := by decide +kernel
theorem dX12_end_10 : decode cX12_end 10 = .ok (.aload_n 0, 1) := by decide +kernel
theorem dX12_end_11 : decode cX12_end 11 = .ok (.getfield 128, 3) := by decide +kernel
theorem dX12_end_14 : decode cX12_end 14 = .ok (.if_icmp .le 5, 3) := by decide +kernel
theorem dX12_end_17 : decode cX12_end 17 = .ok (.iconst 0, 1) := by decide +kernel
theorem dX12_end_18 : decode cX12_end 18 = .ok (.ireturn, 1) := by decide +kernel
theorem dX12_end_19 : decode cX12_end 19 = .ok (.aload_n 0, 1) := by decide +kernel
theorem dX12_end_2 : decode cX12_end 2 = .ok (.putfield 118, 3) := by decide +kernel
theorem dX12_end_20 : decode cX12_end 20 = .ok (.iload_n 1, 1) := by decide +kernel
theorem dX12_end_21 : decode cX12_end 21 = .ok (.putfield 128, 3) := by decide +kernel
theorem dX12_end_24 : decode cX12_end 24 = .ok (.iconst 1, 1) := by decide +kernel
theorem dX12_end_25 : decode cX12_end 25 = .ok (.ireturn, 1) := by decide +kernel
theorem dX12_end_5 : decode cX12_end 5 = .ok (.iload_n 1, 1) := by decide +kernel
theorem dX12_end_6 : decode cX12_end 6 = .ok (.ifCond .lt 11, 3) := by decide +kernel
theorem dX12_end_9 : decode cX12_end 9 = .ok (.iload_n 1, 1) := by decide +kernel
theorem dX12_fetch_0 : decode cX12_fetch 0 = .ok (.aload_n 0, 1) := by decide +kernel
theorem dX12_fetch_1 : decode cX12_fetch 1 = .ok (.iconst 0, 1) := by decide +kernel
theorem dX12_fetch_11 : decode cX12_fetch 11 = .ok (.iconst 1, 1) := by decide +kernel
theorem dX12_fetch_12 : decode cX12_fetch 12 = .ok (.isub, 1) := by decide +kernel
theorem dX12_fetch_13 : decode cX12_fetch 13 = .ok (.invokestatic 124, 3) := by decide +kernel
theorem dX12_fetch_16 : decode cX12_fetch 16 = .ok (.ifCond .ne 5, 3) := by decide +kernel
theorem dX12_fetch_19 : decode cX12_fetch 19 = .ok (.iconst (-1), 1) := by decide +kernel
theorem dX12_fetch_2 : decode cX12_fetch 2 = .ok (.putfield 118, 3) := by decide +kernel
theorem dX12_fetch_20 : decode cX12_fetch 20 = .ok (.ireturn, 1) := by decide +kernel
theorem dX12_fetch_5 : decode cX12_fetch 5 = .ok (.iload_n 1, 1) := by decide +kernel
theorem dX12_fetch_6 : decode cX12_fetch 6 = .ok (.iconst 0, 1) := by decide +kernel
theorem dX12_fetch_7 : decode cX12_fetch 7 = .ok (.aload_n 0, 1) := by decide +kernel
theorem dX12_fetch_8 : decode cX12_fetch 8 = .ok (.getfield 185, 3) := by decide +kernel
theorem dX12_findHeard_0 : decode cX12_findHeard 0 = .ok (.iconst 0, 1) := by decide +kernel
theorem dX12_findHeard_1 : decode cX12_findHeard 1 = .ok (.istore_n 3, 1) := by decide +kernel
theorem dX12_findHeard_2 : decode cX12_findHeard 2 = .ok (.iload_n 3, 1) := by decide +kernel
theorem dX12_findHeard_3 : decode cX12_findHeard 3 = .ok (.aload_n 0, 1) := by decide +kernel
theorem dX12_findHeard_4 : decode cX12_findHeard 4 = .ok (.getfield 121, 3) := by decide +kernel
theorem dX12_findHeard_7 : decode cX12_findHeard 7 = .ok (.if_icmp .ge 71, 3) := by decide +kernel
theorem dX12_findHeard_78 : decode cX12_findHeard 78 = .ok (.return_, 1) := by decide +kernel
theorem dX12_findOuts_0 : decode cX12_findOuts 0 = .ok (.iconst 0, 1) := by decide +kernel
theorem dX12_findOuts_1 : decode cX12_findOuts 1 = .ok (.istore_n 2, 1) := by decide +kernel
theorem dX12_findOuts_10 : decode cX12_findOuts 10 = .ok (.aload_n 0, 1) := by decide +kernel
theorem dX12_findOuts_100 : decode cX12_findOuts 100 = .ok (.iload_n 3, 1) := by decide +kernel
theorem dX12_findOuts_101 : decode cX12_findOuts 101 = .ok (.aload_n 0, 1) := by decide +kernel
theorem dX12_findOuts_102 : decode cX12_findOuts 102 = .ok (.getfield 280, 3) := by decide +kernel
theorem dX12_findOuts_105 : decode cX12_findOuts 105 = .ok (.aload_n 0, 1) := by decide +kernel
theorem dX12_findOuts_106 : decode cX12_findOuts 106 = .ok (.getfield 106, 3) := by decide +kernel
theorem dX12_findOuts_109 : decode cX12_findOuts 109 = .ok (.iload_n 2, 1) := by decide +kernel
theorem dX12_findOuts_11 : decode cX12_findOuts 11 = .ok (.getfield 283, 3) := by decide +kernel
theorem dX12_findOuts_110 : decode cX12_findOuts 110 = .ok (.aload_n 0, 1) := by decide +kernel
theorem dX12_findOuts_111 : decode cX12_findOuts 111 = .ok (.getfield 57, 3) := by decide +kernel
theorem dX12_findOuts_114 : decode cX12_findOuts 114 = .ok (.isub, 1) := by decide +kernel
theorem dX12_findOuts_115 : decode cX12_findOuts 115 = .ok (.iaload, 1) := by decide +kernel
theorem dX12_findOuts_116 : decode cX12_findOuts 116 = .ok (.imul, 1) := by decide +kernel
theorem dX12_findOuts_117 : decode cX12_findOuts 117 = .ok (.bipush 100, 2) := by decide +kernel
theorem dX12_findOuts_119 : decode cX12_findOuts 119 = .ok (.idiv, 1) := by decide +kernel
theorem dX12_findOuts_120 : decode cX12_findOuts 120 = .ok (.iadd, 1) := by decide +kernel
theorem dX12_findOuts_121 : decode cX12_findOuts 121 = .ok (.istore_n 3, 1) := by decide +kernel
theorem dX12_findOuts_122 : decode cX12_findOuts 122 = .ok (.aload_n 0, 1) := by decide +kernel
theorem dX12_findOuts_123 : decode cX12_findOuts 123 = .ok (.getfield 106, 3) := by decide +kernel
theorem dX12_findOuts_126 : decode cX12_findOuts 126 = .ok (.iload_n 2, 1) := by decide +kernel
theorem dX12_findOuts_127 : decode cX12_findOuts 127 = .ok (.iload_n 3, 1) := by decide +kernel
theorem dX12_findOuts_128 : decode cX12_findOuts 128 = .ok (.sipush 5000, 3) := by decide +kernel
theorem dX12_findOuts_131 : decode cX12_findOuts 131 = .ok (.invokestatic 271, 3) := by decide +kernel
theorem dX12_findOuts_134 : decode cX12_findOuts 134 = .ok (.iastore, 1) := by decide +kernel
theorem dX12_findOuts_135 : decode cX12_findOuts 135 = .ok (.iinc 2 1, 3) := by decide +kernel
theorem dX12_findOuts_138 : decode cX12_findOuts 138 = .ok (.goto (-136), 3) := by decide +kernel
theorem dX12_findOuts_14 : decode cX12_findOuts 14 = .ok (.if_icmp .ge 48, 3) := by decide +kernel
theorem dX12_findOuts_141 : decode cX12_findOuts 141 = .ok (.return_, 1) := by decide +kernel
theorem dX12_findOuts_2 : decode cX12_findOuts 2 = .ok (.iload_n 2, 1) := by decide +kernel
theorem dX12_findOuts_3 : decode cX12_findOuts 3 = .ok (.iload_n 1, 1) := by decide +kernel
theorem dX12_findOuts_4 : decode cX12_findOuts 4 = .ok (.if_icmp .gt 137, 3) := by decide +kernel
theorem dX12_findOuts_62 : decode cX12_findOuts 62 = .ok (.iload_n 2, 1) := by decide +kernel
theorem dX12_findOuts_63 : decode cX12_findOuts 63 = .ok (.aload_n 0, 1) := by decide +kernel
theorem dX12_findOuts_64 : decode cX12_findOuts 64 = .ok (.getfield 53, 3) := by decide +kernel
theorem dX12_findOuts_67 : decode cX12_findOuts 67 = .ok (.if_icmp .lt 25, 3) := by decide +kernel
theorem dX12_findOuts_7 : decode cX12_findOuts 7 = .ok (.iconst 0, 1) := by decide +kernel
theorem dX12_findOuts_70 : decode cX12_findOuts 70 = .ok (.iload_n 3, 1) := by decide +kernel
theorem dX12_findOuts_71 : decode cX12_findOuts 71 = .ok (.aload_n 0, 1) := by decide +kernel
theorem dX12_findOuts_72 : decode cX12_findOuts 72 = .ok (.getfield 277, 3) := by decide +kernel
theorem dX12_findOuts_75 : decode cX12_findOuts 75 = .ok (.aload_n 0, 1) := by decide +kernel
theorem dX12_findOuts_76 : decode cX12_findOuts 76 = .ok (.getfield 106, 3) := by decide +kernel
theorem dX12_findOuts_79 : decode cX12_findOuts 79 = .ok (.iload_n 2, 1) := by decide +kernel
theorem dX12_findOuts_8 : decode cX12_findOuts 8 = .ok (.istore_n 3, 1) := by decide +kernel
theorem dX12_findOuts_80 : decode cX12_findOuts 80 = .ok (.aload_n 0, 1) := by decide +kernel
theorem dX12_findOuts_81 : decode cX12_findOuts 81 = .ok (.getfield 53, 3) := by decide +kernel
theorem dX12_findOuts_84 : decode cX12_findOuts 84 = .ok (.isub, 1) := by decide +kernel
theorem dX12_findOuts_85 : decode cX12_findOuts 85 = .ok (.iaload, 1) := by decide +kernel
theorem dX12_findOuts_86 : decode cX12_findOuts 86 = .ok (.imul, 1) := by decide +kernel
theorem dX12_findOuts_87 : decode cX12_findOuts 87 = .ok (.bipush 100, 2) := by decide +kernel
theorem dX12_findOuts_89 : decode cX12_findOuts 89 = .ok (.idiv, 1) := by decide +kernel
theorem dX12_findOuts_9 : decode cX12_findOuts 9 = .ok (.iload_n 2, 1) := by decide +kernel
theorem dX12_findOuts_90 : decode cX12_findOuts 90 = .ok (.iadd, 1) := by decide +kernel
theorem dX12_findOuts_91 : decode cX12_findOuts 91 = .ok (.istore_n 3, 1) := by decide +kernel
theorem dX12_findOuts_92 : decode cX12_findOuts 92 = .ok (.iload_n 2, 1) := by decide +kernel
theorem dX12_findOuts_93 : decode cX12_findOuts 93 = .ok (.aload_n 0, 1) := by decide +kernel
theorem dX12_findOuts_94 : decode cX12_findOuts 94 = .ok (.getfield 57, 3) := by decide +kernel
theorem dX12_findOuts_97 : decode cX12_findOuts 97 = .ok (.if_icmp .lt 25, 3) := by decide +kernel
theorem dX12_findPlan_0 : decode cX12_findPlan 0 = .ok (.iconst 1, 1) := by decide +kernel
theorem dX12_findPlan_1 : decode cX12_findPlan 1 = .ok (.aload_n 0, 1) := by decide +kernel
theorem dX12_findPlan_10 : decode cX12_findPlan 10 = .ok (.iload_n 1, 1) := by decide +kernel
theorem dX12_findPlan_11 : decode cX12_findPlan 11 = .ok (.if_icmp .ge 34, 3) := by decide +kernel
theorem dX12_findPlan_14 : decode cX12_findPlan 14 = .ok (.aload_n 0, 1) := by decide +kernel
theorem dX12_findPlan_15 : decode cX12_findPlan 15 = .ok (.getfield 100, 3) := by decide +kernel
theorem dX12_findPlan_18 : decode cX12_findPlan 18 = .ok (.bipush 64, 2) := by decide +kernel
theorem dX12_findPlan_2 : decode cX12_findPlan 2 = .ok (.getfield 176, 3) := by decide +kernel
theorem dX12_findPlan_20 : decode cX12_findPlan 20 = .ok (.aload_n 0, 1) := by decide +kernel
theorem dX12_findPlan_21 : decode cX12_findPlan 21 = .ok (.getfield 121, 3) := by decide +kernel
theorem dX12_findPlan_232 : decode cX12_findPlan 232 = .ok (.aload_n 0, 1) := by decide +kernel
theorem dX12_findPlan_233 : decode cX12_findPlan 233 = .ok (.getfield 100, 3) := by decide +kernel
theorem dX12_findPlan_236 : decode cX12_findPlan 236 = .ok (.iload_n 1, 1) := by decide +kernel
theorem dX12_findPlan_237 : decode cX12_findPlan 237 = .ok (.iconst 1, 1) := by decide +kernel
theorem dX12_findPlan_238 : decode cX12_findPlan 238 = .ok (.isub, 1) := by decide +kernel
theorem dX12_findPlan_239 : decode cX12_findPlan 239 = .ok (.iaload, 1) := by decide +kernel
theorem dX12_findPlan_24 : decode cX12_findPlan 24 = .ok (.imul, 1) := by decide +kernel
theorem dX12_findPlan_240 : decode cX12_findPlan 240 = .ok (.istore_n 2, 1) := by decide +kernel
theorem dX12_findPlan_241 : decode cX12_findPlan 241 = .ok (.iload_n 2, 1) := by decide +kernel
theorem dX12_findPlan_242 : decode cX12_findPlan 242 = .ok (.ldc_w 267, 3) := by decide +kernel
theorem dX12_findPlan_245 : decode cX12_findPlan 245 = .ok (.if_icmp .lt 5, 3) := by decide +kernel
theorem dX12_findPlan_25 : decode cX12_findPlan 25 = .ok (.iload_n 2, 1) := by decide +kernel
theorem dX12_findPlan_250 : decode cX12_findPlan 250 = .ok (.iload_n 1, 1) := by decide +kernel
theorem dX12_findPlan_251 : decode cX12_findPlan 251 = .ok (.iconst 1, 1) := by decide +kernel
theorem dX12_findPlan_252 : decode cX12_findPlan 252 = .ok (.isub, 1) := by decide +kernel
theorem dX12_findPlan_253 : decode cX12_findPlan 253 = .ok (.istore_n 3, 1) := by decide +kernel
theorem dX12_findPlan_254 : decode cX12_findPlan 254 = .ok (.iconst 0, 1) := by decide +kernel
theorem dX12_findPlan_255 : decode cX12_findPlan 255 = .ok (.istore 4, 2) := by decide +kernel
theorem dX12_findPlan_257 : decode cX12_findPlan 257 = .ok (.iload 4, 2) := by decide +kernel
theorem dX12_findPlan_259 : decode cX12_findPlan 259 = .ok (.aload_n 0, 1) := by decide +kernel
theorem dX12_findPlan_26 : decode cX12_findPlan 26 = .ok (.iadd, 1) := by decide +kernel
theorem dX12_findPlan_260 : decode cX12_findPlan 260 = .ok (.getfield 121, 3) := by decide +kernel
theorem dX12_findPlan_263 : decode cX12_findPlan 263 = .ok (.if_icmp .ge 166, 3) := by decide +kernel
theorem dX12_findPlan_27 : decode cX12_findPlan 27 = .ok (.iload_n 2, 1) := by decide +kernel
theorem dX12_findPlan_28 : decode cX12_findPlan 28 = .ok (.ifCond .ne 7, 3) := by decide +kernel
theorem dX12_findPlan_31 : decode cX12_findPlan 31 = .ok (.iconst 0, 1) := by decide +kernel
theorem dX12_findPlan_32 : decode cX12_findPlan 32 = .ok (.goto 6, 3) := by decide +kernel
theorem dX12_findPlan_38 : decode cX12_findPlan 38 = .ok (.iastore, 1) := by decide +kernel
theorem dX12_findPlan_39 : decode cX12_findPlan 39 = .ok (.iinc 2 1, 3) := by decide +kernel
theorem dX12_findPlan_42 : decode cX12_findPlan 42 = .ok (.goto (-33), 3) := by decide +kernel
theorem dX12_findPlan_429 : decode cX12_findPlan 429 = .ok (.aload_n 0, 1) := by decide +kernel
theorem dX12_findPlan_430 : decode cX12_findPlan 430 = .ok (.iconst 2, 1) := by decide +kernel
theorem dX12_findPlan_431 : decode cX12_findPlan 431 = .ok (.aload_n 0, 1) := by decide +kernel
theorem dX12_findPlan_432 : decode cX12_findPlan 432 = .ok (.getfield 121, 3) := by decide +kernel
theorem dX12_findPlan_435 : decode cX12_findPlan 435 = .ok (.imul, 1) := by decide +kernel
theorem dX12_findPlan_436 : decode cX12_findPlan 436 = .ok (.putfield 188, 3) := by decide +kernel
theorem dX12_findPlan_439 : decode cX12_findPlan 439 = .ok (.iload_n 2, 1) := by decide +kernel
theorem dX12_findPlan_440 : decode cX12_findPlan 440 = .ok (.ireturn, 1) := by decide +kernel
theorem dX12_findPlan_45 : decode cX12_findPlan 45 = .ok (.aload_n 0, 1) := by decide +kernel
theorem dX12_findPlan_46 : decode cX12_findPlan 46 = .ok (.getfield 121, 3) := by decide +kernel
theorem dX12_findPlan_49 : decode cX12_findPlan 49 = .ok (.iconst 1, 1) := by decide +kernel
theorem dX12_findPlan_5 : decode cX12_findPlan 5 = .ok (.ishl, 1) := by decide +kernel
theorem dX12_findPlan_50 : decode cX12_findPlan 50 = .ok (.isub, 1) := by decide +kernel
theorem dX12_findPlan_51 : decode cX12_findPlan 51 = .ok (.istore_n 2, 1) := by decide +kernel
theorem dX12_findPlan_52 : decode cX12_findPlan 52 = .ok (.iload_n 2, 1) := by decide +kernel
theorem dX12_findPlan_53 : decode cX12_findPlan 53 = .ok (.ifCond .lt 179, 3) := by decide +kernel
theorem dX12_findPlan_6 : decode cX12_findPlan 6 = .ok (.istore_n 1, 1) := by decide +kernel
theorem dX12_findPlan_7 : decode cX12_findPlan 7 = .ok (.iconst 0, 1) := by decide +kernel
theorem dX12_findPlan_8 : decode cX12_findPlan 8 = .ok (.istore_n 2, 1) := by decide +kernel
theorem dX12_findPlan_9 : decode cX12_findPlan 9 = .ok (.iload_n 2, 1) := by decide +kernel
theorem dX12_gap_0 : decode cX12_gap 0 = .ok (.aload_n 0, 1) := by decide +kernel
theorem dX12_gap_1 : decode cX12_gap 1 = .ok (.iconst 0, 1) := by decide +kernel
theorem dX12_gap_11 : decode cX12_gap 11 = .ok (.iconst 1, 1) := by decide +kernel
theorem dX12_gap_12 : decode cX12_gap 12 = .ok (.isub, 1) := by decide +kernel
theorem dX12_gap_13 : decode cX12_gap 13 = .ok (.invokestatic 124, 3) := by decide +kernel
theorem dX12_gap_16 : decode cX12_gap 16 = .ok (.ifCond .ne 5, 3) := by decide +kernel
theorem dX12_gap_19 : decode cX12_gap 19 = .ok (.iconst 0, 1) := by decide +kernel
theorem dX12_gap_2 : decode cX12_gap 2 = .ok (.putfield 118, 3) := by decide +kernel
theorem dX12_gap_20 : decode cX12_gap 20 = .ok (.ireturn, 1) := by decide +kernel
theorem dX12_gap_5 : decode cX12_gap 5 = .ok (.iload_n 1, 1) := by decide +kernel
theorem dX12_gap_6 : decode cX12_gap 6 = .ok (.iconst 0, 1) := by decide +kernel
theorem dX12_gap_7 : decode cX12_gap 7 = .ok (.aload_n 0, 1) := by decide +kernel
theorem dX12_gap_8 : decode cX12_gap 8 = .ok (.getfield 179, 3) := by decide +kernel
theorem dX12_hand_0 : decode cX12_hand 0 = .ok (.aload_n 0, 1) := by decide +kernel
theorem dX12_hand_1 : decode cX12_hand 1 = .ok (.iconst 0, 1) := by decide +kernel
theorem dX12_hand_11 : decode cX12_hand 11 = .ok (.iconst 1, 1) := by decide +kernel
theorem dX12_hand_12 : decode cX12_hand 12 = .ok (.isub, 1) := by decide +kernel
theorem dX12_hand_13 : decode cX12_hand 13 = .ok (.invokestatic 124, 3) := by decide +kernel
theorem dX12_hand_16 : decode cX12_hand 16 = .ok (.ifCond .eq 12, 3) := by decide +kernel
theorem dX12_hand_2 : decode cX12_hand 2 = .ok (.putfield 118, 3) := by decide +kernel
theorem dX12_hand_28 : decode cX12_hand 28 = .ok (.iconst (-1), 1) := by decide +kernel
theorem dX12_hand_29 : decode cX12_hand 29 = .ok (.ireturn, 1) := by decide +kernel
theorem dX12_hand_5 : decode cX12_hand 5 = .ok (.iload_n 1, 1) := by decide +kernel
theorem dX12_hand_6 : decode cX12_hand 6 = .ok (.iconst 0, 1) := by decide +kernel
theorem dX12_hand_7 : decode cX12_hand 7 = .ok (.aload_n 0, 1) := by decide +kernel
theorem dX12_hand_8 : decode cX12_hand 8 = .ok (.getfield 162, 3) := by decide +kernel
theorem dX12_has_0 : decode cX12_has 0 = .ok (.aload_n 0, 1) := by decide +kernel
theorem dX12_has_1 : decode cX12_has 1 = .ok (.getfield 131, 3) := by decide +kernel
theorem dX12_has_4 : decode cX12_has 4 = .ok (.aload_n 0, 1) := by decide +kernel
theorem dX12_has_5 : decode cX12_has 5 = .ok (.getfield 128, 3) := by decide +kernel
theorem dX12_has_50 : decode cX12_has 50 = .ok (.iconst 0, 1) := by decide +kernel
theorem dX12_has_51 : decode cX12_has 51 = .ok (.ireturn, 1) := by decide +kernel
theorem dX12_has_8 : decode cX12_has 8 = .ok (.if_icmp .ge 42, 3) := by decide +kernel
theorem dX12_head_0 : decode cX12_head 0 = .ok (.aload_n 0, 1) := by decide +kernel
theorem dX12_head_1 : decode cX12_head 1 = .ok (.iconst 0, 1) := by decide +kernel
theorem dX12_head_10 : decode cX12_head 10 = .ok (.ifCond .eq 13, 3) := by decide +kernel
theorem dX12_head_2 : decode cX12_head 2 = .ok (.putfield 118, 3) := by decide +kernel
theorem dX12_head_23 : decode cX12_head 23 = .ok (.iconst (-1), 1) := by decide +kernel
theorem dX12_head_24 : decode cX12_head 24 = .ok (.ireturn, 1) := by decide +kernel
theorem dX12_head_5 : decode cX12_head 5 = .ok (.aload_n 0, 1) := by decide +kernel
theorem dX12_head_6 : decode cX12_head 6 = .ok (.iload_n 1, 1) := by decide +kernel
theorem dX12_head_7 : decode cX12_head 7 = .ok (.invokevirtual 168, 3) := by decide +kernel
theorem dX12_heads_0 : decode cX12_heads 0 = .ok (.aload_n 0, 1) := by decide +kernel
theorem dX12_heads_1 : decode cX12_heads 1 = .ok (.iconst 0, 1) := by decide +kernel
theorem dX12_heads_12 : decode cX12_heads 12 = .ok (.ifCond .eq 34, 3) := by decide +kernel
theorem dX12_heads_15 : decode cX12_heads 15 = .ok (.iload_n 2, 1) := by decide +kernel
theorem dX12_heads_16 : decode cX12_heads 16 = .ok (.iconst 0, 1) := by decide +kernel
theorem dX12_heads_17 : decode cX12_heads 17 = .ok (.bipush 100, 2) := by decide +kernel
theorem dX12_heads_19 : decode cX12_heads 19 = .ok (.invokestatic 124, 3) := by decide +kernel
theorem dX12_heads_2 : decode cX12_heads 2 = .ok (.putfield 118, 3) := by decide +kernel
theorem dX12_heads_22 : decode cX12_heads 22 = .ok (.ifCond .eq 24, 3) := by decide +kernel
theorem dX12_heads_25 : decode cX12_heads 25 = .ok (.iload_n 3, 1) := by decide +kernel
theorem dX12_heads_26 : decode cX12_heads 26 = .ok (.iconst 1, 1) := by decide +kernel
theorem dX12_heads_27 : decode cX12_heads 27 = .ok (.bipush 20, 2) := by decide +kernel
theorem dX12_heads_29 : decode cX12_heads 29 = .ok (.invokestatic 124, 3) := by decide +kernel
theorem dX12_heads_32 : decode cX12_heads 32 = .ok (.ifCond .eq 14, 3) := by decide +kernel
theorem dX12_heads_35 : decode cX12_heads 35 = .ok (.iload 4, 2) := by decide +kernel
theorem dX12_heads_37 : decode cX12_heads 37 = .ok (.iconst 0, 1) := by decide +kernel
theorem dX12_heads_38 : decode cX12_heads 38 = .ok (.bipush 100, 2) := by decide +kernel
theorem dX12_heads_40 : decode cX12_heads 40 = .ok (.invokestatic 124, 3) := by decide +kernel
theorem dX12_heads_43 : decode cX12_heads 43 = .ok (.ifCond .ne 5, 3) := by decide +kernel
theorem dX12_heads_46 : decode cX12_heads 46 = .ok (.iconst 0, 1) := by decide +kernel
theorem dX12_heads_47 : decode cX12_heads 47 = .ok (.ireturn, 1) := by decide +kernel
theorem dX12_heads_48 : decode cX12_heads 48 = .ok (.aload_n 0, 1) := by decide +kernel
theorem dX12_heads_49 : decode cX12_heads 49 = .ok (.iload_n 1, 1) := by decide +kernel
theorem dX12_heads_5 : decode cX12_heads 5 = .ok (.iload_n 1, 1) := by decide +kernel
theorem dX12_heads_50 : decode cX12_heads 50 = .ok (.putfield 53, 3) := by decide +kernel
theorem dX12_heads_53 : decode cX12_heads 53 = .ok (.aload_n 0, 1) := by decide +kernel
theorem dX12_heads_54 : decode cX12_heads 54 = .ok (.iload_n 2, 1) := by decide +kernel
theorem dX12_heads_55 : decode cX12_heads 55 = .ok (.putfield 277, 3) := by decide +kernel
theorem dX12_heads_58 : decode cX12_heads 58 = .ok (.aload_n 0, 1) := by decide +kernel
theorem dX12_heads_59 : decode cX12_heads 59 = .ok (.iload_n 3, 1) := by decide +kernel
theorem dX12_heads_6 : decode cX12_heads 6 = .ok (.iconst 1, 1) := by decide +kernel
theorem dX12_heads_60 : decode cX12_heads 60 = .ok (.putfield 57, 3) := by decide +kernel
theorem dX12_heads_63 : decode cX12_heads 63 = .ok (.aload_n 0, 1) := by decide +kernel
theorem dX12_heads_64 : decode cX12_heads 64 = .ok (.iload 4, 2) := by decide +kernel
theorem dX12_heads_66 : decode cX12_heads 66 = .ok (.putfield 280, 3) := by decide +kernel
theorem dX12_heads_69 : decode cX12_heads 69 = .ok (.iconst 1, 1) := by decide +kernel
theorem dX12_heads_7 : decode cX12_heads 7 = .ok (.bipush 20, 2) := by decide +kernel
theorem dX12_heads_70 : decode cX12_heads 70 = .ok (.ireturn, 1) := by decide +kernel
theorem dX12_heads_9 : decode cX12_heads 9 = .ok (.invokestatic 124, 3) := by decide +kernel
theorem dX12_heardInAll_0 : decode cX12_heardInAll 0 = .ok (.iconst 0, 1) := by decide +kernel
theorem dX12_heardInAll_1 : decode cX12_heardInAll 1 = .ok (.istore_n 3, 1) := by decide +kernel
theorem dX12_heardInAll_11 : decode cX12_heardInAll 11 = .ok (.if_icmp .ge 19, 3) := by decide +kernel
theorem dX12_heardInAll_2 : decode cX12_heardInAll 2 = .ok (.iconst 0, 1) := by decide +kernel
theorem dX12_heardInAll_3 : decode cX12_heardInAll 3 = .ok (.istore 4, 2) := by decide +kernel
theorem dX12_heardInAll_30 : decode cX12_heardInAll 30 = .ok (.iload_n 3, 1) := by decide +kernel
theorem dX12_heardInAll_31 : decode cX12_heardInAll 31 = .ok (.ireturn, 1) := by decide +kernel
theorem dX12_heardInAll_5 : decode cX12_heardInAll 5 = .ok (.iload 4, 2) := by decide +kernel
theorem dX12_heardInAll_7 : decode cX12_heardInAll 7 = .ok (.aload_n 0, 1) := by decide +kernel
theorem dX12_heardInAll_8 : decode cX12_heardInAll 8 = .ok (.getfield 121, 3) := by decide +kernel
theorem dX12_heard_0 : decode cX12_heard 0 = .ok (.aload_n 0, 1) := by decide +kernel
theorem dX12_heard_1 : decode cX12_heard 1 = .ok (.iconst 0, 1) := by decide +kernel
theorem dX12_heard_10 : decode cX12_heard 10 = .ok (.aload_n 0, 1) := by decide +kernel
theorem dX12_heard_11 : decode cX12_heard 11 = .ok (.iload_n 1, 1) := by decide +kernel
theorem dX12_heard_12 : decode cX12_heard 12 = .ok (.invokevirtual 168, 3) := by decide +kernel
theorem dX12_heard_15 : decode cX12_heard 15 = .ok (.ifCond .eq 9, 3) := by decide +kernel
theorem dX12_heard_18 : decode cX12_heard 18 = .ok (.lload_n 2, 1) := by decide +kernel
theorem dX12_heard_19 : decode cX12_heard 19 = .ok (.lconst 0, 1) := by decide +kernel
theorem dX12_heard_2 : decode cX12_heard 2 = .ok (.putfield 118, 3) := by decide +kernel
theorem dX12_heard_20 : decode cX12_heard 20 = .ok (.lcmp, 1) := by decide +kernel
theorem dX12_heard_21 : decode cX12_heard 21 = .ok (.ifCond .ge 5, 3) := by decide +kernel
theorem dX12_heard_24 : decode cX12_heard 24 = .ok (.iconst (-1), 1) := by decide +kernel
theorem dX12_heard_25 : decode cX12_heard 25 = .ok (.ireturn, 1) := by decide +kernel
theorem dX12_heard_26 : decode cX12_heard 26 = .ok (.iload_n 1, 1) := by decide +kernel
theorem dX12_heard_27 : decode cX12_heard 27 = .ok (.iconst (-1), 1) := by decide +kernel
theorem dX12_heard_28 : decode cX12_heard 28 = .ok (.if_icmp .ne 11, 3) := by decide +kernel
theorem dX12_heard_31 : decode cX12_heard 31 = .ok (.aload_n 0, 1) := by decide +kernel
theorem dX12_heard_32 : decode cX12_heard 32 = .ok (.lload_n 2, 1) := by decide +kernel
theorem dX12_heard_33 : decode cX12_heard 33 = .ok (.invokevirtual 229, 3) := by decide +kernel
theorem dX12_heard_36 : decode cX12_heard 36 = .ok (.goto 9, 3) := by decide +kernel
theorem dX12_heard_45 : decode cX12_heard 45 = .ok (.ireturn, 1) := by decide +kernel
theorem dX12_heard_5 : decode cX12_heard 5 = .ok (.iload_n 1, 1) := by decide +kernel
theorem dX12_heard_6 : decode cX12_heard 6 = .ok (.iconst (-1), 1) := by decide +kernel
theorem dX12_heard_7 : decode cX12_heard 7 = .ok (.if_icmp .eq 11, 3) := by decide +kernel
theorem dX12_in_0 : decode cX12_in 0 = .ok (.iload_n 0, 1) := by decide +kernel
theorem dX12_in_1 : decode cX12_in 1 = .ok (.iload_n 1, 1) := by decide +kernel
theorem dX12_in_10 : decode cX12_in 10 = .ok (.iconst 1, 1) := by decide +kernel
theorem dX12_in_11 : decode cX12_in 11 = .ok (.goto 4, 3) := by decide +kernel
theorem dX12_in_14 : decode cX12_in 14 = .ok (.iconst 0, 1) := by decide +kernel
theorem dX12_in_15 : decode cX12_in 15 = .ok (.ireturn, 1) := by decide +kernel
theorem dX12_in_2 : decode cX12_in 2 = .ok (.if_icmp .lt 12, 3) := by decide +kernel
theorem dX12_in_5 : decode cX12_in 5 = .ok (.iload_n 0, 1) := by decide +kernel
theorem dX12_in_6 : decode cX12_in 6 = .ok (.iload_n 2, 1) := by decide +kernel
theorem dX12_in_7 : decode cX12_in 7 = .ok (.if_icmp .gt 7, 3) := by decide +kernel
theorem dX12_inch_0 : decode cX12_inch 0 = .ok (.aload_n 0, 1) := by decide +kernel
theorem dX12_inch_1 : decode cX12_inch 1 = .ok (.iconst 0, 1) := by decide +kernel
theorem dX12_inch_10 : decode cX12_inch 10 = .ok (.ifCond .eq 33, 3) := by decide +kernel
theorem dX12_inch_2 : decode cX12_inch 2 = .ok (.putfield 118, 3) := by decide +kernel
theorem dX12_inch_43 : decode cX12_inch 43 = .ok (.iconst (-1), 1) := by decide +kernel
theorem dX12_inch_44 : decode cX12_inch 44 = .ok (.ireturn, 1) := by decide +kernel
theorem dX12_inch_5 : decode cX12_inch 5 = .ok (.aload_n 0, 1) := by decide +kernel
theorem dX12_inch_6 : decode cX12_inch 6 = .ok (.iload_n 1, 1) := by decide +kernel
theorem dX12_inch_7 : decode cX12_inch 7 = .ok (.invokevirtual 168, 3) := by decide +kernel
theorem dX12_isMotor_0 : decode cX12_isMotor 0 = .ok (.iload_n 0, 1) := by decide +kernel
theorem dX12_isMotor_1 : decode cX12_isMotor 1 = .ok (.ifCond .eq 8, 3) := by decide +kernel
theorem dX12_isMotor_10 : decode cX12_isMotor 10 = .ok (.goto 4, 3) := by decide +kernel
theorem dX12_isMotor_13 : decode cX12_isMotor 13 = .ok (.iconst 0, 1) := by decide +kernel
theorem dX12_isMotor_14 : decode cX12_isMotor 14 = .ok (.ireturn, 1) := by decide +kernel
theorem dX12_isMotor_4 : decode cX12_isMotor 4 = .ok (.iload_n 0, 1) := by decide +kernel
theorem dX12_isMotor_5 : decode cX12_isMotor 5 = .ok (.iconst 1, 1) := by decide +kernel
theorem dX12_isMotor_6 : decode cX12_isMotor 6 = .ok (.if_icmp .ne 7, 3) := by decide +kernel
theorem dX12_isMotor_9 : decode cX12_isMotor 9 = .ok (.iconst 1, 1) := by decide +kernel
theorem dX12_isPair_0 : decode cX12_isPair 0 = .ok (.iconst 0, 1) := by decide +kernel
theorem dX12_isPair_1 : decode cX12_isPair 1 = .ok (.istore_n 3, 1) := by decide +kernel
theorem dX12_isPair_2 : decode cX12_isPair 2 = .ok (.iload_n 3, 1) := by decide +kernel
theorem dX12_isPair_3 : decode cX12_isPair 3 = .ok (.aload_n 0, 1) := by decide +kernel
theorem dX12_isPair_4 : decode cX12_isPair 4 = .ok (.getfield 179, 3) := by decide +kernel
theorem dX12_isPair_50 : decode cX12_isPair 50 = .ok (.iconst 1, 1) := by decide +kernel
theorem dX12_isPair_51 : decode cX12_isPair 51 = .ok (.ireturn, 1) := by decide +kernel
theorem dX12_isPair_7 : decode cX12_isPair 7 = .ok (.if_icmp .ge 43, 3) := by decide +kernel
theorem dX12_isRing_0 : decode cX12_isRing 0 = .ok (.iload_n 1, 1) := by decide +kernel
theorem dX12_isRing_1 : decode cX12_isRing 1 = .ok (.iconst 0, 1) := by decide +kernel
theorem dX12_isRing_11 : decode cX12_isRing 11 = .ok (.ireturn, 1) := by decide +kernel
theorem dX12_isRing_2 : decode cX12_isRing 2 = .ok (.aload_n 0, 1) := by decide +kernel
theorem dX12_isRing_3 : decode cX12_isRing 3 = .ok (.getfield 121, 3) := by decide +kernel
theorem dX12_isRing_6 : decode cX12_isRing 6 = .ok (.iconst 1, 1) := by decide +kernel
theorem dX12_isRing_7 : decode cX12_isRing 7 = .ok (.isub, 1) := by decide +kernel
theorem dX12_isRing_8 : decode cX12_isRing 8 = .ok (.invokestatic 124, 3) := by decide +kernel
theorem dX12_isSpan_0 : decode cX12_isSpan 0 = .ok (.iconst 0, 1) := by decide +kernel
theorem dX12_isSpan_1 : decode cX12_isSpan 1 = .ok (.istore_n 2, 1) := by decide +kernel
theorem dX12_isSpan_2 : decode cX12_isSpan 2 = .ok (.iload_n 2, 1) := by decide +kernel
theorem dX12_isSpan_3 : decode cX12_isSpan 3 = .ok (.aload_n 0, 1) := by decide +kernel
theorem dX12_isSpan_4 : decode cX12_isSpan 4 = .ok (.getfield 179, 3) := by decide +kernel
theorem dX12_isSpan_7 : decode cX12_isSpan 7 = .ok (.if_icmp .ge 65, 3) := by decide +kernel
theorem dX12_isSpan_72 : decode cX12_isSpan 72 = .ok (.iconst 1, 1) := by decide +kernel
theorem dX12_isSpan_73 : decode cX12_isSpan 73 = .ok (.ireturn, 1) := by decide +kernel
theorem dX12_isWrong_0 : decode cX12_isWrong 0 = .ok (.aload_n 0, 1) := by decide +kernel
theorem dX12_isWrong_1 : decode cX12_isWrong 1 = .ok (.getfield 134, 3) := by decide +kernel
theorem dX12_isWrong_10 : decode cX12_isWrong 10 = .ok (.getfield 131, 3) := by decide +kernel
theorem dX12_isWrong_13 : decode cX12_isWrong 13 = .ok (.putfield 134, 3) := by decide +kernel
theorem dX12_isWrong_16 : decode cX12_isWrong 16 = .ok (.iconst 0, 1) := by decide +kernel
theorem dX12_isWrong_17 : decode cX12_isWrong 17 = .ok (.ireturn, 1) := by decide +kernel
theorem dX12_isWrong_4 : decode cX12_isWrong 4 = .ok (.iconst (-1), 1) := by decide +kernel
theorem dX12_isWrong_5 : decode cX12_isWrong 5 = .ok (.if_icmp .ne 11, 3) := by decide +kernel
theorem dX12_isWrong_8 : decode cX12_isWrong 8 = .ok (.aload_n 0, 1) := by decide +kernel
theorem dX12_isWrong_9 : decode cX12_isWrong 9 = .ok (.aload_n 0, 1) := by decide +kernel
theorem dX12_joinFrom_0 : decode cX12_joinFrom 0 = .ok (.bipush 40, 2) := by decide +kernel
theorem dX12_joinFrom_11 : decode cX12_joinFrom 11 = .ok (.if_icmp .ne 145, 3) := by decide +kernel
theorem dX12_joinFrom_112 : decode cX12_joinFrom 112 = .ok (.iload 5, 2) := by decide +kernel
theorem dX12_joinFrom_114 : decode cX12_joinFrom 114 = .ok (.ifCond .ne 4, 3) := by decide +kernel
theorem dX12_joinFrom_118 : decode cX12_joinFrom 118 = .ok (.aload_n 0, 1) := by decide +kernel
theorem dX12_joinFrom_119 : decode cX12_joinFrom 119 = .ok (.iload_n 3, 1) := by decide +kernel
theorem dX12_joinFrom_120 : decode cX12_joinFrom 120 = .ok (.putfield 305, 3) := by decide +kernel
theorem dX12_joinFrom_123 : decode cX12_joinFrom 123 = .ok (.iconst 0, 1) := by decide +kernel
theorem dX12_joinFrom_124 : decode cX12_joinFrom 124 = .ok (.istore 6, 2) := by decide +kernel
theorem dX12_joinFrom_126 : decode cX12_joinFrom 126 = .ok (.iload 6, 2) := by decide +kernel
theorem dX12_joinFrom_128 : decode cX12_joinFrom 128 = .ok (.iload_n 3, 1) := by decide +kernel
theorem dX12_joinFrom_129 : decode cX12_joinFrom 129 = .ok (.if_icmp .ge 26, 3) := by decide +kernel
theorem dX12_joinFrom_14 : decode cX12_joinFrom 14 = .ok (.aload_n 0, 1) := by decide +kernel
theorem dX12_joinFrom_15 : decode cX12_joinFrom 15 = .ok (.getfield 305, 3) := by decide +kernel
theorem dX12_joinFrom_155 : decode cX12_joinFrom 155 = .ok (.return_, 1) := by decide +kernel
theorem dX12_joinFrom_18 : decode cX12_joinFrom 18 = .ok (.iconst (-1), 1) := by decide +kernel
theorem dX12_joinFrom_19 : decode cX12_joinFrom 19 = .ok (.if_icmp .eq 11, 3) := by decide +kernel
theorem dX12_joinFrom_2 : decode cX12_joinFrom 2 = .ok (.iload_n 1, 1) := by decide +kernel
theorem dX12_joinFrom_3 : decode cX12_joinFrom 3 = .ok (.imul, 1) := by decide +kernel
theorem dX12_joinFrom_30 : decode cX12_joinFrom 30 = .ok (.iconst 1, 1) := by decide +kernel
theorem dX12_joinFrom_31 : decode cX12_joinFrom 31 = .ok (.goto 4, 3) := by decide +kernel
theorem dX12_joinFrom_35 : decode cX12_joinFrom 35 = .ok (.istore 5, 2) := by decide +kernel
theorem dX12_joinFrom_37 : decode cX12_joinFrom 37 = .ok (.iconst 0, 1) := by decide +kernel
theorem dX12_joinFrom_38 : decode cX12_joinFrom 38 = .ok (.istore 6, 2) := by decide +kernel
theorem dX12_joinFrom_4 : decode cX12_joinFrom 4 = .ok (.istore 4, 2) := by decide +kernel
theorem dX12_joinFrom_40 : decode cX12_joinFrom 40 = .ok (.iload 6, 2) := by decide +kernel
theorem dX12_joinFrom_42 : decode cX12_joinFrom 42 = .ok (.iload_n 3, 1) := by decide +kernel
theorem dX12_joinFrom_43 : decode cX12_joinFrom 43 = .ok (.if_icmp .ge 69, 3) := by decide +kernel
theorem dX12_joinFrom_6 : decode cX12_joinFrom 6 = .ok (.iload_n 1, 1) := by decide +kernel
theorem dX12_joinFrom_7 : decode cX12_joinFrom 7 = .ok (.aload_n 0, 1) := by decide +kernel
theorem dX12_joinFrom_8 : decode cX12_joinFrom 8 = .ok (.getfield 182, 3) := by decide +kernel
theorem dX12_join_0 : decode cX12_join 0 = .ok (.aload_n 0, 1) := by decide +kernel
theorem dX12_join_1 : decode cX12_join 1 = .ok (.iconst 0, 1) := by decide +kernel
theorem dX12_join_10 : decode cX12_join 10 = .ok (.aload_n 0, 1) := by decide +kernel
theorem dX12_join_11 : decode cX12_join 11 = .ok (.iconst 0, 1) := by decide +kernel
theorem dX12_join_12 : decode cX12_join 12 = .ok (.iconst 0, 1) := by decide +kernel
theorem dX12_join_13 : decode cX12_join 13 = .ok (.iconst 0, 1) := by decide +kernel
theorem dX12_join_14 : decode cX12_join 14 = .ok (.invokevirtual 316, 3) := by decide +kernel
theorem dX12_join_17 : decode cX12_join 17 = .ok (.aload_n 0, 1) := by decide +kernel
theorem dX12_join_18 : decode cX12_join 18 = .ok (.aload_n 0, 1) := by decide +kernel
theorem dX12_join_19 : decode cX12_join 19 = .ok (.getfield 305, 3) := by decide +kernel
theorem dX12_join_2 : decode cX12_join 2 = .ok (.putfield 118, 3) := by decide +kernel
theorem dX12_join_22 : decode cX12_join 22 = .ok (.putfield 188, 3) := by decide +kernel
theorem dX12_join_25 : decode cX12_join 25 = .ok (.iconst 0, 1) := by decide +kernel
theorem dX12_join_26 : decode cX12_join 26 = .ok (.istore_n 1, 1) := by decide +kernel
theorem dX12_join_27 : decode cX12_join 27 = .ok (.iload_n 1, 1) := by decide +kernel
theorem dX12_join_28 : decode cX12_join 28 = .ok (.aload_n 0, 1) := by decide +kernel
theorem dX12_join_29 : decode cX12_join 29 = .ok (.getfield 188, 3) := by decide +kernel
theorem dX12_join_32 : decode cX12_join 32 = .ok (.if_icmp .ge 21, 3) := by decide +kernel
theorem dX12_join_5 : decode cX12_join 5 = .ok (.aload_n 0, 1) := by decide +kernel
theorem dX12_join_53 : decode cX12_join 53 = .ok (.aload_n 0, 1) := by decide +kernel
theorem dX12_join_54 : decode cX12_join 54 = .ok (.getfield 305, 3) := by decide +kernel
theorem dX12_join_57 : decode cX12_join 57 = .ok (.ireturn, 1) := by decide +kernel
theorem dX12_join_6 : decode cX12_join 6 = .ok (.iconst (-1), 1) := by decide +kernel
theorem dX12_join_7 : decode cX12_join 7 = .ok (.putfield 305, 3) := by decide +kernel
theorem dX12_keep_0 : decode cX12_keep 0 = .ok (.aload_n 0, 1) := by decide +kernel
theorem dX12_keep_1 : decode cX12_keep 1 = .ok (.iconst 0, 1) := by decide +kernel
theorem dX12_keep_10 : decode cX12_keep 10 = .ok (.ifCond .eq 45, 3) := by decide +kernel
theorem dX12_keep_2 : decode cX12_keep 2 = .ok (.putfield 118, 3) := by decide +kernel
theorem dX12_keep_5 : decode cX12_keep 5 = .ok (.aload_n 0, 1) := by decide +kernel
theorem dX12_keep_55 : decode cX12_keep 55 = .ok (.iconst (-1), 1) := by decide +kernel
theorem dX12_keep_56 : decode cX12_keep 56 = .ok (.ireturn, 1) := by decide +kernel
theorem dX12_keep_6 : decode cX12_keep 6 = .ok (.iload_n 1, 1) := by decide +kernel
theorem dX12_keep_7 : decode cX12_keep 7 = .ok (.invokevirtual 168, 3) := by decide +kernel
theorem dX12_kept_0 : decode cX12_kept 0 = .ok (.aload_n 0, 1) := by decide +kernel
theorem dX12_kept_1 : decode cX12_kept 1 = .ok (.iconst 0, 1) := by decide +kernel
theorem dX12_kept_10 : decode cX12_kept 10 = .ok (.aload_n 0, 1) := by decide +kernel
theorem dX12_kept_11 : decode cX12_kept 11 = .ok (.getfield 121, 3) := by decide +kernel
theorem dX12_kept_14 : decode cX12_kept 14 = .ok (.if_icmp .ge 24, 3) := by decide +kernel
theorem dX12_kept_2 : decode cX12_kept 2 = .ok (.putfield 118, 3) := by decide +kernel
theorem dX12_kept_38 : decode cX12_kept 38 = .ok (.iload_n 1, 1) := by decide +kernel
theorem dX12_kept_39 : decode cX12_kept 39 = .ok (.ireturn, 1) := by decide +kernel
theorem dX12_kept_5 : decode cX12_kept 5 = .ok (.iconst 0, 1) := by decide +kernel
theorem dX12_kept_6 : decode cX12_kept 6 = .ok (.istore_n 1, 1) := by decide +kernel
theorem dX12_kept_7 : decode cX12_kept 7 = .ok (.iconst 0, 1) := by decide +kernel
theorem dX12_kept_8 : decode cX12_kept 8 = .ok (.istore_n 2, 1) := by decide +kernel
theorem dX12_kept_9 : decode cX12_kept 9 = .ok (.iload_n 2, 1) := by decide +kernel
theorem dX12_known_0 : decode cX12_known 0 = .ok (.aload_n 0, 1) := by decide +kernel
theorem dX12_known_1 : decode cX12_known 1 = .ok (.iconst 0, 1) := by decide +kernel
theorem dX12_known_10 : decode cX12_known 10 = .ok (.isub, 1) := by decide +kernel
theorem dX12_known_11 : decode cX12_known 11 = .ok (.istore_n 3, 1) := by decide +kernel
theorem dX12_known_12 : decode cX12_known 12 = .ok (.iload_n 3, 1) := by decide +kernel
theorem dX12_known_13 : decode cX12_known 13 = .ok (.ifCond .lt 31, 3) := by decide +kernel
theorem dX12_known_2 : decode cX12_known 2 = .ok (.putfield 118, 3) := by decide +kernel
theorem dX12_known_44 : decode cX12_known 44 = .ok (.iconst (-1), 1) := by decide +kernel
theorem dX12_known_45 : decode cX12_known 45 = .ok (.ireturn, 1) := by decide +kernel
theorem dX12_known_5 : decode cX12_known 5 = .ok (.aload_n 0, 1) := by decide +kernel
theorem dX12_known_6 : decode cX12_known 6 = .ok (.getfield 185, 3) := by decide +kernel
theorem dX12_known_9 : decode cX12_known 9 = .ok (.iconst 1, 1) := by decide +kernel
theorem dX12_make_0 : decode cX12_make 0 = .ok (.aload_n 0, 1) := by decide +kernel
theorem dX12_make_1 : decode cX12_make 1 = .ok (.iconst 0, 1) := by decide +kernel
theorem dX12_make_10 : decode cX12_make 10 = .ok (.iconst 0, 1) := by decide +kernel
theorem dX12_make_11 : decode cX12_make 11 = .ok (.istore_n 2, 1) := by decide +kernel
theorem dX12_make_12 : decode cX12_make 12 = .ok (.iload_n 2, 1) := by decide +kernel
theorem dX12_make_13 : decode cX12_make 13 = .ok (.aload_n 0, 1) := by decide +kernel
theorem dX12_make_14 : decode cX12_make 14 = .ok (.getfield 121, 3) := by decide +kernel
theorem dX12_make_17 : decode cX12_make 17 = .ok (.if_icmp .ge 47, 3) := by decide +kernel
theorem dX12_make_2 : decode cX12_make 2 = .ok (.putfield 118, 3) := by decide +kernel
theorem dX12_make_5 : decode cX12_make 5 = .ok (.aload_n 0, 1) := by decide +kernel
theorem dX12_make_6 : decode cX12_make 6 = .ok (.invokevirtual 274, 3) := by decide +kernel
theorem dX12_make_64 : decode cX12_make 64 = .ok (.iload_n 1, 1) := by decide +kernel
theorem dX12_make_65 : decode cX12_make 65 = .ok (.ireturn, 1) := by decide +kernel
theorem dX12_make_9 : decode cX12_make 9 = .ok (.istore_n 1, 1) := by decide +kernel
theorem dX12_mark_0 : decode cX12_mark 0 = .ok (.aload_n 0, 1) := by decide +kernel
theorem dX12_mark_1 : decode cX12_mark 1 = .ok (.iconst 0, 1) := by decide +kernel
theorem dX12_mark_10 : decode cX12_mark 10 = .ok (.invokestatic 124, 3) := by decide +kernel
theorem dX12_mark_13 : decode cX12_mark 13 = .ok (.ifCond .eq 22, 3) := by decide +kernel
theorem dX12_mark_16 : decode cX12_mark 16 = .ok (.iload_n 2, 1) := by decide +kernel
theorem dX12_mark_17 : decode cX12_mark 17 = .ok (.iconst 1, 1) := by decide +kernel
theorem dX12_mark_18 : decode cX12_mark 18 = .ok (.bipush 9, 2) := by decide +kernel
theorem dX12_mark_2 : decode cX12_mark 2 = .ok (.putfield 118, 3) := by decide +kernel
theorem dX12_mark_20 : decode cX12_mark 20 = .ok (.invokestatic 124, 3) := by decide +kernel
theorem dX12_mark_23 : decode cX12_mark 23 = .ok (.ifCond .eq 12, 3) := by decide +kernel
theorem dX12_mark_26 : decode cX12_mark 26 = .ok (.aload_n 0, 1) := by decide +kernel
theorem dX12_mark_27 : decode cX12_mark 27 = .ok (.getfield 176, 3) := by decide +kernel
theorem dX12_mark_30 : decode cX12_mark 30 = .ok (.bipush 6, 2) := by decide +kernel
theorem dX12_mark_32 : decode cX12_mark 32 = .ok (.if_icmp .ne 5, 3) := by decide +kernel
theorem dX12_mark_35 : decode cX12_mark 35 = .ok (.iconst (-1), 1) := by decide +kernel
theorem dX12_mark_36 : decode cX12_mark 36 = .ok (.ireturn, 1) := by decide +kernel
theorem dX12_mark_37 : decode cX12_mark 37 = .ok (.aload_n 0, 1) := by decide +kernel
theorem dX12_mark_38 : decode cX12_mark 38 = .ok (.getfield 44, 3) := by decide +kernel
theorem dX12_mark_41 : decode cX12_mark 41 = .ok (.aload_n 0, 1) := by decide +kernel
theorem dX12_mark_42 : decode cX12_mark 42 = .ok (.getfield 176, 3) := by decide +kernel
theorem dX12_mark_45 : decode cX12_mark 45 = .ok (.iload_n 1, 1) := by decide +kernel
theorem dX12_mark_46 : decode cX12_mark 46 = .ok (.iastore, 1) := by decide +kernel
theorem dX12_mark_47 : decode cX12_mark 47 = .ok (.aload_n 0, 1) := by decide +kernel
theorem dX12_mark_48 : decode cX12_mark 48 = .ok (.getfield 47, 3) := by decide +kernel
theorem dX12_mark_5 : decode cX12_mark 5 = .ok (.iload_n 1, 1) := by decide +kernel
theorem dX12_mark_51 : decode cX12_mark 51 = .ok (.aload_n 0, 1) := by decide +kernel
theorem dX12_mark_52 : decode cX12_mark 52 = .ok (.getfield 176, 3) := by decide +kernel
theorem dX12_mark_55 : decode cX12_mark 55 = .ok (.iload_n 2, 1) := by decide +kernel
theorem dX12_mark_56 : decode cX12_mark 56 = .ok (.iastore, 1) := by decide +kernel
theorem dX12_mark_57 : decode cX12_mark 57 = .ok (.aload_n 0, 1) := by decide +kernel
theorem dX12_mark_58 : decode cX12_mark 58 = .ok (.dup, 1) := by decide +kernel
theorem dX12_mark_59 : decode cX12_mark 59 = .ok (.getfield 176, 3) := by decide +kernel
theorem dX12_mark_6 : decode cX12_mark 6 = .ok (.iconst 0, 1) := by decide +kernel
theorem dX12_mark_62 : decode cX12_mark 62 = .ok (.iconst 1, 1) := by decide +kernel
theorem dX12_mark_63 : decode cX12_mark 63 = .ok (.iadd, 1) := by decide +kernel
theorem dX12_mark_64 : decode cX12_mark 64 = .ok (.putfield 176, 3) := by decide +kernel
theorem dX12_mark_67 : decode cX12_mark 67 = .ok (.aload_n 0, 1) := by decide +kernel
theorem dX12_mark_68 : decode cX12_mark 68 = .ok (.getfield 176, 3) := by decide +kernel
theorem dX12_mark_7 : decode cX12_mark 7 = .ok (.ldc_w 262, 3) := by decide +kernel
theorem dX12_mark_71 : decode cX12_mark 71 = .ok (.ireturn, 1) := by decide +kernel
theorem dX12_meetsBehind_0 : decode cX12_meetsBehind 0 = .ok (.iconst 0, 1) := by decide +kernel
theorem dX12_meetsBehind_1 : decode cX12_meetsBehind 1 = .ok (.istore_n 2, 1) := by decide +kernel
theorem dX12_meetsBehind_2 : decode cX12_meetsBehind 2 = .ok (.iload_n 2, 1) := by decide +kernel
theorem dX12_meetsBehind_3 : decode cX12_meetsBehind 3 = .ok (.aload_n 0, 1) := by decide +kernel
theorem dX12_meetsBehind_38 : decode cX12_meetsBehind 38 = .ok (.iconst 1, 1) := by decide +kernel
theorem dX12_meetsBehind_39 : decode cX12_meetsBehind 39 = .ok (.ireturn, 1) := by decide +kernel
theorem dX12_meetsBehind_4 : decode cX12_meetsBehind 4 = .ok (.getfield 121, 3) := by decide +kernel
theorem dX12_meetsBehind_7 : decode cX12_meetsBehind 7 = .ok (.if_icmp .ge 31, 3) := by decide +kernel
theorem dX12_meets_0 : decode cX12_meets 0 = .ok (.aload_n 0, 1) := by decide +kernel
theorem dX12_meets_1 : decode cX12_meets 1 = .ok (.iconst 0, 1) := by decide +kernel
theorem dX12_meets_11 : decode cX12_meets 11 = .ok (.lload_n 1, 1) := by decide +kernel
theorem dX12_meets_12 : decode cX12_meets 12 = .ok (.ldc2_w 243, 3) := by decide +kernel
theorem dX12_meets_15 : decode cX12_meets 15 = .ok (.lcmp, 1) := by decide +kernel
theorem dX12_meets_16 : decode cX12_meets 16 = .ok (.ifCond .le 7, 3) := by decide +kernel
theorem dX12_meets_19 : decode cX12_meets 19 = .ok (.ldc2_w 245, 3) := by decide +kernel
theorem dX12_meets_2 : decode cX12_meets 2 = .ok (.putfield 118, 3) := by decide +kernel
theorem dX12_meets_22 : decode cX12_meets 22 = .ok (.lreturn, 1) := by decide +kernel
theorem dX12_meets_23 : decode cX12_meets 23 = .ok (.lload_n 1, 1) := by decide +kernel
theorem dX12_meets_24 : decode cX12_meets 24 = .ok (.lstore_n 3, 1) := by decide +kernel
theorem dX12_meets_25 : decode cX12_meets 25 = .ok (.lload_n 3, 1) := by decide +kernel
theorem dX12_meets_26 : decode cX12_meets 26 = .ok (.aload_n 0, 1) := by decide +kernel
theorem dX12_meets_27 : decode cX12_meets 27 = .ok (.invokevirtual 247, 3) := by decide +kernel
theorem dX12_meets_30 : decode cX12_meets 30 = .ok (.i2l, 1) := by decide +kernel
theorem dX12_meets_31 : decode cX12_meets 31 = .ok (.lcmp, 1) := by decide +kernel
theorem dX12_meets_32 : decode cX12_meets 32 = .ok (.ifCond .ge 20, 3) := by decide +kernel
theorem dX12_meets_5 : decode cX12_meets 5 = .ok (.lload_n 1, 1) := by decide +kernel
theorem dX12_meets_52 : decode cX12_meets 52 = .ok (.aload_n 0, 1) := by decide +kernel
theorem dX12_meets_53 : decode cX12_meets 53 = .ok (.lload_n 3, 1) := by decide +kernel
theorem dX12_meets_54 : decode cX12_meets 54 = .ok (.invokevirtual 255, 3) := by decide +kernel
theorem dX12_meets_57 : decode cX12_meets 57 = .ok (.aload_n 0, 1) := by decide +kernel
theorem dX12_meets_58 : decode cX12_meets 58 = .ok (.invokevirtual 233, 3) := by decide +kernel
theorem dX12_meets_6 : decode cX12_meets 6 = .ok (.lconst 0, 1) := by decide +kernel
theorem dX12_meets_61 : decode cX12_meets 61 = .ok (.l2i, 1) := by decide +kernel
theorem dX12_meets_62 : decode cX12_meets 62 = .ok (.istore 5, 2) := by decide +kernel
theorem dX12_meets_64 : decode cX12_meets 64 = .ok (.iconst 0, 1) := by decide +kernel
theorem dX12_meets_65 : decode cX12_meets 65 = .ok (.istore 6, 2) := by decide +kernel
theorem dX12_meets_67 : decode cX12_meets 67 = .ok (.iload 6, 2) := by decide +kernel
theorem dX12_meets_69 : decode cX12_meets 69 = .ok (.iload 5, 2) := by decide +kernel
theorem dX12_meets_7 : decode cX12_meets 7 = .ok (.lcmp, 1) := by decide +kernel
theorem dX12_meets_71 : decode cX12_meets 71 = .ok (.if_icmp .ge 24, 3) := by decide +kernel
theorem dX12_meets_74 : decode cX12_meets 74 = .ok (.aload_n 0, 1) := by decide +kernel
theorem dX12_meets_75 : decode cX12_meets 75 = .ok (.iload 6, 2) := by decide +kernel
theorem dX12_meets_77 : decode cX12_meets 77 = .ok (.invokevirtual 259, 3) := by decide +kernel
theorem dX12_meets_8 : decode cX12_meets 8 = .ok (.ifCond .lt 11, 3) := by decide +kernel
theorem dX12_meets_80 : decode cX12_meets 80 = .ok (.ifCond .eq 9, 3) := by decide +kernel
theorem dX12_meets_83 : decode cX12_meets 83 = .ok (.lload_n 3, 1) := by decide +kernel
theorem dX12_meets_84 : decode cX12_meets 84 = .ok (.iload 6, 2) := by decide +kernel
theorem dX12_meets_86 : decode cX12_meets 86 = .ok (.i2l, 1) := by decide +kernel
theorem dX12_meets_87 : decode cX12_meets 87 = .ok (.ladd, 1) := by decide +kernel
theorem dX12_meets_88 : decode cX12_meets 88 = .ok (.lreturn, 1) := by decide +kernel
theorem dX12_mended_0 : decode cX12_mended 0 = .ok (.aload_n 0, 1) := by decide +kernel
theorem dX12_mended_1 : decode cX12_mended 1 = .ok (.iconst 0, 1) := by decide +kernel
theorem dX12_mended_11 : decode cX12_mended 11 = .ok (.iconst 1, 1) := by decide +kernel
theorem dX12_mended_12 : decode cX12_mended 12 = .ok (.isub, 1) := by decide +kernel
theorem dX12_mended_13 : decode cX12_mended 13 = .ok (.invokestatic 124, 3) := by decide +kernel
theorem dX12_mended_16 : decode cX12_mended 16 = .ok (.ifCond .ne 5, 3) := by decide +kernel
theorem dX12_mended_19 : decode cX12_mended 19 = .ok (.iconst (-1), 1) := by decide +kernel
theorem dX12_mended_2 : decode cX12_mended 2 = .ok (.putfield 118, 3) := by decide +kernel
theorem dX12_mended_20 : decode cX12_mended 20 = .ok (.ireturn, 1) := by decide +kernel
theorem dX12_mended_5 : decode cX12_mended 5 = .ok (.iload_n 1, 1) := by decide +kernel
theorem dX12_mended_6 : decode cX12_mended 6 = .ok (.iconst 0, 1) := by decide +kernel
theorem dX12_mended_7 : decode cX12_mended 7 = .ok (.aload_n 0, 1) := by decide +kernel
theorem dX12_mended_8 : decode cX12_mended 8 = .ok (.getfield 179, 3) := by decide +kernel
theorem dX12_motor_0 : decode cX12_motor 0 = .ok (.aload_n 0, 1) := by decide +kernel
theorem dX12_motor_1 : decode cX12_motor 1 = .ok (.iconst 0, 1) := by decide +kernel
theorem dX12_motor_101 : decode cX12_motor 101 = .ok (.bipush 12, 2) := by decide +kernel
theorem dX12_motor_103 : decode cX12_motor 103 = .ok (.if_icmp .ne 5, 3) := by decide +kernel
theorem dX12_motor_108 : decode cX12_motor 108 = .ok (.iload 4, 2) := by decide +kernel
theorem dX12_motor_110 : decode cX12_motor 110 = .ok (.istore 6, 2) := by decide +kernel
theorem dX12_motor_112 : decode cX12_motor 112 = .ok (.iload 6, 2) := by decide +kernel
theorem dX12_motor_114 : decode cX12_motor 114 = .ok (.iload 5, 2) := by decide +kernel
theorem dX12_motor_116 : decode cX12_motor 116 = .ok (.if_icmp .le 61, 3) := by decide +kernel
theorem dX12_motor_12 : decode cX12_motor 12 = .ok (.iload_n 2, 1) := by decide +kernel
theorem dX12_motor_13 : decode cX12_motor 13 = .ok (.iconst 0, 1) := by decide +kernel
theorem dX12_motor_14 : decode cX12_motor 14 = .ok (.sipush 5000, 3) := by decide +kernel
theorem dX12_motor_17 : decode cX12_motor 17 = .ok (.invokestatic 124, 3) := by decide +kernel
theorem dX12_motor_177 : decode cX12_motor 177 = .ok (.aload_n 0, 1) := by decide +kernel
theorem dX12_motor_178 : decode cX12_motor 178 = .ok (.getfield 41, 3) := by decide +kernel
theorem dX12_motor_181 : decode cX12_motor 181 = .ok (.iload_n 1, 1) := by decide +kernel
theorem dX12_motor_182 : decode cX12_motor 182 = .ok (.dup2, 1) := by decide +kernel
theorem dX12_motor_183 : decode cX12_motor 183 = .ok (.iaload, 1) := by decide +kernel
theorem dX12_motor_184 : decode cX12_motor 184 = .ok (.iconst 1, 1) := by decide +kernel
theorem dX12_motor_185 : decode cX12_motor 185 = .ok (.iadd, 1) := by decide +kernel
theorem dX12_motor_186 : decode cX12_motor 186 = .ok (.iastore, 1) := by decide +kernel
theorem dX12_motor_187 : decode cX12_motor 187 = .ok (.aload_n 0, 1) := by decide +kernel
theorem dX12_motor_188 : decode cX12_motor 188 = .ok (.getfield 35, 3) := by decide +kernel
theorem dX12_motor_191 : decode cX12_motor 191 = .ok (.bipush 12, 2) := by decide +kernel
theorem dX12_motor_193 : decode cX12_motor 193 = .ok (.iload_n 1, 1) := by decide +kernel
theorem dX12_motor_194 : decode cX12_motor 194 = .ok (.imul, 1) := by decide +kernel
theorem dX12_motor_195 : decode cX12_motor 195 = .ok (.iload 5, 2) := by decide +kernel
theorem dX12_motor_197 : decode cX12_motor 197 = .ok (.iadd, 1) := by decide +kernel
theorem dX12_motor_198 : decode cX12_motor 198 = .ok (.iload_n 2, 1) := by decide +kernel
theorem dX12_motor_199 : decode cX12_motor 199 = .ok (.iastore, 1) := by decide +kernel
theorem dX12_motor_2 : decode cX12_motor 2 = .ok (.putfield 118, 3) := by decide +kernel
theorem dX12_motor_20 : decode cX12_motor 20 = .ok (.ifCond .eq 14, 3) := by decide +kernel
theorem dX12_motor_200 : decode cX12_motor 200 = .ok (.aload_n 0, 1) := by decide +kernel
theorem dX12_motor_201 : decode cX12_motor 201 = .ok (.getfield 38, 3) := by decide +kernel
theorem dX12_motor_204 : decode cX12_motor 204 = .ok (.bipush 12, 2) := by decide +kernel
theorem dX12_motor_206 : decode cX12_motor 206 = .ok (.iload_n 1, 1) := by decide +kernel
theorem dX12_motor_207 : decode cX12_motor 207 = .ok (.imul, 1) := by decide +kernel
theorem dX12_motor_208 : decode cX12_motor 208 = .ok (.iload 5, 2) := by decide +kernel
theorem dX12_motor_210 : decode cX12_motor 210 = .ok (.iadd, 1) := by decide +kernel
theorem dX12_motor_211 : decode cX12_motor 211 = .ok (.iload_n 3, 1) := by decide +kernel
theorem dX12_motor_212 : decode cX12_motor 212 = .ok (.iastore, 1) := by decide +kernel
theorem dX12_motor_213 : decode cX12_motor 213 = .ok (.iconst 1, 1) := by decide +kernel
theorem dX12_motor_214 : decode cX12_motor 214 = .ok (.ireturn, 1) := by decide +kernel
theorem dX12_motor_23 : decode cX12_motor 23 = .ok (.iload_n 3, 1) := by decide +kernel
theorem dX12_motor_24 : decode cX12_motor 24 = .ok (.bipush (-9), 2) := by decide +kernel
theorem dX12_motor_26 : decode cX12_motor 26 = .ok (.bipush 9, 2) := by decide +kernel
theorem dX12_motor_28 : decode cX12_motor 28 = .ok (.invokestatic 124, 3) := by decide +kernel
theorem dX12_motor_31 : decode cX12_motor 31 = .ok (.ifCond .ne 5, 3) := by decide +kernel
theorem dX12_motor_34 : decode cX12_motor 34 = .ok (.iconst 0, 1) := by decide +kernel
theorem dX12_motor_35 : decode cX12_motor 35 = .ok (.ireturn, 1) := by decide +kernel
theorem dX12_motor_36 : decode cX12_motor 36 = .ok (.aload_n 0, 1) := by decide +kernel
theorem dX12_motor_37 : decode cX12_motor 37 = .ok (.getfield 41, 3) := by decide +kernel
theorem dX12_motor_40 : decode cX12_motor 40 = .ok (.iload_n 1, 1) := by decide +kernel
theorem dX12_motor_41 : decode cX12_motor 41 = .ok (.iaload, 1) := by decide +kernel
theorem dX12_motor_42 : decode cX12_motor 42 = .ok (.istore 4, 2) := by decide +kernel
theorem dX12_motor_44 : decode cX12_motor 44 = .ok (.iconst 0, 1) := by decide +kernel
theorem dX12_motor_45 : decode cX12_motor 45 = .ok (.istore 5, 2) := by decide +kernel
theorem dX12_motor_47 : decode cX12_motor 47 = .ok (.iload 5, 2) := by decide +kernel
theorem dX12_motor_49 : decode cX12_motor 49 = .ok (.iload 4, 2) := by decide +kernel
theorem dX12_motor_5 : decode cX12_motor 5 = .ok (.iload_n 1, 1) := by decide +kernel
theorem dX12_motor_51 : decode cX12_motor 51 = .ok (.if_icmp .ge 25, 3) := by decide +kernel
theorem dX12_motor_6 : decode cX12_motor 6 = .ok (.invokestatic 165, 3) := by decide +kernel
theorem dX12_motor_76 : decode cX12_motor 76 = .ok (.iload 5, 2) := by decide +kernel
theorem dX12_motor_78 : decode cX12_motor 78 = .ok (.iload 4, 2) := by decide +kernel
theorem dX12_motor_80 : decode cX12_motor 80 = .ok (.if_icmp .eq 19, 3) := by decide +kernel
theorem dX12_motor_9 : decode cX12_motor 9 = .ok (.ifCond .eq 25, 3) := by decide +kernel
theorem dX12_motor_99 : decode cX12_motor 99 = .ok (.iload 4, 2) := by decide +kernel
theorem dX12_of_0 : decode cX12_of 0 = .ok (.aload_n 0, 1) := by decide +kernel
theorem dX12_of_1 : decode cX12_of 1 = .ok (.iconst 0, 1) := by decide +kernel
theorem dX12_of_10 : decode cX12_of 10 = .ok (.ifCond .eq 12, 3) := by decide +kernel
theorem dX12_of_2 : decode cX12_of 2 = .ok (.putfield 118, 3) := by decide +kernel
theorem dX12_of_22 : decode cX12_of 22 = .ok (.aload_n 0, 1) := by decide +kernel
theorem dX12_of_23 : decode cX12_of 23 = .ok (.iconst 1, 1) := by decide +kernel
theorem dX12_of_24 : decode cX12_of 24 = .ok (.putfield 118, 3) := by decide +kernel
theorem dX12_of_27 : decode cX12_of 27 = .ok (.iconst 0, 1) := by decide +kernel
theorem dX12_of_28 : decode cX12_of 28 = .ok (.ireturn, 1) := by decide +kernel
theorem dX12_of_5 : decode cX12_of 5 = .ok (.aload_n 0, 1) := by decide +kernel
theorem dX12_of_6 : decode cX12_of 6 = .ok (.iload_n 1, 1) := by decide +kernel
theorem dX12_of_7 : decode cX12_of 7 = .ok (.invokevirtual 168, 3) := by decide +kernel
theorem dX12_often_0 : decode cX12_often 0 = .ok (.aload_n 0, 1) := by decide +kernel
theorem dX12_often_1 : decode cX12_often 1 = .ok (.iconst 0, 1) := by decide +kernel
theorem dX12_often_10 : decode cX12_often 10 = .ok (.i2l, 1) := by decide +kernel
theorem dX12_often_11 : decode cX12_often 11 = .ok (.invokevirtual 255, 3) := by decide +kernel
theorem dX12_often_14 : decode cX12_often 14 = .ok (.aload_n 0, 1) := by decide +kernel
theorem dX12_often_15 : decode cX12_often 15 = .ok (.invokevirtual 233, 3) := by decide +kernel
theorem dX12_often_18 : decode cX12_often 18 = .ok (.l2i, 1) := by decide +kernel
theorem dX12_often_19 : decode cX12_often 19 = .ok (.istore_n 1, 1) := by decide +kernel
theorem dX12_often_2 : decode cX12_often 2 = .ok (.putfield 118, 3) := by decide +kernel
theorem dX12_often_20 : decode cX12_often 20 = .ok (.lconst 0, 1) := by decide +kernel
theorem dX12_often_21 : decode cX12_often 21 = .ok (.lstore_n 2, 1) := by decide +kernel
theorem dX12_often_22 : decode cX12_often 22 = .ok (.iconst 0, 1) := by decide +kernel
theorem dX12_often_23 : decode cX12_often 23 = .ok (.istore 4, 2) := by decide +kernel
theorem dX12_often_25 : decode cX12_often 25 = .ok (.iload 4, 2) := by decide +kernel
theorem dX12_often_27 : decode cX12_often 27 = .ok (.iload_n 1, 1) := by decide +kernel
theorem dX12_often_28 : decode cX12_often 28 = .ok (.if_icmp .ge 22, 3) := by decide +kernel
theorem dX12_often_31 : decode cX12_often 31 = .ok (.aload_n 0, 1) := by decide +kernel
theorem dX12_often_32 : decode cX12_often 32 = .ok (.iload 4, 2) := by decide +kernel
theorem dX12_often_34 : decode cX12_often 34 = .ok (.invokevirtual 259, 3) := by decide +kernel
theorem dX12_often_37 : decode cX12_often 37 = .ok (.ifCond .eq 7, 3) := by decide +kernel
theorem dX12_often_40 : decode cX12_often 40 = .ok (.lload_n 2, 1) := by decide +kernel
theorem dX12_often_41 : decode cX12_often 41 = .ok (.lconst 1, 1) := by decide +kernel
theorem dX12_often_42 : decode cX12_often 42 = .ok (.ladd, 1) := by decide +kernel
theorem dX12_often_43 : decode cX12_often 43 = .ok (.lstore_n 2, 1) := by decide +kernel
theorem dX12_often_44 : decode cX12_often 44 = .ok (.iinc 4 1, 3) := by decide +kernel
theorem dX12_often_47 : decode cX12_often 47 = .ok (.goto (-22), 3) := by decide +kernel
theorem dX12_often_5 : decode cX12_often 5 = .ok (.aload_n 0, 1) := by decide +kernel
theorem dX12_often_50 : decode cX12_often 50 = .ok (.lload_n 2, 1) := by decide +kernel
theorem dX12_often_51 : decode cX12_often 51 = .ok (.lreturn, 1) := by decide +kernel
theorem dX12_often_6 : decode cX12_often 6 = .ok (.aload_n 0, 1) := by decide +kernel
theorem dX12_often_7 : decode cX12_often 7 = .ok (.invokevirtual 247, 3) := by decide +kernel
theorem dX12_out_0 : decode cX12_out 0 = .ok (.aload_n 0, 1) := by decide +kernel
theorem dX12_out_1 : decode cX12_out 1 = .ok (.iconst 0, 1) := by decide +kernel
theorem dX12_out_10 : decode cX12_out 10 = .ok (.invokestatic 124, 3) := by decide +kernel
theorem dX12_out_13 : decode cX12_out 13 = .ok (.ifCond .ne 5, 3) := by decide +kernel
theorem dX12_out_16 : decode cX12_out 16 = .ok (.iconst (-1), 1) := by decide +kernel
theorem dX12_out_17 : decode cX12_out 17 = .ok (.ireturn, 1) := by decide +kernel
theorem dX12_out_18 : decode cX12_out 18 = .ok (.aload_n 0, 1) := by decide +kernel
theorem dX12_out_19 : decode cX12_out 19 = .ok (.iload_n 1, 1) := by decide +kernel
theorem dX12_out_2 : decode cX12_out 2 = .ok (.putfield 118, 3) := by decide +kernel
theorem dX12_out_20 : decode cX12_out 20 = .ok (.invokevirtual 286, 3) := by decide +kernel
theorem dX12_out_23 : decode cX12_out 23 = .ok (.aload_n 0, 1) := by decide +kernel
theorem dX12_out_24 : decode cX12_out 24 = .ok (.getfield 106, 3) := by decide +kernel
theorem dX12_out_27 : decode cX12_out 27 = .ok (.iload_n 1, 1) := by decide +kernel
theorem dX12_out_28 : decode cX12_out 28 = .ok (.iaload, 1) := by decide +kernel
theorem dX12_out_29 : decode cX12_out 29 = .ok (.ireturn, 1) := by decide +kernel
theorem dX12_out_5 : decode cX12_out 5 = .ok (.iload_n 1, 1) := by decide +kernel
theorem dX12_out_6 : decode cX12_out 6 = .ok (.iconst 0, 1) := by decide +kernel
theorem dX12_out_7 : decode cX12_out 7 = .ok (.sipush 4000, 3) := by decide +kernel
theorem dX12_over_0 : decode cX12_over 0 = .ok (.aload_n 0, 1) := by decide +kernel
theorem dX12_over_1 : decode cX12_over 1 = .ok (.iconst 0, 1) := by decide +kernel
theorem dX12_over_10 : decode cX12_over 10 = .ok (.ifCond .eq 35, 3) := by decide +kernel
theorem dX12_over_2 : decode cX12_over 2 = .ok (.putfield 118, 3) := by decide +kernel
theorem dX12_over_45 : decode cX12_over 45 = .ok (.iconst (-1), 1) := by decide +kernel
theorem dX12_over_46 : decode cX12_over 46 = .ok (.ireturn, 1) := by decide +kernel
theorem dX12_over_5 : decode cX12_over 5 = .ok (.aload_n 0, 1) := by decide +kernel
theorem dX12_over_6 : decode cX12_over 6 = .ok (.iload_n 1, 1) := by decide +kernel
theorem dX12_over_7 : decode cX12_over 7 = .ok (.invokevirtual 168, 3) := by decide +kernel
theorem dX12_pairAt_0 : decode cX12_pairAt 0 = .ok (.iload_n 1, 1) := by decide +kernel
theorem dX12_pairAt_1 : decode cX12_pairAt 1 = .ok (.istore_n 2, 1) := by decide +kernel
theorem dX12_pairAt_10 : decode cX12_pairAt 10 = .ok (.iconst 1, 1) := by decide +kernel
theorem dX12_pairAt_11 : decode cX12_pairAt 11 = .ok (.iload_n 3, 1) := by decide +kernel
theorem dX12_pairAt_12 : decode cX12_pairAt 12 = .ok (.bipush 24, 2) := by decide +kernel
theorem dX12_pairAt_14 : decode cX12_pairAt 14 = .ok (.isub, 1) := by decide +kernel
theorem dX12_pairAt_15 : decode cX12_pairAt 15 = .ok (.invokestatic 240, 3) := by decide +kernel
theorem dX12_pairAt_18 : decode cX12_pairAt 18 = .ok (.istore 4, 2) := by decide +kernel
theorem dX12_pairAt_2 : decode cX12_pairAt 2 = .ok (.iconst 2, 1) := by decide +kernel
theorem dX12_pairAt_20 : decode cX12_pairAt 20 = .ok (.iconst 2, 1) := by decide +kernel
theorem dX12_pairAt_21 : decode cX12_pairAt 21 = .ok (.iload 4, 2) := by decide +kernel
theorem dX12_pairAt_23 : decode cX12_pairAt 23 = .ok (.imul, 1) := by decide +kernel
theorem dX12_pairAt_24 : decode cX12_pairAt 24 = .ok (.iload_n 3, 1) := by decide +kernel
theorem dX12_pairAt_25 : decode cX12_pairAt 25 = .ok (.if_icmp .gt 43, 3) := by decide +kernel
theorem dX12_pairAt_28 : decode cX12_pairAt 28 = .ok (.aload_n 0, 1) := by decide +kernel
theorem dX12_pairAt_29 : decode cX12_pairAt 29 = .ok (.iload 4, 2) := by decide +kernel
theorem dX12_pairAt_3 : decode cX12_pairAt 3 = .ok (.istore_n 3, 1) := by decide +kernel
theorem dX12_pairAt_31 : decode cX12_pairAt 31 = .ok (.iload_n 3, 1) := by decide +kernel
theorem dX12_pairAt_32 : decode cX12_pairAt 32 = .ok (.iload 4, 2) := by decide +kernel
theorem dX12_pairAt_34 : decode cX12_pairAt 34 = .ok (.isub, 1) := by decide +kernel
theorem dX12_pairAt_35 : decode cX12_pairAt 35 = .ok (.invokevirtual 299, 3) := by decide +kernel
theorem dX12_pairAt_38 : decode cX12_pairAt 38 = .ok (.ifCond .ne 6, 3) := by decide +kernel
theorem dX12_pairAt_4 : decode cX12_pairAt 4 = .ok (.iload_n 3, 1) := by decide +kernel
theorem dX12_pairAt_44 : decode cX12_pairAt 44 = .ok (.iload_n 2, 1) := by decide +kernel
theorem dX12_pairAt_45 : decode cX12_pairAt 45 = .ok (.ifCond .ne 14, 3) := by decide +kernel
theorem dX12_pairAt_48 : decode cX12_pairAt 48 = .ok (.bipush 100, 2) := by decide +kernel
theorem dX12_pairAt_5 : decode cX12_pairAt 5 = .ok (.bipush 48, 2) := by decide +kernel
theorem dX12_pairAt_50 : decode cX12_pairAt 50 = .ok (.iload 4, 2) := by decide +kernel
theorem dX12_pairAt_52 : decode cX12_pairAt 52 = .ok (.imul, 1) := by decide +kernel
theorem dX12_pairAt_53 : decode cX12_pairAt 53 = .ok (.iload_n 3, 1) := by decide +kernel
theorem dX12_pairAt_54 : decode cX12_pairAt 54 = .ok (.iadd, 1) := by decide +kernel
theorem dX12_pairAt_55 : decode cX12_pairAt 55 = .ok (.iload 4, 2) := by decide +kernel
theorem dX12_pairAt_57 : decode cX12_pairAt 57 = .ok (.isub, 1) := by decide +kernel
theorem dX12_pairAt_58 : decode cX12_pairAt 58 = .ok (.ireturn, 1) := by decide +kernel
theorem dX12_pairAt_59 : decode cX12_pairAt 59 = .ok (.iinc 2 (-1), 3) := by decide +kernel
theorem dX12_pairAt_62 : decode cX12_pairAt 62 = .ok (.iinc 4 1, 3) := by decide +kernel
theorem dX12_pairAt_65 : decode cX12_pairAt 65 = .ok (.goto (-45), 3) := by decide +kernel
theorem dX12_pairAt_68 : decode cX12_pairAt 68 = .ok (.iinc 3 1, 3) := by decide +kernel
theorem dX12_pairAt_7 : decode cX12_pairAt 7 = .ok (.if_icmp .gt 67, 3) := by decide +kernel
theorem dX12_pairAt_71 : decode cX12_pairAt 71 = .ok (.goto (-67), 3) := by decide +kernel
theorem dX12_pairAt_74 : decode cX12_pairAt 74 = .ok (.iconst (-1), 1) := by decide +kernel
theorem dX12_pairAt_75 : decode cX12_pairAt 75 = .ok (.ireturn, 1) := by decide +kernel
theorem dX12_pair_0 : decode cX12_pair 0 = .ok (.aload_n 0, 1) := by decide +kernel
theorem dX12_pair_1 : decode cX12_pair 1 = .ok (.iconst 0, 1) := by decide +kernel
theorem dX12_pair_10 : decode cX12_pair 10 = .ok (.goto 8, 3) := by decide +kernel
theorem dX12_pair_13 : decode cX12_pair 13 = .ok (.aload_n 0, 1) := by decide +kernel
theorem dX12_pair_14 : decode cX12_pair 14 = .ok (.iload_n 1, 1) := by decide +kernel
theorem dX12_pair_15 : decode cX12_pair 15 = .ok (.invokevirtual 302, 3) := by decide +kernel
theorem dX12_pair_18 : decode cX12_pair 18 = .ok (.ireturn, 1) := by decide +kernel
theorem dX12_pair_2 : decode cX12_pair 2 = .ok (.putfield 118, 3) := by decide +kernel
theorem dX12_pair_5 : decode cX12_pair 5 = .ok (.iload_n 1, 1) := by decide +kernel
theorem dX12_pair_6 : decode cX12_pair 6 = .ok (.ifCond .ge 7, 3) := by decide +kernel
theorem dX12_pair_9 : decode cX12_pair 9 = .ok (.iconst (-1), 1) := by decide +kernel
theorem dX12_piece_0 : decode cX12_piece 0 = .ok (.aload_n 0, 1) := by decide +kernel
theorem dX12_piece_1 : decode cX12_piece 1 = .ok (.iconst 0, 1) := by decide +kernel
theorem dX12_piece_102 : decode cX12_piece 102 = .ok (.iload_n 2, 1) := by decide +kernel
theorem dX12_piece_103 : decode cX12_piece 103 = .ok (.iastore, 1) := by decide +kernel
theorem dX12_piece_104 : decode cX12_piece 104 = .ok (.aload_n 0, 1) := by decide +kernel
theorem dX12_piece_105 : decode cX12_piece 105 = .ok (.dup, 1) := by decide +kernel
theorem dX12_piece_106 : decode cX12_piece 106 = .ok (.getfield 182, 3) := by decide +kernel
theorem dX12_piece_109 : decode cX12_piece 109 = .ok (.iconst 1, 1) := by decide +kernel
theorem dX12_piece_110 : decode cX12_piece 110 = .ok (.iadd, 1) := by decide +kernel
theorem dX12_piece_111 : decode cX12_piece 111 = .ok (.putfield 182, 3) := by decide +kernel
theorem dX12_piece_114 : decode cX12_piece 114 = .ok (.aload_n 0, 1) := by decide +kernel
theorem dX12_piece_115 : decode cX12_piece 115 = .ok (.getfield 182, 3) := by decide +kernel
theorem dX12_piece_118 : decode cX12_piece 118 = .ok (.iconst 1, 1) := by decide +kernel
theorem dX12_piece_119 : decode cX12_piece 119 = .ok (.isub, 1) := by decide +kernel
theorem dX12_piece_12 : decode cX12_piece 12 = .ok (.ifCond .eq 11, 3) := by decide +kernel
theorem dX12_piece_120 : decode cX12_piece 120 = .ok (.ireturn, 1) := by decide +kernel
theorem dX12_piece_15 : decode cX12_piece 15 = .ok (.aload_n 0, 1) := by decide +kernel
theorem dX12_piece_16 : decode cX12_piece 16 = .ok (.getfield 182, 3) := by decide +kernel
theorem dX12_piece_19 : decode cX12_piece 19 = .ok (.iconst 5, 1) := by decide +kernel
theorem dX12_piece_2 : decode cX12_piece 2 = .ok (.putfield 118, 3) := by decide +kernel
theorem dX12_piece_20 : decode cX12_piece 20 = .ok (.if_icmp .ne 5, 3) := by decide +kernel
theorem dX12_piece_23 : decode cX12_piece 23 = .ok (.iconst (-1), 1) := by decide +kernel
theorem dX12_piece_24 : decode cX12_piece 24 = .ok (.ireturn, 1) := by decide +kernel
theorem dX12_piece_25 : decode cX12_piece 25 = .ok (.iconst 0, 1) := by decide +kernel
theorem dX12_piece_26 : decode cX12_piece 26 = .ok (.istore_n 3, 1) := by decide +kernel
theorem dX12_piece_27 : decode cX12_piece 27 = .ok (.iload_n 3, 1) := by decide +kernel
theorem dX12_piece_28 : decode cX12_piece 28 = .ok (.iload_n 2, 1) := by decide +kernel
theorem dX12_piece_29 : decode cX12_piece 29 = .ok (.if_icmp .ge 27, 3) := by decide +kernel
theorem dX12_piece_32 : decode cX12_piece 32 = .ok (.iload_n 1, 1) := by decide +kernel
theorem dX12_piece_33 : decode cX12_piece 33 = .ok (.bipush 28, 2) := by decide +kernel
theorem dX12_piece_35 : decode cX12_piece 35 = .ok (.iconst 4, 1) := by decide +kernel
theorem dX12_piece_36 : decode cX12_piece 36 = .ok (.iload_n 3, 1) := by decide +kernel
theorem dX12_piece_37 : decode cX12_piece 37 = .ok (.imul, 1) := by decide +kernel
theorem dX12_piece_38 : decode cX12_piece 38 = .ok (.isub, 1) := by decide +kernel
theorem dX12_piece_39 : decode cX12_piece 39 = .ok (.iushr, 1) := by decide +kernel
theorem dX12_piece_40 : decode cX12_piece 40 = .ok (.bipush 15, 2) := by decide +kernel
theorem dX12_piece_42 : decode cX12_piece 42 = .ok (.iand, 1) := by decide +kernel
theorem dX12_piece_43 : decode cX12_piece 43 = .ok (.bipush 9, 2) := by decide +kernel
theorem dX12_piece_45 : decode cX12_piece 45 = .ok (.if_icmp .le 5, 3) := by decide +kernel
theorem dX12_piece_48 : decode cX12_piece 48 = .ok (.iconst (-1), 1) := by decide +kernel
theorem dX12_piece_49 : decode cX12_piece 49 = .ok (.ireturn, 1) := by decide +kernel
theorem dX12_piece_5 : decode cX12_piece 5 = .ok (.iload_n 2, 1) := by decide +kernel
theorem dX12_piece_50 : decode cX12_piece 50 = .ok (.iinc 3 1, 3) := by decide +kernel
theorem dX12_piece_53 : decode cX12_piece 53 = .ok (.goto (-26), 3) := by decide +kernel
theorem dX12_piece_56 : decode cX12_piece 56 = .ok (.iconst 0, 1) := by decide +kernel
theorem dX12_piece_57 : decode cX12_piece 57 = .ok (.istore_n 3, 1) := by decide +kernel
theorem dX12_piece_58 : decode cX12_piece 58 = .ok (.iload_n 3, 1) := by decide +kernel
theorem dX12_piece_59 : decode cX12_piece 59 = .ok (.iload_n 2, 1) := by decide +kernel
theorem dX12_piece_6 : decode cX12_piece 6 = .ok (.iconst 1, 1) := by decide +kernel
theorem dX12_piece_60 : decode cX12_piece 60 = .ok (.if_icmp .ge 34, 3) := by decide +kernel
theorem dX12_piece_63 : decode cX12_piece 63 = .ok (.aload_n 0, 1) := by decide +kernel
theorem dX12_piece_64 : decode cX12_piece 64 = .ok (.getfield 63, 3) := by decide +kernel
theorem dX12_piece_67 : decode cX12_piece 67 = .ok (.bipush 8, 2) := by decide +kernel
theorem dX12_piece_69 : decode cX12_piece 69 = .ok (.aload_n 0, 1) := by decide +kernel
theorem dX12_piece_7 : decode cX12_piece 7 = .ok (.bipush 8, 2) := by decide +kernel
theorem dX12_piece_70 : decode cX12_piece 70 = .ok (.getfield 182, 3) := by decide +kernel
theorem dX12_piece_73 : decode cX12_piece 73 = .ok (.imul, 1) := by decide +kernel
theorem dX12_piece_74 : decode cX12_piece 74 = .ok (.iload_n 3, 1) := by decide +kernel
theorem dX12_piece_75 : decode cX12_piece 75 = .ok (.iadd, 1) := by decide +kernel
theorem dX12_piece_76 : decode cX12_piece 76 = .ok (.iload_n 1, 1) := by decide +kernel
theorem dX12_piece_77 : decode cX12_piece 77 = .ok (.bipush 28, 2) := by decide +kernel
theorem dX12_piece_79 : decode cX12_piece 79 = .ok (.iconst 4, 1) := by decide +kernel
theorem dX12_piece_80 : decode cX12_piece 80 = .ok (.iload_n 3, 1) := by decide +kernel
theorem dX12_piece_81 : decode cX12_piece 81 = .ok (.imul, 1) := by decide +kernel
theorem dX12_piece_82 : decode cX12_piece 82 = .ok (.isub, 1) := by decide +kernel
theorem dX12_piece_83 : decode cX12_piece 83 = .ok (.iushr, 1) := by decide +kernel
theorem dX12_piece_84 : decode cX12_piece 84 = .ok (.bipush 15, 2) := by decide +kernel
theorem dX12_piece_86 : decode cX12_piece 86 = .ok (.iand, 1) := by decide +kernel
theorem dX12_piece_87 : decode cX12_piece 87 = .ok (.iastore, 1) := by decide +kernel
theorem dX12_piece_88 : decode cX12_piece 88 = .ok (.iinc 3 1, 3) := by decide +kernel
theorem dX12_piece_9 : decode cX12_piece 9 = .ok (.invokestatic 124, 3) := by decide +kernel
theorem dX12_piece_91 : decode cX12_piece 91 = .ok (.goto (-33), 3) := by decide +kernel
theorem dX12_piece_94 : decode cX12_piece 94 = .ok (.aload_n 0, 1) := by decide +kernel
theorem dX12_piece_95 : decode cX12_piece 95 = .ok (.getfield 66, 3) := by decide +kernel
theorem dX12_piece_98 : decode cX12_piece 98 = .ok (.aload_n 0, 1) := by decide +kernel
theorem dX12_piece_99 : decode cX12_piece 99 = .ok (.getfield 182, 3) := by decide +kernel
theorem dX12_plan_0 : decode cX12_plan 0 = .ok (.aload_n 0, 1) := by decide +kernel
theorem dX12_plan_1 : decode cX12_plan 1 = .ok (.iconst 0, 1) := by decide +kernel
theorem dX12_plan_2 : decode cX12_plan 2 = .ok (.putfield 118, 3) := by decide +kernel
theorem dX12_plan_5 : decode cX12_plan 5 = .ok (.aload_n 0, 1) := by decide +kernel
theorem dX12_plan_6 : decode cX12_plan 6 = .ok (.invokevirtual 274, 3) := by decide +kernel
theorem dX12_plan_9 : decode cX12_plan 9 = .ok (.ireturn, 1) := by decide +kernel
theorem dX12_ring_0 : decode cX12_ring 0 = .ok (.aload_n 0, 1) := by decide +kernel
theorem dX12_ring_1 : decode cX12_ring 1 = .ok (.iconst 0, 1) := by decide +kernel
theorem dX12_ring_2 : decode cX12_ring 2 = .ok (.putfield 118, 3) := by decide +kernel
theorem dX12_ring_41 : decode cX12_ring 41 = .ok (.iconst (-1), 1) := by decide +kernel
theorem dX12_ring_42 : decode cX12_ring 42 = .ok (.ireturn, 1) := by decide +kernel
theorem dX12_ring_5 : decode cX12_ring 5 = .ok (.aload_n 0, 1) := by decide +kernel
theorem dX12_ring_6 : decode cX12_ring 6 = .ok (.getfield 162, 3) := by decide +kernel
theorem dX12_ring_9 : decode cX12_ring 9 = .ok (.ifCond .eq 32, 3) := by decide +kernel
theorem dX12_row_0 : decode cX12_row 0 = .ok (.aload_n 0, 1) := by decide +kernel
theorem dX12_row_1 : decode cX12_row 1 = .ok (.iconst 0, 1) := by decide +kernel
theorem dX12_row_11 : decode cX12_row 11 = .ok (.iconst 1, 1) := by decide +kernel
theorem dX12_row_12 : decode cX12_row 12 = .ok (.isub, 1) := by decide +kernel
theorem dX12_row_13 : decode cX12_row 13 = .ok (.invokestatic 124, 3) := by decide +kernel
theorem dX12_row_16 : decode cX12_row 16 = .ok (.ifCond .ne 10, 3) := by decide +kernel
theorem dX12_row_19 : decode cX12_row 19 = .ok (.aload_n 0, 1) := by decide +kernel
theorem dX12_row_2 : decode cX12_row 2 = .ok (.putfield 118, 3) := by decide +kernel
theorem dX12_row_20 : decode cX12_row 20 = .ok (.iconst 1, 1) := by decide +kernel
theorem dX12_row_21 : decode cX12_row 21 = .ok (.putfield 118, 3) := by decide +kernel
theorem dX12_row_24 : decode cX12_row 24 = .ok (.iconst 0, 1) := by decide +kernel
theorem dX12_row_25 : decode cX12_row 25 = .ok (.ireturn, 1) := by decide +kernel
theorem dX12_row_5 : decode cX12_row 5 = .ok (.iload_n 1, 1) := by decide +kernel
theorem dX12_row_6 : decode cX12_row 6 = .ok (.iconst 0, 1) := by decide +kernel
theorem dX12_row_7 : decode cX12_row 7 = .ok (.aload_n 0, 1) := by decide +kernel
theorem dX12_row_8 : decode cX12_row 8 = .ok (.getfield 188, 3) := by decide +kernel
theorem dX12_set_0 : decode cX12_set 0 = .ok (.aload_n 0, 1) := by decide +kernel
theorem dX12_set_1 : decode cX12_set 1 = .ok (.iconst 0, 1) := by decide +kernel
theorem dX12_set_10 : decode cX12_set 10 = .ok (.ifCond .eq 42, 3) := by decide +kernel
theorem dX12_set_2 : decode cX12_set 2 = .ok (.putfield 118, 3) := by decide +kernel
theorem dX12_set_5 : decode cX12_set 5 = .ok (.aload_n 0, 1) := by decide +kernel
theorem dX12_set_52 : decode cX12_set 52 = .ok (.iconst (-1), 1) := by decide +kernel
theorem dX12_set_53 : decode cX12_set 53 = .ok (.ireturn, 1) := by decide +kernel
theorem dX12_set_6 : decode cX12_set 6 = .ok (.iload_n 1, 1) := by decide +kernel
theorem dX12_set_7 : decode cX12_set 7 = .ok (.invokevirtual 168, 3) := by decide +kernel
theorem dX12_sign_0 : decode cX12_sign 0 = .ok (.aload_n 0, 1) := by decide +kernel
theorem dX12_sign_1 : decode cX12_sign 1 = .ok (.iconst 0, 1) := by decide +kernel
theorem dX12_sign_10 : decode cX12_sign 10 = .ok (.iadd, 1) := by decide +kernel
theorem dX12_sign_11 : decode cX12_sign 11 = .ok (.bipush 100, 2) := by decide +kernel
theorem dX12_sign_13 : decode cX12_sign 13 = .ok (.if_icmp .le 5, 3) := by decide +kernel
theorem dX12_sign_18 : decode cX12_sign 18 = .ok (.aload_n 0, 1) := by decide +kernel
theorem dX12_sign_19 : decode cX12_sign 19 = .ok (.getfield 9, 3) := by decide +kernel
theorem dX12_sign_2 : decode cX12_sign 2 = .ok (.putfield 118, 3) := by decide +kernel
theorem dX12_sign_22 : decode cX12_sign 22 = .ok (.aload_n 0, 1) := by decide +kernel
theorem dX12_sign_23 : decode cX12_sign 23 = .ok (.getfield 128, 3) := by decide +kernel
theorem dX12_sign_26 : decode cX12_sign 26 = .ok (.iload_n 1, 1) := by decide +kernel
theorem dX12_sign_27 : decode cX12_sign 27 = .ok (.bipush 24, 2) := by decide +kernel
theorem dX12_sign_29 : decode cX12_sign 29 = .ok (.ishr, 1) := by decide +kernel
theorem dX12_sign_30 : decode cX12_sign 30 = .ok (.i2b, 1) := by decide +kernel
theorem dX12_sign_31 : decode cX12_sign 31 = .ok (.bastore, 1) := by decide +kernel
theorem dX12_sign_32 : decode cX12_sign 32 = .ok (.aload_n 0, 1) := by decide +kernel
theorem dX12_sign_33 : decode cX12_sign 33 = .ok (.getfield 9, 3) := by decide +kernel
theorem dX12_sign_36 : decode cX12_sign 36 = .ok (.aload_n 0, 1) := by decide +kernel
theorem dX12_sign_37 : decode cX12_sign 37 = .ok (.getfield 128, 3) := by decide +kernel
theorem dX12_sign_40 : decode cX12_sign 40 = .ok (.iconst 1, 1) := by decide +kernel
theorem dX12_sign_41 : decode cX12_sign 41 = .ok (.iadd, 1) := by decide +kernel
theorem dX12_sign_42 : decode cX12_sign 42 = .ok (.iload_n 1, 1) := by decide +kernel
theorem dX12_sign_43 : decode cX12_sign 43 = .ok (.bipush 16, 2) := by decide +kernel
theorem dX12_sign_45 : decode cX12_sign 45 = .ok (.ishr, 1) := by decide +kernel
theorem dX12_sign_46 : decode cX12_sign 46 = .ok (.i2b, 1) := by decide +kernel
theorem dX12_sign_47 : decode cX12_sign 47 = .ok (.bastore, 1) := by decide +kernel
theorem dX12_sign_48 : decode cX12_sign 48 = .ok (.aload_n 0, 1) := by decide +kernel
theorem dX12_sign_49 : decode cX12_sign 49 = .ok (.getfield 9, 3) := by decide +kernel
theorem dX12_sign_5 : decode cX12_sign 5 = .ok (.aload_n 0, 1) := by decide +kernel
theorem dX12_sign_52 : decode cX12_sign 52 = .ok (.aload_n 0, 1) := by decide +kernel
theorem dX12_sign_53 : decode cX12_sign 53 = .ok (.getfield 128, 3) := by decide +kernel
theorem dX12_sign_56 : decode cX12_sign 56 = .ok (.iconst 2, 1) := by decide +kernel
theorem dX12_sign_57 : decode cX12_sign 57 = .ok (.iadd, 1) := by decide +kernel
theorem dX12_sign_58 : decode cX12_sign 58 = .ok (.iload_n 1, 1) := by decide +kernel
theorem dX12_sign_59 : decode cX12_sign 59 = .ok (.bipush 8, 2) := by decide +kernel
theorem dX12_sign_6 : decode cX12_sign 6 = .ok (.getfield 128, 3) := by decide +kernel
theorem dX12_sign_61 : decode cX12_sign 61 = .ok (.ishr, 1) := by decide +kernel
theorem dX12_sign_62 : decode cX12_sign 62 = .ok (.i2b, 1) := by decide +kernel
theorem dX12_sign_63 : decode cX12_sign 63 = .ok (.bastore, 1) := by decide +kernel
theorem dX12_sign_64 : decode cX12_sign 64 = .ok (.aload_n 0, 1) := by decide +kernel
theorem dX12_sign_65 : decode cX12_sign 65 = .ok (.getfield 9, 3) := by decide +kernel
theorem dX12_sign_68 : decode cX12_sign 68 = .ok (.aload_n 0, 1) := by decide +kernel
theorem dX12_sign_69 : decode cX12_sign 69 = .ok (.getfield 128, 3) := by decide +kernel
theorem dX12_sign_72 : decode cX12_sign 72 = .ok (.iconst 3, 1) := by decide +kernel
theorem dX12_sign_73 : decode cX12_sign 73 = .ok (.iadd, 1) := by decide +kernel
theorem dX12_sign_74 : decode cX12_sign 74 = .ok (.iload_n 1, 1) := by decide +kernel
theorem dX12_sign_75 : decode cX12_sign 75 = .ok (.i2b, 1) := by decide +kernel
theorem dX12_sign_76 : decode cX12_sign 76 = .ok (.bastore, 1) := by decide +kernel
theorem dX12_sign_77 : decode cX12_sign 77 = .ok (.aload_n 0, 1) := by decide +kernel
theorem dX12_sign_78 : decode cX12_sign 78 = .ok (.dup, 1) := by decide +kernel
theorem dX12_sign_79 : decode cX12_sign 79 = .ok (.getfield 128, 3) := by decide +kernel
theorem dX12_sign_82 : decode cX12_sign 82 = .ok (.iconst 4, 1) := by decide +kernel
theorem dX12_sign_83 : decode cX12_sign 83 = .ok (.iadd, 1) := by decide +kernel
theorem dX12_sign_84 : decode cX12_sign 84 = .ok (.putfield 128, 3) := by decide +kernel
theorem dX12_sign_87 : decode cX12_sign 87 = .ok (.aload_n 0, 1) := by decide +kernel
theorem dX12_sign_88 : decode cX12_sign 88 = .ok (.getfield 128, 3) := by decide +kernel
theorem dX12_sign_9 : decode cX12_sign 9 = .ok (.iconst 4, 1) := by decide +kernel
theorem dX12_sign_91 : decode cX12_sign 91 = .ok (.ireturn, 1) := by decide +kernel
theorem dX12_skipAtom_0 : decode cX12_skipAtom 0 = .ok (.aload_n 0, 1) := by decide +kernel
theorem dX12_skipAtom_1 : decode cX12_skipAtom 1 = .ok (.bipush 48, 2) := by decide +kernel
theorem dX12_skipAtom_112 : decode cX12_skipAtom 112 = .ok (.aload_n 0, 1) := by decide +kernel
theorem dX12_skipAtom_113 : decode cX12_skipAtom 113 = .ok (.bipush 40, 2) := by decide +kernel
theorem dX12_skipAtom_115 : decode cX12_skipAtom 115 = .ok (.bipush 40, 2) := by decide +kernel
theorem dX12_skipAtom_117 : decode cX12_skipAtom 117 = .ok (.invokevirtual 141, 3) := by decide +kernel
theorem dX12_skipAtom_120 : decode cX12_skipAtom 120 = .ok (.ifCond .eq 8, 3) := by decide +kernel
theorem dX12_skipAtom_128 : decode cX12_skipAtom 128 = .ok (.aload_n 0, 1) := by decide +kernel
theorem dX12_skipAtom_129 : decode cX12_skipAtom 129 = .ok (.invokevirtual 145, 3) := by decide +kernel
theorem dX12_skipAtom_132 : decode cX12_skipAtom 132 = .ok (.ireturn, 1) := by decide +kernel
theorem dX12_skipAtom_23 : decode cX12_skipAtom 23 = .ok (.aload_n 0, 1) := by decide +kernel
theorem dX12_skipAtom_24 : decode cX12_skipAtom 24 = .ok (.bipush 91, 2) := by decide +kernel
theorem dX12_skipAtom_26 : decode cX12_skipAtom 26 = .ok (.bipush 91, 2) := by decide +kernel
theorem dX12_skipAtom_28 : decode cX12_skipAtom 28 = .ok (.invokevirtual 141, 3) := by decide +kernel
theorem dX12_skipAtom_3 : decode cX12_skipAtom 3 = .ok (.bipush 57, 2) := by decide +kernel
theorem dX12_skipAtom_31 : decode cX12_skipAtom 31 = .ok (.ifCond .eq 81, 3) := by decide +kernel
theorem dX12_skipAtom_5 : decode cX12_skipAtom 5 = .ok (.invokevirtual 141, 3) := by decide +kernel
theorem dX12_skipAtom_8 : decode cX12_skipAtom 8 = .ok (.ifCond .eq 15, 3) := by decide +kernel
theorem dX12_skipRow_0 : decode cX12_skipRow 0 = .ok (.aload_n 0, 1) := by decide +kernel
theorem dX12_skipRow_1 : decode cX12_skipRow 1 = .ok (.iload_n 1, 1) := by decide +kernel
theorem dX12_skipRow_2 : decode cX12_skipRow 2 = .ok (.invokevirtual 137, 3) := by decide +kernel
theorem dX12_skipRow_5 : decode cX12_skipRow 5 = .ok (.ifCond .ne 5, 3) := by decide +kernel
theorem dX12_skipRow_8 : decode cX12_skipRow 8 = .ok (.iconst 0, 1) := by decide +kernel
theorem dX12_skipRow_9 : decode cX12_skipRow 9 = .ok (.ireturn, 1) := by decide +kernel
theorem dX12_skipTerm_0 : decode cX12_skipTerm 0 = .ok (.aload_n 0, 1) := by decide +kernel
theorem dX12_skipTerm_1 : decode cX12_skipTerm 1 = .ok (.iload_n 1, 1) := by decide +kernel
theorem dX12_skipTerm_2 : decode cX12_skipTerm 2 = .ok (.invokevirtual 149, 3) := by decide +kernel
theorem dX12_skipTerm_5 : decode cX12_skipTerm 5 = .ok (.ifCond .ne 5, 3) := by decide +kernel
theorem dX12_skipTerm_8 : decode cX12_skipTerm 8 = .ok (.iconst 0, 1) := by decide +kernel
theorem dX12_skipTerm_9 : decode cX12_skipTerm 9 = .ok (.ireturn, 1) := by decide +kernel
theorem dX12_span_0 : decode cX12_span 0 = .ok (.aload_n 0, 1) := by decide +kernel
theorem dX12_span_1 : decode cX12_span 1 = .ok (.iconst 0, 1) := by decide +kernel
theorem dX12_span_10 : decode cX12_span 10 = .ok (.bipush 24, 2) := by decide +kernel
theorem dX12_span_12 : decode cX12_span 12 = .ok (.if_icmp .gt 33, 3) := by decide +kernel
theorem dX12_span_15 : decode cX12_span 15 = .ok (.iload_n 2, 1) := by decide +kernel
theorem dX12_span_16 : decode cX12_span 16 = .ok (.ifCond .lt 29, 3) := by decide +kernel
theorem dX12_span_19 : decode cX12_span 19 = .ok (.aload_n 0, 1) := by decide +kernel
theorem dX12_span_2 : decode cX12_span 2 = .ok (.putfield 118, 3) := by decide +kernel
theorem dX12_span_20 : decode cX12_span 20 = .ok (.iload_n 3, 1) := by decide +kernel
theorem dX12_span_21 : decode cX12_span 21 = .ok (.invokevirtual 293, 3) := by decide +kernel
theorem dX12_span_24 : decode cX12_span 24 = .ok (.ifCond .ne 6, 3) := by decide +kernel
theorem dX12_span_30 : decode cX12_span 30 = .ok (.iload_n 2, 1) := by decide +kernel
theorem dX12_span_31 : decode cX12_span 31 = .ok (.ifCond .ne 5, 3) := by decide +kernel
theorem dX12_span_34 : decode cX12_span 34 = .ok (.iload_n 3, 1) := by decide +kernel
theorem dX12_span_35 : decode cX12_span 35 = .ok (.ireturn, 1) := by decide +kernel
theorem dX12_span_36 : decode cX12_span 36 = .ok (.iinc 2 (-1), 3) := by decide +kernel
theorem dX12_span_39 : decode cX12_span 39 = .ok (.iinc 3 1, 3) := by decide +kernel
theorem dX12_span_42 : decode cX12_span 42 = .ok (.goto (-33), 3) := by decide +kernel
theorem dX12_span_45 : decode cX12_span 45 = .ok (.iconst (-1), 1) := by decide +kernel
theorem dX12_span_46 : decode cX12_span 46 = .ok (.ireturn, 1) := by decide +kernel
theorem dX12_span_5 : decode cX12_span 5 = .ok (.iload_n 1, 1) := by decide +kernel
theorem dX12_span_6 : decode cX12_span 6 = .ok (.istore_n 2, 1) := by decide +kernel
theorem dX12_span_7 : decode cX12_span 7 = .ok (.iconst 1, 1) := by decide +kernel
theorem dX12_span_8 : decode cX12_span 8 = .ok (.istore_n 3, 1) := by decide +kernel
theorem dX12_span_9 : decode cX12_span 9 = .ok (.iload_n 3, 1) := by decide +kernel
theorem dX12_splice_0 : decode cX12_splice 0 = .ok (.aload_n 0, 1) := by decide +kernel
theorem dX12_splice_1 : decode cX12_splice 1 = .ok (.iconst 0, 1) := by decide +kernel
theorem dX12_splice_10 : decode cX12_splice 10 = .ok (.aload_n 0, 1) := by decide +kernel
theorem dX12_splice_11 : decode cX12_splice 11 = .ok (.iconst (-1), 1) := by decide +kernel
theorem dX12_splice_12 : decode cX12_splice 12 = .ok (.putfield 134, 3) := by decide +kernel
theorem dX12_splice_15 : decode cX12_splice 15 = .ok (.aload_n 0, 1) := by decide +kernel
theorem dX12_splice_16 : decode cX12_splice 16 = .ok (.iconst 0, 1) := by decide +kernel
theorem dX12_splice_17 : decode cX12_splice 17 = .ok (.invokevirtual 152, 3) := by decide +kernel
theorem dX12_splice_2 : decode cX12_splice 2 = .ok (.putfield 118, 3) := by decide +kernel
theorem dX12_splice_20 : decode cX12_splice 20 = .ok (.istore_n 1, 1) := by decide +kernel
theorem dX12_splice_21 : decode cX12_splice 21 = .ok (.iload_n 1, 1) := by decide +kernel
theorem dX12_splice_22 : decode cX12_splice 22 = .ok (.ifCond .eq 19, 3) := by decide +kernel
theorem dX12_splice_41 : decode cX12_splice 41 = .ok (.iconst 0, 1) := by decide +kernel
theorem dX12_splice_42 : decode cX12_splice 42 = .ok (.istore_n 2, 1) := by decide +kernel
theorem dX12_splice_43 : decode cX12_splice 43 = .ok (.iload_n 1, 1) := by decide +kernel
theorem dX12_splice_44 : decode cX12_splice 44 = .ok (.ifCond .eq 14, 3) := by decide +kernel
theorem dX12_splice_5 : decode cX12_splice 5 = .ok (.aload_n 0, 1) := by decide +kernel
theorem dX12_splice_58 : decode cX12_splice 58 = .ok (.aload_n 0, 1) := by decide +kernel
theorem dX12_splice_59 : decode cX12_splice 59 = .ok (.iconst 0, 1) := by decide +kernel
theorem dX12_splice_6 : decode cX12_splice 6 = .ok (.iconst 0, 1) := by decide +kernel
theorem dX12_splice_60 : decode cX12_splice 60 = .ok (.putfield 128, 3) := by decide +kernel
theorem dX12_splice_63 : decode cX12_splice 63 = .ok (.iload_n 1, 1) := by decide +kernel
theorem dX12_splice_64 : decode cX12_splice 64 = .ok (.ifCond .ne 10, 3) := by decide +kernel
theorem dX12_splice_67 : decode cX12_splice 67 = .ok (.iconst (-1), 1) := by decide +kernel
theorem dX12_splice_68 : decode cX12_splice 68 = .ok (.aload_n 0, 1) := by decide +kernel
theorem dX12_splice_69 : decode cX12_splice 69 = .ok (.getfield 134, 3) := by decide +kernel
theorem dX12_splice_7 : decode cX12_splice 7 = .ok (.putfield 131, 3) := by decide +kernel
theorem dX12_splice_72 : decode cX12_splice 72 = .ok (.isub, 1) := by decide +kernel
theorem dX12_splice_73 : decode cX12_splice 73 = .ok (.ireturn, 1) := by decide +kernel
theorem dX12_steadyAll_0 : decode cX12_steadyAll 0 = .ok (.aload_n 0, 1) := by decide +kernel
theorem dX12_steadyAll_1 : decode cX12_steadyAll 1 = .ok (.iconst 0, 1) := by decide +kernel
theorem dX12_steadyAll_10 : decode cX12_steadyAll 10 = .ok (.invokestatic 240, 3) := by decide +kernel
theorem dX12_steadyAll_13 : decode cX12_steadyAll 13 = .ok (.ireturn, 1) := by decide +kernel
theorem dX12_steadyAll_2 : decode cX12_steadyAll 2 = .ok (.invokevirtual 211, 3) := by decide +kernel
theorem dX12_steadyAll_5 : decode cX12_steadyAll 5 = .ok (.aload_n 0, 1) := by decide +kernel
theorem dX12_steadyAll_6 : decode cX12_steadyAll 6 = .ok (.iconst 1, 1) := by decide +kernel
theorem dX12_steadyAll_7 : decode cX12_steadyAll 7 = .ok (.invokevirtual 211, 3) := by decide +kernel
theorem dX12_steady_0 : decode cX12_steady 0 = .ok (.aload_n 0, 1) := by decide +kernel
theorem dX12_steady_1 : decode cX12_steady 1 = .ok (.getfield 41, 3) := by decide +kernel
theorem dX12_steady_10 : decode cX12_steady 10 = .ok (.goto 21, 3) := by decide +kernel
theorem dX12_steady_31 : decode cX12_steady 31 = .ok (.ireturn, 1) := by decide +kernel
theorem dX12_steady_4 : decode cX12_steady 4 = .ok (.iload_n 1, 1) := by decide +kernel
theorem dX12_steady_5 : decode cX12_steady 5 = .ok (.iaload, 1) := by decide +kernel
theorem dX12_steady_6 : decode cX12_steady 6 = .ok (.ifCond .ne 7, 3) := by decide +kernel
theorem dX12_steady_9 : decode cX12_steady 9 = .ok (.iconst 0, 1) := by decide +kernel
theorem dX12_stop_0 : decode cX12_stop 0 = .ok (.aload_n 0, 1) := by decide +kernel
theorem dX12_stop_1 : decode cX12_stop 1 = .ok (.iconst 0, 1) := by decide +kernel
theorem dX12_stop_10 : decode cX12_stop 10 = .ok (.invokestatic 124, 3) := by decide +kernel
theorem dX12_stop_13 : decode cX12_stop 13 = .ok (.ifCond .ne 5, 3) := by decide +kernel
theorem dX12_stop_16 : decode cX12_stop 16 = .ok (.iconst (-1), 1) := by decide +kernel
theorem dX12_stop_17 : decode cX12_stop 17 = .ok (.ireturn, 1) := by decide +kernel
theorem dX12_stop_18 : decode cX12_stop 18 = .ok (.aload_n 0, 1) := by decide +kernel
theorem dX12_stop_19 : decode cX12_stop 19 = .ok (.getfield 283, 3) := by decide +kernel
theorem dX12_stop_2 : decode cX12_stop 2 = .ok (.putfield 118, 3) := by decide +kernel
theorem dX12_stop_22 : decode cX12_stop 22 = .ok (.istore_n 2, 1) := by decide +kernel
theorem dX12_stop_23 : decode cX12_stop 23 = .ok (.aload_n 0, 1) := by decide +kernel
theorem dX12_stop_24 : decode cX12_stop 24 = .ok (.iload_n 1, 1) := by decide +kernel
theorem dX12_stop_25 : decode cX12_stop 25 = .ok (.putfield 283, 3) := by decide +kernel
theorem dX12_stop_28 : decode cX12_stop 28 = .ok (.iload_n 2, 1) := by decide +kernel
theorem dX12_stop_29 : decode cX12_stop 29 = .ok (.ireturn, 1) := by decide +kernel
theorem dX12_stop_5 : decode cX12_stop 5 = .ok (.iload_n 1, 1) := by decide +kernel
theorem dX12_stop_6 : decode cX12_stop 6 = .ok (.iconst 0, 1) := by decide +kernel
theorem dX12_stop_7 : decode cX12_stop 7 = .ok (.sipush 2000, 3) := by decide +kernel
theorem dX12_take_0 : decode cX12_take 0 = .ok (.aload_n 0, 1) := by decide +kernel
theorem dX12_take_1 : decode cX12_take 1 = .ok (.iconst 0, 1) := by decide +kernel
theorem dX12_take_10 : decode cX12_take 10 = .ok (.invokestatic 124, 3) := by decide +kernel
theorem dX12_take_13 : decode cX12_take 13 = .ok (.ifCond .eq 13, 3) := by decide +kernel
theorem dX12_take_16 : decode cX12_take 16 = .ok (.iload_n 2, 1) := by decide +kernel
theorem dX12_take_17 : decode cX12_take 17 = .ok (.iconst 0, 1) := by decide +kernel
theorem dX12_take_18 : decode cX12_take 18 = .ok (.bipush 60, 2) := by decide +kernel
theorem dX12_take_2 : decode cX12_take 2 = .ok (.putfield 118, 3) := by decide +kernel
theorem dX12_take_20 : decode cX12_take 20 = .ok (.invokestatic 124, 3) := by decide +kernel
theorem dX12_take_23 : decode cX12_take 23 = .ok (.ifCond .ne 5, 3) := by decide +kernel
theorem dX12_take_26 : decode cX12_take 26 = .ok (.iconst 0, 1) := by decide +kernel
theorem dX12_take_27 : decode cX12_take 27 = .ok (.ireturn, 1) := by decide +kernel
theorem dX12_take_28 : decode cX12_take 28 = .ok (.iconst 0, 1) := by decide +kernel
theorem dX12_take_29 : decode cX12_take 29 = .ok (.istore_n 3, 1) := by decide +kernel
theorem dX12_take_30 : decode cX12_take 30 = .ok (.iload_n 3, 1) := by decide +kernel
theorem dX12_take_31 : decode cX12_take 31 = .ok (.iload_n 2, 1) := by decide +kernel
theorem dX12_take_32 : decode cX12_take 32 = .ok (.if_icmp .ge 23, 3) := by decide +kernel
theorem dX12_take_35 : decode cX12_take 35 = .ok (.aload_n 0, 1) := by decide +kernel
theorem dX12_take_36 : decode cX12_take 36 = .ok (.getfield 60, 3) := by decide +kernel
theorem dX12_take_39 : decode cX12_take 39 = .ok (.iload_n 3, 1) := by decide +kernel
theorem dX12_take_40 : decode cX12_take 40 = .ok (.aload_n 0, 1) := by decide +kernel
theorem dX12_take_41 : decode cX12_take 41 = .ok (.iload_n 1, 1) := by decide +kernel
theorem dX12_take_42 : decode cX12_take 42 = .ok (.iload_n 3, 1) := by decide +kernel
theorem dX12_take_43 : decode cX12_take 43 = .ok (.iadd, 1) := by decide +kernel
theorem dX12_take_44 : decode cX12_take 44 = .ok (.i2l, 1) := by decide +kernel
theorem dX12_take_45 : decode cX12_take 45 = .ok (.invokevirtual 229, 3) := by decide +kernel
theorem dX12_take_48 : decode cX12_take 48 = .ok (.iastore, 1) := by decide +kernel
theorem dX12_take_49 : decode cX12_take 49 = .ok (.iinc 3 1, 3) := by decide +kernel
theorem dX12_take_5 : decode cX12_take 5 = .ok (.iload_n 1, 1) := by decide +kernel
theorem dX12_take_52 : decode cX12_take 52 = .ok (.goto (-22), 3) := by decide +kernel
theorem dX12_take_55 : decode cX12_take 55 = .ok (.aload_n 0, 1) := by decide +kernel
theorem dX12_take_56 : decode cX12_take 56 = .ok (.iload_n 2, 1) := by decide +kernel
theorem dX12_take_57 : decode cX12_take 57 = .ok (.putfield 179, 3) := by decide +kernel
theorem dX12_take_6 : decode cX12_take 6 = .ok (.iconst 0, 1) := by decide +kernel
theorem dX12_take_60 : decode cX12_take 60 = .ok (.iconst 1, 1) := by decide +kernel
theorem dX12_take_61 : decode cX12_take 61 = .ok (.ireturn, 1) := by decide +kernel
theorem dX12_take_7 : decode cX12_take 7 = .ok (.ldc_w 262, 3) := by decide +kernel
theorem dX12_tape_0 : decode cX12_tape 0 = .ok (.aload_n 0, 1) := by decide +kernel
theorem dX12_tape_1 : decode cX12_tape 1 = .ok (.iconst 0, 1) := by decide +kernel
theorem dX12_tape_10 : decode cX12_tape 10 = .ok (.iload_n 1, 1) := by decide +kernel
theorem dX12_tape_11 : decode cX12_tape 11 = .ok (.invokestatic 237, 3) := by decide +kernel
theorem dX12_tape_14 : decode cX12_tape 14 = .ok (.ifCond .eq 12, 3) := by decide +kernel
theorem dX12_tape_17 : decode cX12_tape 17 = .ok (.aload_n 0, 1) := by decide +kernel
theorem dX12_tape_18 : decode cX12_tape 18 = .ok (.getfield 179, 3) := by decide +kernel
theorem dX12_tape_2 : decode cX12_tape 2 = .ok (.putfield 118, 3) := by decide +kernel
theorem dX12_tape_21 : decode cX12_tape 21 = .ok (.bipush 60, 2) := by decide +kernel
theorem dX12_tape_23 : decode cX12_tape 23 = .ok (.if_icmp .ne 5, 3) := by decide +kernel
theorem dX12_tape_26 : decode cX12_tape 26 = .ok (.iconst (-1), 1) := by decide +kernel
theorem dX12_tape_27 : decode cX12_tape 27 = .ok (.ireturn, 1) := by decide +kernel
theorem dX12_tape_28 : decode cX12_tape 28 = .ok (.aload_n 0, 1) := by decide +kernel
theorem dX12_tape_29 : decode cX12_tape 29 = .ok (.getfield 60, 3) := by decide +kernel
theorem dX12_tape_32 : decode cX12_tape 32 = .ok (.aload_n 0, 1) := by decide +kernel
theorem dX12_tape_33 : decode cX12_tape 33 = .ok (.getfield 179, 3) := by decide +kernel
theorem dX12_tape_36 : decode cX12_tape 36 = .ok (.iload_n 1, 1) := by decide +kernel
theorem dX12_tape_37 : decode cX12_tape 37 = .ok (.iastore, 1) := by decide +kernel
theorem dX12_tape_38 : decode cX12_tape 38 = .ok (.aload_n 0, 1) := by decide +kernel
theorem dX12_tape_39 : decode cX12_tape 39 = .ok (.dup, 1) := by decide +kernel
theorem dX12_tape_40 : decode cX12_tape 40 = .ok (.getfield 179, 3) := by decide +kernel
theorem dX12_tape_43 : decode cX12_tape 43 = .ok (.iconst 1, 1) := by decide +kernel
theorem dX12_tape_44 : decode cX12_tape 44 = .ok (.iadd, 1) := by decide +kernel
theorem dX12_tape_45 : decode cX12_tape 45 = .ok (.putfield 179, 3) := by decide +kernel
theorem dX12_tape_48 : decode cX12_tape 48 = .ok (.aload_n 0, 1) := by decide +kernel
theorem dX12_tape_49 : decode cX12_tape 49 = .ok (.getfield 179, 3) := by decide +kernel
theorem dX12_tape_5 : decode cX12_tape 5 = .ok (.iload_n 1, 1) := by decide +kernel
theorem dX12_tape_52 : decode cX12_tape 52 = .ok (.ireturn, 1) := by decide +kernel
theorem dX12_tape_6 : decode cX12_tape 6 = .ok (.iconst (-1), 1) := by decide +kernel
theorem dX12_tape_7 : decode cX12_tape 7 = .ok (.if_icmp .eq 10, 3) := by decide +kernel
theorem dX12_thrown_0 : decode cX12_thrown 0 = .ok (.aload_n 0, 1) := by decide +kernel
theorem dX12_thrown_1 : decode cX12_thrown 1 = .ok (.getfield 118, 3) := by decide +kernel
theorem dX12_thrown_4 : decode cX12_thrown 4 = .ok (.ireturn, 1) := by decide +kernel
theorem dX12_wayEarly_0 : decode cX12_wayEarly 0 = .ok (.lconst 0, 1) := by decide +kernel
theorem dX12_wayEarly_1 : decode cX12_wayEarly 1 = .ok (.lstore 4, 2) := by decide +kernel
theorem dX12_wayEarly_10 : decode cX12_wayEarly 10 = .ok (.istore 9, 2) := by decide +kernel
theorem dX12_wayEarly_101 : decode cX12_wayEarly 101 = .ok (.lload 4, 2) := by decide +kernel
theorem dX12_wayEarly_103 : decode cX12_wayEarly 103 = .ok (.iload 8, 2) := by decide +kernel
theorem dX12_wayEarly_105 : decode cX12_wayEarly 105 = .ok (.i2l, 1) := by decide +kernel
theorem dX12_wayEarly_106 : decode cX12_wayEarly 106 = .ok (.lload_n 2, 1) := by decide +kernel
theorem dX12_wayEarly_107 : decode cX12_wayEarly 107 = .ok (.lload 6, 2) := by decide +kernel
theorem dX12_wayEarly_109 : decode cX12_wayEarly 109 = .ok (.lsub, 1) := by decide +kernel
theorem dX12_wayEarly_110 : decode cX12_wayEarly 110 = .ok (.lmul, 1) := by decide +kernel
theorem dX12_wayEarly_111 : decode cX12_wayEarly 111 = .ok (.ladd, 1) := by decide +kernel
theorem dX12_wayEarly_112 : decode cX12_wayEarly 112 = .ok (.lreturn, 1) := by decide +kernel
theorem dX12_wayEarly_12 : decode cX12_wayEarly 12 = .ok (.iload 9, 2) := by decide +kernel
theorem dX12_wayEarly_14 : decode cX12_wayEarly 14 = .ok (.aload_n 0, 1) := by decide +kernel
theorem dX12_wayEarly_15 : decode cX12_wayEarly 15 = .ok (.getfield 41, 3) := by decide +kernel
theorem dX12_wayEarly_18 : decode cX12_wayEarly 18 = .ok (.iload_n 1, 1) := by decide +kernel
theorem dX12_wayEarly_19 : decode cX12_wayEarly 19 = .ok (.iaload, 1) := by decide +kernel
theorem dX12_wayEarly_20 : decode cX12_wayEarly 20 = .ok (.if_icmp .ge 81, 3) := by decide +kernel
theorem dX12_wayEarly_3 : decode cX12_wayEarly 3 = .ok (.lconst 0, 1) := by decide +kernel
theorem dX12_wayEarly_4 : decode cX12_wayEarly 4 = .ok (.lstore 6, 2) := by decide +kernel
theorem dX12_wayEarly_6 : decode cX12_wayEarly 6 = .ok (.iconst 1, 1) := by decide +kernel
theorem dX12_wayEarly_7 : decode cX12_wayEarly 7 = .ok (.istore 8, 2) := by decide +kernel
theorem dX12_wayEarly_9 : decode cX12_wayEarly 9 = .ok (.iconst 0, 1) := by decide +kernel
theorem dX12_way_0 : decode cX12_way 0 = .ok (.aload_n 0, 1) := by decide +kernel
theorem dX12_way_1 : decode cX12_way 1 = .ok (.iconst 0, 1) := by decide +kernel
theorem dX12_way_12 : decode cX12_way 12 = .ok (.iload_n 2, 1) := by decide +kernel
theorem dX12_way_13 : decode cX12_way 13 = .ok (.iconst 0, 1) := by decide +kernel
theorem dX12_way_14 : decode cX12_way 14 = .ok (.ldc 206, 2) := by decide +kernel
theorem dX12_way_16 : decode cX12_way 16 = .ok (.invokestatic 124, 3) := by decide +kernel
theorem dX12_way_19 : decode cX12_way 19 = .ok (.ifCond .ne 10, 3) := by decide +kernel
theorem dX12_way_2 : decode cX12_way 2 = .ok (.putfield 118, 3) := by decide +kernel
theorem dX12_way_22 : decode cX12_way 22 = .ok (.aload_n 0, 1) := by decide +kernel
theorem dX12_way_23 : decode cX12_way 23 = .ok (.iconst 1, 1) := by decide +kernel
theorem dX12_way_24 : decode cX12_way 24 = .ok (.putfield 118, 3) := by decide +kernel
theorem dX12_way_27 : decode cX12_way 27 = .ok (.lconst 0, 1) := by decide +kernel
theorem dX12_way_28 : decode cX12_way 28 = .ok (.lreturn, 1) := by decide +kernel
theorem dX12_way_29 : decode cX12_way 29 = .ok (.aload_n 0, 1) := by decide +kernel
theorem dX12_way_30 : decode cX12_way 30 = .ok (.iload_n 1, 1) := by decide +kernel
theorem dX12_way_31 : decode cX12_way 31 = .ok (.iload_n 2, 1) := by decide +kernel
theorem dX12_way_32 : decode cX12_way 32 = .ok (.i2l, 1) := by decide +kernel
theorem dX12_way_33 : decode cX12_way 33 = .ok (.invokevirtual 207, 3) := by decide +kernel
theorem dX12_way_36 : decode cX12_way 36 = .ok (.lreturn, 1) := by decide +kernel
theorem dX12_way_5 : decode cX12_way 5 = .ok (.iload_n 1, 1) := by decide +kernel
theorem dX12_way_6 : decode cX12_way 6 = .ok (.invokestatic 165, 3) := by decide +kernel
theorem dX12_way_9 : decode cX12_way 9 = .ok (.ifCond .eq 13, 3) := by decide +kernel
theorem dX12_weight_0 : decode cX12_weight 0 = .ok (.aload_n 0, 1) := by decide +kernel
theorem dX12_weight_1 : decode cX12_weight 1 = .ok (.iconst 0, 1) := by decide +kernel
theorem dX12_weight_12 : decode cX12_weight 12 = .ok (.ifCond .eq 14, 3) := by decide +kernel
theorem dX12_weight_15 : decode cX12_weight 15 = .ok (.iload_n 2, 1) := by decide +kernel
theorem dX12_weight_16 : decode cX12_weight 16 = .ok (.iconst 0, 1) := by decide +kernel
theorem dX12_weight_17 : decode cX12_weight 17 = .ok (.sipush 200, 3) := by decide +kernel
theorem dX12_weight_2 : decode cX12_weight 2 = .ok (.putfield 118, 3) := by decide +kernel
theorem dX12_weight_20 : decode cX12_weight 20 = .ok (.invokestatic 124, 3) := by decide +kernel
theorem dX12_weight_23 : decode cX12_weight 23 = .ok (.ifCond .ne 5, 3) := by decide +kernel
theorem dX12_weight_26 : decode cX12_weight 26 = .ok (.iconst (-1), 1) := by decide +kernel
theorem dX12_weight_27 : decode cX12_weight 27 = .ok (.ireturn, 1) := by decide +kernel
theorem dX12_weight_28 : decode cX12_weight 28 = .ok (.aload_n 0, 1) := by decide +kernel
theorem dX12_weight_29 : decode cX12_weight 29 = .ok (.getfield 50, 3) := by decide +kernel
theorem dX12_weight_32 : decode cX12_weight 32 = .ok (.iload_n 1, 1) := by decide +kernel
theorem dX12_weight_33 : decode cX12_weight 33 = .ok (.iaload, 1) := by decide +kernel
theorem dX12_weight_34 : decode cX12_weight 34 = .ok (.istore_n 3, 1) := by decide +kernel
theorem dX12_weight_35 : decode cX12_weight 35 = .ok (.aload_n 0, 1) := by decide +kernel
theorem dX12_weight_36 : decode cX12_weight 36 = .ok (.getfield 50, 3) := by decide +kernel
theorem dX12_weight_39 : decode cX12_weight 39 = .ok (.iload_n 1, 1) := by decide +kernel
theorem dX12_weight_40 : decode cX12_weight 40 = .ok (.iload_n 2, 1) := by decide +kernel
theorem dX12_weight_41 : decode cX12_weight 41 = .ok (.iastore, 1) := by decide +kernel
theorem dX12_weight_42 : decode cX12_weight 42 = .ok (.iload_n 3, 1) := by decide +kernel
theorem dX12_weight_43 : decode cX12_weight 43 = .ok (.ireturn, 1) := by decide +kernel
theorem dX12_weight_5 : decode cX12_weight 5 = .ok (.iload_n 1, 1) := by decide +kernel
theorem dX12_weight_6 : decode cX12_weight 6 = .ok (.iconst 1, 1) := by decide +kernel
theorem dX12_weight_7 : decode cX12_weight 7 = .ok (.bipush 9, 2) := by decide +kernel
theorem dX12_weight_9 : decode cX12_weight 9 = .ok (.invokestatic 124, 3) := by decide +kernel
theorem dX12_wipe_0 : decode cX12_wipe 0 = .ok (.aload_n 0, 1) := by decide +kernel
theorem dX12_wipe_1 : decode cX12_wipe 1 = .ok (.iconst 0, 1) := by decide +kernel
theorem dX12_wipe_10 : decode cX12_wipe 10 = .ok (.aload_n 0, 1) := by decide +kernel
theorem dX12_wipe_11 : decode cX12_wipe 11 = .ok (.iconst 0, 1) := by decide +kernel
theorem dX12_wipe_12 : decode cX12_wipe 12 = .ok (.putfield 179, 3) := by decide +kernel
theorem dX12_wipe_15 : decode cX12_wipe 15 = .ok (.iload_n 1, 1) := by decide +kernel
theorem dX12_wipe_16 : decode cX12_wipe 16 = .ok (.ireturn, 1) := by decide +kernel
theorem dX12_wipe_2 : decode cX12_wipe 2 = .ok (.putfield 118, 3) := by decide +kernel
theorem dX12_wipe_5 : decode cX12_wipe 5 = .ok (.aload_n 0, 1) := by decide +kernel
theorem dX12_wipe_6 : decode cX12_wipe 6 = .ok (.getfield 179, 3) := by decide +kernel
theorem dX12_wipe_9 : decode cX12_wipe 9 = .ok (.istore_n 1, 1) := by decide +kernel
theorem dX12_wish_0 : decode cX12_wish 0 = .ok (.aload_n 0, 1) := by decide +kernel
theorem dX12_wish_1 : decode cX12_wish 1 = .ok (.iconst 0, 1) := by decide +kernel
theorem dX12_wish_10 : decode cX12_wish 10 = .ok (.ifCond .eq 10, 3) := by decide +kernel
theorem dX12_wish_2 : decode cX12_wish 2 = .ok (.putfield 118, 3) := by decide +kernel
theorem dX12_wish_20 : decode cX12_wish 20 = .ok (.iconst 0, 1) := by decide +kernel
theorem dX12_wish_21 : decode cX12_wish 21 = .ok (.ireturn, 1) := by decide +kernel
theorem dX12_wish_5 : decode cX12_wish 5 = .ok (.aload_n 0, 1) := by decide +kernel
theorem dX12_wish_6 : decode cX12_wish 6 = .ok (.iload_n 1, 1) := by decide +kernel
theorem dX12_wish_7 : decode cX12_wish 7 = .ok (.invokevirtual 168, 3) := by decide +kernel
theorem dm_X12_in : yX12_in.cls = RX12 ∧ yX12_in.cls ≠ "java/lang/invoke/MethodHandle" ∧ yX12_in.cls ≠ "java/lang/invoke/VarHandle" ∧ (parseMethodDescriptor yX12_in.desc).map (fun d => d.parameters.length) = some 3 := by decide +kernel
theorem dm_X12_has : yX12_has.cls = RX12 ∧ yX12_has.cls ≠ "java/lang/invoke/MethodHandle" ∧ yX12_has.cls ≠ "java/lang/invoke/VarHandle" ∧ (parseMethodDescriptor yX12_has.desc).map (fun d => d.parameters.length) = some 2 := by decide +kernel
theorem dm_X12_isWrong : yX12_isWrong.cls = RX12 ∧ yX12_isWrong.cls ≠ "java/lang/invoke/MethodHandle" ∧ yX12_isWrong.cls ≠ "java/lang/invoke/VarHandle" ∧ (parseMethodDescriptor yX12_isWrong.desc).map (fun d => d.parameters.length) = some 0 := by decide +kernel
theorem dm_X12_skipAtom : yX12_skipAtom.cls = RX12 ∧ yX12_skipAtom.cls ≠ "java/lang/invoke/MethodHandle" ∧ yX12_skipAtom.cls ≠ "java/lang/invoke/VarHandle" ∧ (parseMethodDescriptor yX12_skipAtom.desc).map (fun d => d.parameters.length) = some 1 := by decide +kernel
theorem dm_X12_skipTerm : yX12_skipTerm.cls = RX12 ∧ yX12_skipTerm.cls ≠ "java/lang/invoke/MethodHandle" ∧ yX12_skipTerm.cls ≠ "java/lang/invoke/VarHandle" ∧ (parseMethodDescriptor yX12_skipTerm.desc).map (fun d => d.parameters.length) = some 1 := by decide +kernel
theorem dm_X12_skipRow : yX12_skipRow.cls = RX12 ∧ yX12_skipRow.cls ≠ "java/lang/invoke/MethodHandle" ∧ yX12_skipRow.cls ≠ "java/lang/invoke/VarHandle" ∧ (parseMethodDescriptor yX12_skipRow.desc).map (fun d => d.parameters.length) = some 1 := by decide +kernel
theorem dm_X12_isRing : yX12_isRing.cls = RX12 ∧ yX12_isRing.cls ≠ "java/lang/invoke/MethodHandle" ∧ yX12_isRing.cls ≠ "java/lang/invoke/VarHandle" ∧ (parseMethodDescriptor yX12_isRing.desc).map (fun d => d.parameters.length) = some 1 := by decide +kernel
theorem dm_X12_isMotor : yX12_isMotor.cls = RX12 ∧ yX12_isMotor.cls ≠ "java/lang/invoke/MethodHandle" ∧ yX12_isMotor.cls ≠ "java/lang/invoke/VarHandle" ∧ (parseMethodDescriptor yX12_isMotor.desc).map (fun d => d.parameters.length) = some 1 := by decide +kernel
theorem dm_X12_wayEarly : yX12_wayEarly.cls = RX12 ∧ yX12_wayEarly.cls ≠ "java/lang/invoke/MethodHandle" ∧ yX12_wayEarly.cls ≠ "java/lang/invoke/VarHandle" ∧ (parseMethodDescriptor yX12_wayEarly.desc).map (fun d => d.parameters.length) = some 2 := by decide +kernel
theorem dm_X12_heardInAll : yX12_heardInAll.cls = RX12 ∧ yX12_heardInAll.cls ≠ "java/lang/invoke/MethodHandle" ∧ yX12_heardInAll.cls ≠ "java/lang/invoke/VarHandle" ∧ (parseMethodDescriptor yX12_heardInAll.desc).map (fun d => d.parameters.length) = some 1 := by decide +kernel
theorem dm_X12_allRounds : yX12_allRounds.cls = RX12 ∧ yX12_allRounds.cls ≠ "java/lang/invoke/MethodHandle" ∧ yX12_allRounds.cls ≠ "java/lang/invoke/VarHandle" ∧ (parseMethodDescriptor yX12_allRounds.desc).map (fun d => d.parameters.length) = some 0 := by decide +kernel
theorem dm_X12_steady : yX12_steady.cls = RX12 ∧ yX12_steady.cls ≠ "java/lang/invoke/MethodHandle" ∧ yX12_steady.cls ≠ "java/lang/invoke/VarHandle" ∧ (parseMethodDescriptor yX12_steady.desc).map (fun d => d.parameters.length) = some 1 := by decide +kernel
theorem dm_X12_steadyAll : yX12_steadyAll.cls = RX12 ∧ yX12_steadyAll.cls ≠ "java/lang/invoke/MethodHandle" ∧ yX12_steadyAll.cls ≠ "java/lang/invoke/VarHandle" ∧ (parseMethodDescriptor yX12_steadyAll.desc).map (fun d => d.parameters.length) = some 0 := by decide +kernel
theorem dm_X12_findHeard : yX12_findHeard.cls = RX12 ∧ yX12_findHeard.cls ≠ "java/lang/invoke/MethodHandle" ∧ yX12_findHeard.cls ≠ "java/lang/invoke/VarHandle" ∧ (parseMethodDescriptor yX12_findHeard.desc).map (fun d => d.parameters.length) = some 1 := by decide +kernel
theorem dm_X12_meetsBehind : yX12_meetsBehind.cls = RX12 ∧ yX12_meetsBehind.cls ≠ "java/lang/invoke/MethodHandle" ∧ yX12_meetsBehind.cls ≠ "java/lang/invoke/VarHandle" ∧ (parseMethodDescriptor yX12_meetsBehind.desc).map (fun d => d.parameters.length) = some 1 := by decide +kernel
theorem dm_X12_findPlan : yX12_findPlan.cls = RX12 ∧ yX12_findPlan.cls ≠ "java/lang/invoke/MethodHandle" ∧ yX12_findPlan.cls ≠ "java/lang/invoke/VarHandle" ∧ (parseMethodDescriptor yX12_findPlan.desc).map (fun d => d.parameters.length) = some 0 := by decide +kernel
theorem dm_X12_findOuts : yX12_findOuts.cls = RX12 ∧ yX12_findOuts.cls ≠ "java/lang/invoke/MethodHandle" ∧ yX12_findOuts.cls ≠ "java/lang/invoke/VarHandle" ∧ (parseMethodDescriptor yX12_findOuts.desc).map (fun d => d.parameters.length) = some 1 := by decide +kernel
theorem dm_X12_areSounds : yX12_areSounds.cls = RX12 ∧ yX12_areSounds.cls ≠ "java/lang/invoke/MethodHandle" ∧ yX12_areSounds.cls ≠ "java/lang/invoke/VarHandle" ∧ (parseMethodDescriptor yX12_areSounds.desc).map (fun d => d.parameters.length) = some 1 := by decide +kernel
theorem dm_X12_isSpan : yX12_isSpan.cls = RX12 ∧ yX12_isSpan.cls ≠ "java/lang/invoke/MethodHandle" ∧ yX12_isSpan.cls ≠ "java/lang/invoke/VarHandle" ∧ (parseMethodDescriptor yX12_isSpan.desc).map (fun d => d.parameters.length) = some 1 := by decide +kernel
theorem dm_X12_isPair : yX12_isPair.cls = RX12 ∧ yX12_isPair.cls ≠ "java/lang/invoke/MethodHandle" ∧ yX12_isPair.cls ≠ "java/lang/invoke/VarHandle" ∧ (parseMethodDescriptor yX12_isPair.desc).map (fun d => d.parameters.length) = some 2 := by decide +kernel
theorem dm_X12_pairAt : yX12_pairAt.cls = RX12 ∧ yX12_pairAt.cls ≠ "java/lang/invoke/MethodHandle" ∧ yX12_pairAt.cls ≠ "java/lang/invoke/VarHandle" ∧ (parseMethodDescriptor yX12_pairAt.desc).map (fun d => d.parameters.length) = some 1 := by decide +kernel
theorem dm_X12_joinFrom : yX12_joinFrom.cls = RX12 ∧ yX12_joinFrom.cls ≠ "java/lang/invoke/MethodHandle" ∧ yX12_joinFrom.cls ≠ "java/lang/invoke/VarHandle" ∧ (parseMethodDescriptor yX12_joinFrom.desc).map (fun d => d.parameters.length) = some 3 := by decide +kernel
set_option maxHeartbeats 4000000 in
set_option maxRecDepth 100000 in
theorem m_in (l : Launch) (D : va_G) (dA : Nat → ClassId) (b : Nat) (M : zM) (v : Int) (lo : Int) (hi : Int) (r_v : R32 v) (r_lo : R32 lo) (r_hi : R32 hi) : Met l yX12_in (.code yX12_in cX12_in 3 (some .boolean) :: zt) (z_rm 0) (va_Pc [.int (iI v), .int (iI lo), .int (iI hi)] (zP D dA vwCl (z_tys dA) wR nR b M)) (va_Qi (zQi wR (zms wR []) M (fun z M1 => M1 = M ∧ ((z = 1 ∧ lo ≤ v ∧ v ≤ hi) ∨ (z = 0 ∧ (v < lo ∨ hi < v))))) (zB D dA vwCl wR nR b) (zA nR b)) 0 0 (zA nR b) := by
  refine Met.ofW (cc := cX12_in) (maxL := 3) (ret := (some .boolean)) (by decide) rfl ?_
  intro p e s m args below meth c s₁ B hml hv
  obtain ⟨hargs, hR0, hJ, hK⟩ := hv
  have hx := B.exec
  have hb := B.bytes
  have hr := B.returns
  have hts := atoms_spec (ws := .code yX12_in cX12_in 3 (some .boolean) :: zt) B.pre
  have hown : s.vm.findClass RX12 = some m.cls := findClass_of_methodNamed B.named
  have hlocks := B.notSynchronized
  have hS : zS D dA vwCl wR nR b (zms wR []) M M s.heap := ⟨hR0, hJ, zF_rf _ _⟩
  have hS0 : va_S (zA nR b) s.heap s.heap [] := va_S.rf
  have hl := lv_entry ([.int (iI v), .int (iI lo), .int (iI hi)]) (n := 3) (Nat.le_of_ble_eq_true rfl)
  have hent : entryFrame m args 3 = F0 m 0 ((lg_sl ([.int (iI v), .int (iI lo), .int (iI hi)]) ++ List.replicate (3 - (lg_sl ([.int (iI v), .int (iI lo), .int (iI hi)])).length) Slot.unset).toArray) [] := by rw [hargs]; exact lg_entry_eq m ([.int (iI v), .int (iI lo), .int (iI hi)]) 3
  rw [hent]
  generalize (lg_sl ([.int (iI v), .int (iI lo), .int (iI hi)]) ++ List.replicate (3 - (lg_sl ([.int (iI v), .int (iI lo), .int (iI hi)])).length) Slot.unset).toArray = ls at hl ⊢
  have hl : lv_has ls 3 [(0, .int (iI v)), (1, .int (iI lo)), (2, .int (iI hi))] := hl
  refine lv_iload_n hx hb dX12_in_0 rfl (lv_at hl 0 rfl) ?_
  refine lv_iload_n hx hb dX12_in_1 rfl (lv_at hl 1 rfl) ?_
  refine z_icmp_lt (tgt := 14) hx hb r_v r_lo dX12_in_2 (by decide) (fun c1 => ?_) (fun c1 => ?_)
  · skip
    refine z_iconst hx hb dX12_in_14 ?_
    exact z_zret hx hb hr hlocks hS hS0 (by first | decide | omega) (⟨rfl, by first | exact trivial | exact ⟨rfl, trivial⟩ | omega | (refine ⟨by omega, trivial⟩)⟩) dX12_in_15
  · skip
    refine lv_iload_n hx hb dX12_in_5 rfl (lv_at hl 0 rfl) ?_
    refine lv_iload_n hx hb dX12_in_6 rfl (lv_at hl 2 rfl) ?_
    refine z_icmp_gt (tgt := 14) hx hb r_v r_hi dX12_in_7 (by decide) (fun c2 => ?_) (fun c2 => ?_)
    · skip
      refine z_iconst hx hb dX12_in_14 ?_
      exact z_zret hx hb hr hlocks hS hS0 (by first | decide | omega) (⟨rfl, by first | exact trivial | exact ⟨rfl, trivial⟩ | omega | (refine ⟨by omega, trivial⟩)⟩) dX12_in_15
    · skip
      refine z_iconst hx hb dX12_in_10 ?_
      refine lv_goto (tgt := 15) hx hb dX12_in_11 (by decide) ?_
      exact z_zret hx hb hr hlocks hS hS0 (by first | decide | omega) (⟨rfl, by first | exact trivial | exact ⟨rfl, trivial⟩ | omega | (refine ⟨by omega, trivial⟩)⟩) dX12_in_15

set_option maxHeartbeats 4000000 in
set_option maxRecDepth 100000 in
theorem m_isMotor (l : Launch) (D : va_G) (dA : Nat → ClassId) (b : Nat) (M : zM) (v : Int) (r_v : R32 v) : Met l yX12_isMotor (.code yX12_isMotor cX12_isMotor 1 (some .boolean) :: zt) (z_rm 0) (va_Pc [.int (iI v)] (zP D dA vwCl (z_tys dA) wR nR b M)) (va_Qi (zQi wR (zms wR []) M (fun z M1 => M1 = M ∧ ((z = 1 ∧ (v = 0 ∨ v = 1)) ∨ (z = 0 ∧ v ≠ 0 ∧ v ≠ 1)))) (zB D dA vwCl wR nR b) (zA nR b)) 0 0 (zA nR b) := by
  refine Met.ofW (cc := cX12_isMotor) (maxL := 1) (ret := (some .boolean)) (by decide) rfl ?_
  intro p e s m args below meth c s₁ B hml hv
  obtain ⟨hargs, hR0, hJ, hK⟩ := hv
  have hx := B.exec
  have hb := B.bytes
  have hr := B.returns
  have hts := atoms_spec (ws := .code yX12_isMotor cX12_isMotor 1 (some .boolean) :: zt) B.pre
  have hown : s.vm.findClass RX12 = some m.cls := findClass_of_methodNamed B.named
  have hlocks := B.notSynchronized
  have hS : zS D dA vwCl wR nR b (zms wR []) M M s.heap := ⟨hR0, hJ, zF_rf _ _⟩
  have hS0 : va_S (zA nR b) s.heap s.heap [] := va_S.rf
  have hl := lv_entry ([.int (iI v)]) (n := 1) (Nat.le_of_ble_eq_true rfl)
  have hent : entryFrame m args 1 = F0 m 0 ((lg_sl ([.int (iI v)]) ++ List.replicate (1 - (lg_sl ([.int (iI v)])).length) Slot.unset).toArray) [] := by rw [hargs]; exact lg_entry_eq m ([.int (iI v)]) 1
  rw [hent]
  generalize (lg_sl ([.int (iI v)]) ++ List.replicate (1 - (lg_sl ([.int (iI v)])).length) Slot.unset).toArray = ls at hl ⊢
  have hl : lv_has ls 1 [(0, .int (iI v))] := hl
  refine lv_iload_n hx hb dX12_isMotor_0 rfl (lv_at hl 0 rfl) ?_
  refine z_if_eq (tgt := 9) hx hb r_v dX12_isMotor_1 (by decide) (fun c1 => ?_) (fun c1 => ?_)
  · skip
    refine z_iconst hx hb dX12_isMotor_9 ?_
    refine lv_goto (tgt := 14) hx hb dX12_isMotor_10 (by decide) ?_
    exact z_zret hx hb hr hlocks hS hS0 (by first | decide | omega) (⟨rfl, by first | exact trivial | exact ⟨rfl, trivial⟩ | omega | (refine ⟨by omega, trivial⟩)⟩) dX12_isMotor_14
  · skip
    refine lv_iload_n hx hb dX12_isMotor_4 rfl (lv_at hl 0 rfl) ?_
    refine z_iconst hx hb dX12_isMotor_5 ?_
    refine z_icmp_ne (tgt := 13) hx hb r_v (by decide) dX12_isMotor_6 (by decide) (fun c2 => ?_) (fun c2 => ?_)
    · skip
      refine z_iconst hx hb dX12_isMotor_13 ?_
      exact z_zret hx hb hr hlocks hS hS0 (by first | decide | omega) (⟨rfl, by first | exact trivial | exact ⟨rfl, trivial⟩ | omega | (refine ⟨by omega, trivial⟩)⟩) dX12_isMotor_14
    · skip
      refine z_iconst hx hb dX12_isMotor_9 ?_
      refine lv_goto (tgt := 14) hx hb dX12_isMotor_10 (by decide) ?_
      exact z_zret hx hb hr hlocks hS hS0 (by first | decide | omega) (⟨rfl, by first | exact trivial | exact ⟨rfl, trivial⟩ | omega | (refine ⟨by omega, trivial⟩)⟩) dX12_isMotor_14

set_option maxHeartbeats 4000000 in
set_option maxRecDepth 100000 in
theorem m_areSounds (l : Launch) (D : va_G) (dA : Nat → ClassId) (b : Nat) (M : zM) (v : Int) (r_v : R32 v) : Met l yX12_areSounds (.code yX12_areSounds cX12_areSounds 1 (some .boolean) :: zt) (z_rm 0) (va_Pc [.int (iI v)] (zP D dA vwCl (z_tys dA) wR nR b M)) (va_Qi (zQi wR (zms wR []) M (fun z M1 => M1 = M ∧ ((z = 1 ∧ SND v) ∨ (z = 0 ∧ ¬ SND v)))) (zB D dA vwCl wR nR b) (zA nR b)) 0 0 (zA nR b) := by
  refine Met.ofW (cc := cX12_areSounds) (maxL := 1) (ret := (some .boolean)) (by decide) rfl ?_
  intro p e s m args below meth c s₁ B hml hv
  obtain ⟨hargs, hR0, hJ, hK⟩ := hv
  have hx := B.exec
  have hb := B.bytes
  have hr := B.returns
  have hts := atoms_spec (ws := .code yX12_areSounds cX12_areSounds 1 (some .boolean) :: zt) B.pre
  have hown : s.vm.findClass RX12 = some m.cls := findClass_of_methodNamed B.named
  have hlocks := B.notSynchronized
  have hS : zS D dA vwCl wR nR b (zms wR []) M M s.heap := ⟨hR0, hJ, zF_rf _ _⟩
  have hS0 : va_S (zA nR b) s.heap s.heap [] := va_S.rf
  have hl := lv_entry ([.int (iI v)]) (n := 1) (Nat.le_of_ble_eq_true rfl)
  have hent : entryFrame m args 1 = F0 m 0 ((lg_sl ([.int (iI v)]) ++ List.replicate (1 - (lg_sl ([.int (iI v)])).length) Slot.unset).toArray) [] := by rw [hargs]; exact lg_entry_eq m ([.int (iI v)]) 1
  rw [hent]
  generalize (lg_sl ([.int (iI v)]) ++ List.replicate (1 - (lg_sl ([.int (iI v)])).length) Slot.unset).toArray = ls at hl ⊢
  have hl : lv_has ls 1 [(0, .int (iI v))] := hl
  refine lv_iload_n hx hb dX12_areSounds_0 rfl (lv_at hl 0 rfl) ?_
  refine z_sipush hx hb (by decide) dX12_areSounds_1 ?_
  refine z_iand hx hb dX12_areSounds_4 (fun z1 r2 e3 => ?_)
  refine z_if_ne (tgt := 12) hx hb r2 dX12_areSounds_5 (by decide) (fun c4 => ?_) (fun c4 => ?_)
  · skip
    refine z_iconst hx hb dX12_areSounds_12 ?_
    exact z_zret hx hb hr hlocks hS hS0 (by first | decide | omega) (⟨rfl, Or.inr ⟨rfl, fun h9 => c4 (iI_inj r2 (by decide) (e3.trans h9))⟩⟩) dX12_areSounds_13
  · skip
    refine z_iconst hx hb dX12_areSounds_8 ?_
    refine lv_goto (tgt := 13) hx hb dX12_areSounds_9 (by decide) ?_
    exact z_zret hx hb hr hlocks hS hS0 (by first | decide | omega) (⟨rfl, Or.inl ⟨rfl, e3.symm.trans (by rw [c4])⟩⟩) dX12_areSounds_13

set_option maxHeartbeats 4000000 in
set_option maxRecDepth 100000 in
theorem m_isRing (l : Launch) (D : va_G) (dA : Nat → ClassId) (b : Nat) (M : zM) (rr : Int) (r_rr : R32 rr) (g0 : M 0 10 = 0) : Met l yX12_isRing (.code yX12_isRing cX12_isRing 2 (some .boolean) :: zt) (z_rm 1) (va_Pc [.ref (b + 0), .int (iI rr)] (zP D dA vwCl (z_tys dA) wR nR b M)) (va_Qi (zQi wR (zms wR []) M (fun z M1 => M1 = M ∧ (z = 0 ∧ True))) (zB D dA vwCl wR nR b) (zA nR b)) 0 0 (zA nR b) := by
  refine Met.ofW (cc := cX12_isRing) (maxL := 2) (ret := (some .boolean)) (by decide) rfl ?_
  intro p e s m args below meth c s₁ B hml hv
  obtain ⟨hargs, hR0, hJ, hK⟩ := hv
  have hx := B.exec
  have hb := B.bytes
  have hr := B.returns
  have hts := atoms_spec (ws := .code yX12_isRing cX12_isRing 2 (some .boolean) :: zt) B.pre
  have hown : s.vm.findClass RX12 = some m.cls := findClass_of_methodNamed B.named
  have hlocks := B.notSynchronized
  have hS : zS D dA vwCl wR nR b (zms wR []) M M s.heap := ⟨hR0, hJ, zF_rf _ _⟩
  have hS0 : va_S (zA nR b) s.heap s.heap [] := va_S.rf
  have hl := lv_entry ([.ref (b + 0), .int (iI rr)]) (n := 2) (Nat.le_of_ble_eq_true rfl)
  have hent : entryFrame m args 2 = F0 m 0 ((lg_sl ([.ref (b + 0), .int (iI rr)]) ++ List.replicate (2 - (lg_sl ([.ref (b + 0), .int (iI rr)])).length) Slot.unset).toArray) [] := by rw [hargs]; exact lg_entry_eq m ([.ref (b + 0), .int (iI rr)]) 2
  rw [hent]
  generalize (lg_sl ([.ref (b + 0), .int (iI rr)]) ++ List.replicate (2 - (lg_sl ([.ref (b + 0), .int (iI rr)])).length) Slot.unset).toArray = ls at hl ⊢
  have hl : lv_has ls 2 [(0, .ref (b + 0)), (1, .int (iI rr))] := hl
  refine lv_iload_n hx hb dX12_isRing_0 rfl (lv_at hl 1 rfl) ?_
  refine z_iconst hx hb dX12_isRing_1 ?_
  refine lv_aload_n hx hb dX12_isRing_2 rfl (lv_at hl 0 rfl) ?_
  refine z_geti hx hb hts (z_memU u12) hown hK.1 hS f12_10 (by decide) (zkd_of (rfl : zcd wR 0 = 50) rfl) (Or.inl (hts _ (z_mem k954))) dX12_isRing_3 ?_
  refine z_top (show M 0 10 = 0 from by rw [g0]) ?_
  refine z_iconst hx hb dX12_isRing_6 ?_
  refine z_isub hx hb dX12_isRing_7 ?_
  refine z_top (show ((0 - 1) : Int) = (-1) from (by decide)) ?_
  refine z_calli (va_runS (As := [.int (iI rr), .int (iI 0), .int (iI (-1))]) (rest := []) ⟨hx, hb, hml, hown, hts⟩ (m_in l D dA b M rr 0 (-1) r_rr (by decide) (by decide)) (va_cwS 3 hts (z_gS k1087 k1088 k14 k1089) rfl rfl rfl dm_X12_in.2 ⟨Nat.le_of_ble_eq_true rfl, Nat.le_of_ble_eq_true rfl⟩) ⟨zP_blind, z_pre hS hK⟩ rfl rfl hl.1 rfl (lv_room (Nat.le_of_ble_eq_true rfl)) dX12_isRing_8 ⟨Nat.le_refl _, Nat.le_refl _⟩) hS hS0 (zms_sub rfl) (fun z5 M1 H locs r6 h2 F3 hS hS0 => ?_)
  obtain ⟨h7, h2⟩ := h2
  rw [h7] at hS
  rcases h2 with h8 | h9
  · skip
    exfalso
    omega
  · skip
    obtain ⟨z5e, h9⟩ := h9
    subst z5e
    exact z_zret hx hb hr hlocks hS hS0 (by first | decide | omega) (⟨rfl, by first | exact trivial | exact ⟨rfl, trivial⟩ | omega | (refine ⟨by omega, trivial⟩)⟩) dX12_isRing_11

set_option maxHeartbeats 4000000 in
set_option maxRecDepth 100000 in
theorem m_sign (l : Launch) (D : va_G) (dA : Nat → ClassId) (b : Nat) (M : zM) (v : Int) (r_v : R32 v) (g0 : M 0 1 = 0) : Met l yX12_sign (.code yX12_sign cX12_sign 2 (some .int) :: zt) (z_rm 0) (va_Pc [.ref (b + 0), .int (iI v)] (zP D dA vwCl (z_tys dA) wR nR b M)) (va_Qi (zQi wR (zms wR [3235, 3201, 3327]) M (fun z M1 => z = 4 ∧ True)) (zB D dA vwCl wR nR b) (zA nR b)) 0 0 (zA nR b) := by
  refine Met.ofW (cc := cX12_sign) (maxL := 2) (ret := (some .int)) (by decide) rfl ?_
  intro p e s m args below meth c s₁ B hml hv
  obtain ⟨hargs, hR0, hJ, hK⟩ := hv
  have hx := B.exec
  have hb := B.bytes
  have hr := B.returns
  have hts := atoms_spec (ws := .code yX12_sign cX12_sign 2 (some .int) :: zt) B.pre
  have hown : s.vm.findClass RX12 = some m.cls := findClass_of_methodNamed B.named
  have hlocks := B.notSynchronized
  have hS : zS D dA vwCl wR nR b (zms wR [3235, 3201, 3327]) M M s.heap := ⟨hR0, hJ, zF_rf _ _⟩
  have hS0 : va_S (zA nR b) s.heap s.heap [] := va_S.rf
  have hl := lv_entry ([.ref (b + 0), .int (iI v)]) (n := 2) (Nat.le_of_ble_eq_true rfl)
  have hent : entryFrame m args 2 = F0 m 0 ((lg_sl ([.ref (b + 0), .int (iI v)]) ++ List.replicate (2 - (lg_sl ([.ref (b + 0), .int (iI v)])).length) Slot.unset).toArray) [] := by rw [hargs]; exact lg_entry_eq m ([.ref (b + 0), .int (iI v)]) 2
  rw [hent]
  generalize (lg_sl ([.ref (b + 0), .int (iI v)]) ++ List.replicate (2 - (lg_sl ([.ref (b + 0), .int (iI v)])).length) Slot.unset).toArray = ls at hl ⊢
  have hl : lv_has ls 2 [(0, .ref (b + 0)), (1, .int (iI v))] := hl
  refine lv_aload_n hx hb dX12_sign_0 rfl (lv_at hl 0 rfl) ?_
  refine z_iconst hx hb dX12_sign_1 ?_
  refine z_puti hx hb hts (z_memU u12) tyX12 tyX12_ok nmX12 hown hK.1 hS hS0 f12_35 (by decide) (zkd_of (rfl : zcd wR 0 = 50) rfl) (Or.inl (hts _ (z_mem k979))) rfl (z := 0) (by decide +kernel) (zbd_in (rfl : zcd wR 0 = 50) rfl (by decide)) (zms_of (rfl : zcd wR 0 = 50) rfl) dX12_sign_2 (fun H locs hS hS0 => ?_)
  obtain ⟨M1, e2⟩ : ∃ M1 : zM, M1 = zup M 0 35 0 := ⟨_, rfl⟩
  rw [← e2] at hS
  have J3 := hS.2.1
  refine lv_aload_n hx hb dX12_sign_5 rfl (lv_at hl 0 rfl) ?_
  refine z_geti hx hb hts (z_memU u12) hown hK.1 hS f12_1 (by decide) (zkd_of (rfl : zcd wR 0 = 50) rfl) (Or.inl (hts _ (z_mem k945))) dX12_sign_6 ?_
  refine z_top (show M1 0 1 = 0 from by rw [e2, zup_n _ _ (by omega), g0]) ?_
  refine z_iconst hx hb dX12_sign_9 ?_
  refine z_iadd hx hb dX12_sign_10 ?_
  refine z_top (show ((0 + 4) : Int) = 4 from (by decide)) ?_
  refine z_bipush hx hb (by decide) dX12_sign_11 ?_
  refine z_icmp_le (tgt := 18) hx hb (by decide) (by decide) dX12_sign_13 (by decide) (fun c4 => ?_) (fun c4 => absurd c4 (by decide))
  refine lv_aload_n hx hb dX12_sign_18 rfl (lv_at hl 0 rfl) ?_
  refine z_getr (j2 := 1) hx hb hts (z_memU u12) hown hK.1 hS f12_0 (by decide) (zkd_of (rfl : zcd wR 0 = 50) rfl) (zrf_of (rfl : zcd wR 0 = 50) rfl) (Or.inl (hts _ (z_mem k944))) dX12_sign_19 ?_
  refine lv_aload_n hx hb dX12_sign_22 rfl (lv_at hl 0 rfl) ?_
  refine z_geti hx hb hts (z_memU u12) hown hK.1 hS f12_1 (by decide) (zkd_of (rfl : zcd wR 0 = 50) rfl) (Or.inl (hts _ (z_mem k945))) dX12_sign_23 ?_
  refine z_top (show M1 0 1 = 0 from by rw [e2, zup_n _ _ (by omega), g0]) ?_
  refine lv_iload_n hx hb dX12_sign_26 rfl (lv_at hl 1 rfl) ?_
  refine z_bipush hx hb (by decide) dX12_sign_27 ?_
  refine z_ishr hx hb dX12_sign_29 (fun z5 r6 e7 => ?_)
  refine z_i2b hx hb dX12_sign_30 (fun z8 r9 e10 => ?_)
  refine z_bast (n := 100) hx hb hK.1 (t0 := 2) rfl hS hS0 (by decide) (zkd_of (rfl : zcd wR 1 = 51) rfl) (zln_of (rfl : zcd wR 1 = 51) rfl) (by decide) (by decide) (by decide) (zbd_in (rfl : zcd wR 1 = 51) rfl ⟨by omega, by omega⟩) ⟨by omega, by omega⟩ (zms_of (rfl : zcd wR 1 = 51) rfl) dX12_sign_31 (fun H locs hS hS0 => ?_)
  obtain ⟨M11, e12⟩ : ∃ M11 : zM, M11 = zup M1 1 ((0 : Int).toNat) z8 := ⟨_, rfl⟩
  rw [← e12] at hS
  have J13 := hS.2.1
  refine lv_aload_n hx hb dX12_sign_32 rfl (lv_at hl 0 rfl) ?_
  refine z_getr (j2 := 1) hx hb hts (z_memU u12) hown hK.1 hS f12_0 (by decide) (zkd_of (rfl : zcd wR 0 = 50) rfl) (zrf_of (rfl : zcd wR 0 = 50) rfl) (Or.inl (hts _ (z_mem k944))) dX12_sign_33 ?_
  refine lv_aload_n hx hb dX12_sign_36 rfl (lv_at hl 0 rfl) ?_
  refine z_geti hx hb hts (z_memU u12) hown hK.1 hS f12_1 (by decide) (zkd_of (rfl : zcd wR 0 = 50) rfl) (Or.inl (hts _ (z_mem k945))) dX12_sign_37 ?_
  refine z_top (show M11 0 1 = 0 from by rw [e12, zup_n _ _ (by omega), e2, zup_n _ _ (by omega), g0]) ?_
  refine z_iconst hx hb dX12_sign_40 ?_
  refine z_iadd hx hb dX12_sign_41 ?_
  refine z_top (show ((0 + 1) : Int) = 1 from (by decide)) ?_
  refine lv_iload_n hx hb dX12_sign_42 rfl (lv_at hl 1 rfl) ?_
  refine z_bipush hx hb (by decide) dX12_sign_43 ?_
  refine z_ishr hx hb dX12_sign_45 (fun z14 r15 e16 => ?_)
  refine z_i2b hx hb dX12_sign_46 (fun z17 r18 e19 => ?_)
  refine z_bast (n := 100) hx hb hK.1 (t0 := 2) rfl hS hS0 (by decide) (zkd_of (rfl : zcd wR 1 = 51) rfl) (zln_of (rfl : zcd wR 1 = 51) rfl) (by decide) (by decide) (by decide) (zbd_in (rfl : zcd wR 1 = 51) rfl ⟨by omega, by omega⟩) ⟨by omega, by omega⟩ (zms_of (rfl : zcd wR 1 = 51) rfl) dX12_sign_47 (fun H locs hS hS0 => ?_)
  obtain ⟨M20, e21⟩ : ∃ M20 : zM, M20 = zup M11 1 ((1 : Int).toNat) z17 := ⟨_, rfl⟩
  rw [← e21] at hS
  have J22 := hS.2.1
  refine lv_aload_n hx hb dX12_sign_48 rfl (lv_at hl 0 rfl) ?_
  refine z_getr (j2 := 1) hx hb hts (z_memU u12) hown hK.1 hS f12_0 (by decide) (zkd_of (rfl : zcd wR 0 = 50) rfl) (zrf_of (rfl : zcd wR 0 = 50) rfl) (Or.inl (hts _ (z_mem k944))) dX12_sign_49 ?_
  refine lv_aload_n hx hb dX12_sign_52 rfl (lv_at hl 0 rfl) ?_
  refine z_geti hx hb hts (z_memU u12) hown hK.1 hS f12_1 (by decide) (zkd_of (rfl : zcd wR 0 = 50) rfl) (Or.inl (hts _ (z_mem k945))) dX12_sign_53 ?_
  refine z_top (show M20 0 1 = 0 from by rw [e21, zup_n _ _ (by omega), e12, zup_n _ _ (by omega), e2, zup_n _ _ (by omega), g0]) ?_
  refine z_iconst hx hb dX12_sign_56 ?_
  refine z_iadd hx hb dX12_sign_57 ?_
  refine z_top (show ((0 + 2) : Int) = 2 from (by decide)) ?_
  refine lv_iload_n hx hb dX12_sign_58 rfl (lv_at hl 1 rfl) ?_
  refine z_bipush hx hb (by decide) dX12_sign_59 ?_
  refine z_ishr hx hb dX12_sign_61 (fun z23 r24 e25 => ?_)
  refine z_i2b hx hb dX12_sign_62 (fun z26 r27 e28 => ?_)
  refine z_bast (n := 100) hx hb hK.1 (t0 := 2) rfl hS hS0 (by decide) (zkd_of (rfl : zcd wR 1 = 51) rfl) (zln_of (rfl : zcd wR 1 = 51) rfl) (by decide) (by decide) (by decide) (zbd_in (rfl : zcd wR 1 = 51) rfl ⟨by omega, by omega⟩) ⟨by omega, by omega⟩ (zms_of (rfl : zcd wR 1 = 51) rfl) dX12_sign_63 (fun H locs hS hS0 => ?_)
  obtain ⟨M29, e30⟩ : ∃ M29 : zM, M29 = zup M20 1 ((2 : Int).toNat) z26 := ⟨_, rfl⟩
  rw [← e30] at hS
  have J31 := hS.2.1
  refine lv_aload_n hx hb dX12_sign_64 rfl (lv_at hl 0 rfl) ?_
  refine z_getr (j2 := 1) hx hb hts (z_memU u12) hown hK.1 hS f12_0 (by decide) (zkd_of (rfl : zcd wR 0 = 50) rfl) (zrf_of (rfl : zcd wR 0 = 50) rfl) (Or.inl (hts _ (z_mem k944))) dX12_sign_65 ?_
  refine lv_aload_n hx hb dX12_sign_68 rfl (lv_at hl 0 rfl) ?_
  refine z_geti hx hb hts (z_memU u12) hown hK.1 hS f12_1 (by decide) (zkd_of (rfl : zcd wR 0 = 50) rfl) (Or.inl (hts _ (z_mem k945))) dX12_sign_69 ?_
  refine z_top (show M29 0 1 = 0 from by rw [e30, zup_n _ _ (by omega), e21, zup_n _ _ (by omega), e12, zup_n _ _ (by omega), e2, zup_n _ _ (by omega), g0]) ?_
  refine z_iconst hx hb dX12_sign_72 ?_
  refine z_iadd hx hb dX12_sign_73 ?_
  refine z_top (show ((0 + 3) : Int) = 3 from (by decide)) ?_
  refine lv_iload_n hx hb dX12_sign_74 rfl (lv_at hl 1 rfl) ?_
  refine z_i2b hx hb dX12_sign_75 (fun z32 r33 e34 => ?_)
  refine z_bast (n := 100) hx hb hK.1 (t0 := 2) rfl hS hS0 (by decide) (zkd_of (rfl : zcd wR 1 = 51) rfl) (zln_of (rfl : zcd wR 1 = 51) rfl) (by decide) (by decide) (by decide) (zbd_in (rfl : zcd wR 1 = 51) rfl ⟨by omega, by omega⟩) ⟨by omega, by omega⟩ (zms_of (rfl : zcd wR 1 = 51) rfl) dX12_sign_76 (fun H locs hS hS0 => ?_)
  obtain ⟨M35, e36⟩ : ∃ M35 : zM, M35 = zup M29 1 ((3 : Int).toNat) z32 := ⟨_, rfl⟩
  rw [← e36] at hS
  have J37 := hS.2.1
  refine lv_aload_n hx hb dX12_sign_77 rfl (lv_at hl 0 rfl) ?_
  refine lv_dup hx hb dX12_sign_78 rfl ?_
  refine z_geti hx hb hts (z_memU u12) hown hK.1 hS f12_1 (by decide) (zkd_of (rfl : zcd wR 0 = 50) rfl) (Or.inl (hts _ (z_mem k945))) dX12_sign_79 ?_
  refine z_top (show M35 0 1 = 0 from by rw [e36, zup_n _ _ (by omega), e30, zup_n _ _ (by omega), e21, zup_n _ _ (by omega), e12, zup_n _ _ (by omega), e2, zup_n _ _ (by omega), g0]) ?_
  refine z_iconst hx hb dX12_sign_82 ?_
  refine z_iadd hx hb dX12_sign_83 ?_
  refine z_top (show ((0 + 4) : Int) = 4 from (by decide)) ?_
  refine z_puti hx hb hts (z_memU u12) tyX12 tyX12_ok nmX12 hown hK.1 hS hS0 f12_1 (by decide) (zkd_of (rfl : zcd wR 0 = 50) rfl) (Or.inl (hts _ (z_mem k945))) rfl (z := 4) (by decide +kernel) (zbd_in (rfl : zcd wR 0 = 50) rfl (by decide)) (zms_of (rfl : zcd wR 0 = 50) rfl) dX12_sign_84 (fun H locs hS hS0 => ?_)
  obtain ⟨M38, e39⟩ : ∃ M38 : zM, M38 = zup M35 0 1 4 := ⟨_, rfl⟩
  rw [← e39] at hS
  have J40 := hS.2.1
  refine lv_aload_n hx hb dX12_sign_87 rfl (lv_at hl 0 rfl) ?_
  refine z_geti hx hb hts (z_memU u12) hown hK.1 hS f12_1 (by decide) (zkd_of (rfl : zcd wR 0 = 50) rfl) (Or.inl (hts _ (z_mem k945))) dX12_sign_88 ?_
  refine z_top (show M38 0 1 = 4 from by rw [e39, zup_s]) ?_
  exact z_iret hx hb hr hlocks hS hS0 (by decide) (by first | exact trivial | exact ⟨rfl, trivial⟩ | omega | (refine ⟨by omega, trivial⟩)) dX12_sign_91

set_option maxHeartbeats 4000000 in
set_option maxRecDepth 100000 in
theorem m_end (l : Launch) (D : va_G) (dA : Nat → ClassId) (b : Nat) (M : zM) (n : Int) (r_n : R32 n) (g0 : M 0 1 = 0) : Met l yX12_end (.code yX12_end cX12_end 2 (some .boolean) :: zt) (z_rm 0) (va_Pc [.ref (b + 0), .int (iI n)] (zP D dA vwCl (z_tys dA) wR nR b M)) (va_Qi (zQi wR (zms wR [3235, 3201]) M (fun z M1 => (z = 1 ∧ n = 0) ∨ (z = 0 ∧ n ≠ 0))) (zB D dA vwCl wR nR b) (zA nR b)) 0 0 (zA nR b) := by
  refine Met.ofW (cc := cX12_end) (maxL := 2) (ret := (some .boolean)) (by decide) rfl ?_
  intro p e s m args below meth c s₁ B hml hv
  obtain ⟨hargs, hR0, hJ, hK⟩ := hv
  have hx := B.exec
  have hb := B.bytes
  have hr := B.returns
  have hts := atoms_spec (ws := .code yX12_end cX12_end 2 (some .boolean) :: zt) B.pre
  have hown : s.vm.findClass RX12 = some m.cls := findClass_of_methodNamed B.named
  have hlocks := B.notSynchronized
  have hS : zS D dA vwCl wR nR b (zms wR [3235, 3201]) M M s.heap := ⟨hR0, hJ, zF_rf _ _⟩
  have hS0 : va_S (zA nR b) s.heap s.heap [] := va_S.rf
  have hl := lv_entry ([.ref (b + 0), .int (iI n)]) (n := 2) (Nat.le_of_ble_eq_true rfl)
  have hent : entryFrame m args 2 = F0 m 0 ((lg_sl ([.ref (b + 0), .int (iI n)]) ++ List.replicate (2 - (lg_sl ([.ref (b + 0), .int (iI n)])).length) Slot.unset).toArray) [] := by rw [hargs]; exact lg_entry_eq m ([.ref (b + 0), .int (iI n)]) 2
  rw [hent]
  generalize (lg_sl ([.ref (b + 0), .int (iI n)]) ++ List.replicate (2 - (lg_sl ([.ref (b + 0), .int (iI n)])).length) Slot.unset).toArray = ls at hl ⊢
  have hl : lv_has ls 2 [(0, .ref (b + 0)), (1, .int (iI n))] := hl
  refine lv_aload_n hx hb dX12_end_0 rfl (lv_at hl 0 rfl) ?_
  refine z_iconst hx hb dX12_end_1 ?_
  refine z_puti hx hb hts (z_memU u12) tyX12 tyX12_ok nmX12 hown hK.1 hS hS0 f12_35 (by decide) (zkd_of (rfl : zcd wR 0 = 50) rfl) (Or.inl (hts _ (z_mem k979))) rfl (z := 0) (by decide +kernel) (zbd_in (rfl : zcd wR 0 = 50) rfl (by decide)) (zms_of (rfl : zcd wR 0 = 50) rfl) dX12_end_2 (fun H locs hS hS0 => ?_)
  obtain ⟨M1, e2⟩ : ∃ M1 : zM, M1 = zup M 0 35 0 := ⟨_, rfl⟩
  rw [← e2] at hS
  have J3 := hS.2.1
  refine lv_iload_n hx hb dX12_end_5 rfl (lv_at hl 1 rfl) ?_
  refine z_if_lt (tgt := 17) hx hb r_n dX12_end_6 (by decide) (fun c4 => ?_) (fun c4 => ?_)
  · skip
    refine z_iconst hx hb dX12_end_17 ?_
    exact z_zret hx hb hr hlocks hS hS0 (by first | decide | omega) (by first | exact trivial | exact ⟨rfl, trivial⟩ | omega | (refine ⟨by omega, trivial⟩)) dX12_end_18
  · skip
    refine lv_iload_n hx hb dX12_end_9 rfl (lv_at hl 1 rfl) ?_
    refine lv_aload_n hx hb dX12_end_10 rfl (lv_at hl 0 rfl) ?_
    refine z_geti hx hb hts (z_memU u12) hown hK.1 hS f12_1 (by decide) (zkd_of (rfl : zcd wR 0 = 50) rfl) (Or.inl (hts _ (z_mem k945))) dX12_end_11 ?_
    refine z_top (show M1 0 1 = 0 from by rw [e2, zup_n _ _ (by omega), g0]) ?_
    refine z_icmp_le (tgt := 19) hx hb r_n (by decide) dX12_end_14 (by decide) (fun c5 => ?_) (fun c5 => ?_)
    · skip
      refine lv_aload_n hx hb dX12_end_19 rfl (lv_at hl 0 rfl) ?_
      refine lv_iload_n hx hb dX12_end_20 rfl (lv_at hl 1 rfl) ?_
      refine z_puti hx hb hts (z_memU u12) tyX12 tyX12_ok nmX12 hown hK.1 hS hS0 f12_1 (by decide) (zkd_of (rfl : zcd wR 0 = 50) rfl) (Or.inl (hts _ (z_mem k945))) rfl (z := n) (by decide +kernel) (zbd_in (rfl : zcd wR 0 = 50) rfl ⟨by omega, by omega⟩) (zms_of (rfl : zcd wR 0 = 50) rfl) dX12_end_21 (fun H locs hS hS0 => ?_)
      obtain ⟨M6, e7⟩ : ∃ M6 : zM, M6 = zup M1 0 1 n := ⟨_, rfl⟩
      rw [← e7] at hS
      have J8 := hS.2.1
      refine z_iconst hx hb dX12_end_24 ?_
      exact z_zret hx hb hr hlocks hS hS0 (by first | decide | omega) (by first | exact trivial | exact ⟨rfl, trivial⟩ | omega | (refine ⟨by omega, trivial⟩)) dX12_end_25
    · skip
      refine z_iconst hx hb dX12_end_17 ?_
      exact z_zret hx hb hr hlocks hS hS0 (by first | decide | omega) (by first | exact trivial | exact ⟨rfl, trivial⟩ | omega | (refine ⟨by omega, trivial⟩)) dX12_end_18

set_option maxHeartbeats 4000000 in
set_option maxRecDepth 100000 in
theorem m_has (l : Launch) (D : va_G) (dA : Nat → ClassId) (b : Nat) (M : zM) (lo : Int) (hi : Int) (r_lo : R32 lo) (r_hi : R32 hi) (g0 : M 0 1 = 0) : Met l yX12_has (.code yX12_has cX12_has 3 (some .boolean) :: zt) (z_rm 0) (va_Pc [.ref (b + 0), .int (iI lo), .int (iI hi)] (zP D dA vwCl (z_tys dA) wR nR b M)) (va_Qi (zQi wR (zms wR []) M (fun z M1 => M1 = M ∧ (z = 0 ∧ True))) (zB D dA vwCl wR nR b) (zA nR b)) 0 0 (zA nR b) := by
  refine Met.ofW (cc := cX12_has) (maxL := 3) (ret := (some .boolean)) (by decide) rfl ?_
  intro p e s m args below meth c s₁ B hml hv
  obtain ⟨hargs, hR0, hJ, hK⟩ := hv
  have hx := B.exec
  have hb := B.bytes
  have hr := B.returns
  have hts := atoms_spec (ws := .code yX12_has cX12_has 3 (some .boolean) :: zt) B.pre
  have hown : s.vm.findClass RX12 = some m.cls := findClass_of_methodNamed B.named
  have hlocks := B.notSynchronized
  have hS : zS D dA vwCl wR nR b (zms wR []) M M s.heap := ⟨hR0, hJ, zF_rf _ _⟩
  have hS0 : va_S (zA nR b) s.heap s.heap [] := va_S.rf
  have hl := lv_entry ([.ref (b + 0), .int (iI lo), .int (iI hi)]) (n := 3) (Nat.le_of_ble_eq_true rfl)
  have hent : entryFrame m args 3 = F0 m 0 ((lg_sl ([.ref (b + 0), .int (iI lo), .int (iI hi)]) ++ List.replicate (3 - (lg_sl ([.ref (b + 0), .int (iI lo), .int (iI hi)])).length) Slot.unset).toArray) [] := by rw [hargs]; exact lg_entry_eq m ([.ref (b + 0), .int (iI lo), .int (iI hi)]) 3
  rw [hent]
  generalize (lg_sl ([.ref (b + 0), .int (iI lo), .int (iI hi)]) ++ List.replicate (3 - (lg_sl ([.ref (b + 0), .int (iI lo), .int (iI hi)])).length) Slot.unset).toArray = ls at hl ⊢
  have hl : lv_has ls 3 [(0, .ref (b + 0)), (1, .int (iI lo)), (2, .int (iI hi))] := hl
  refine lv_aload_n hx hb dX12_has_0 rfl (lv_at hl 0 rfl) ?_
  refine z_geti hx hb hts (z_memU u12) hown hK.1 hS f12_36 (by decide) (zkd_of (rfl : zcd wR 0 = 50) rfl) (Or.inl (hts _ (z_mem k980))) dX12_has_1 ?_
  have q1 : (0 : Int) ≤ M 0 36 ∧ M 0 36 ≤ 100 := zJ_at hJ (rfl : zcd wR 0 = 50) rfl
  refine lv_aload_n hx hb dX12_has_4 rfl (lv_at hl 0 rfl) ?_
  refine z_geti hx hb hts (z_memU u12) hown hK.1 hS f12_1 (by decide) (zkd_of (rfl : zcd wR 0 = 50) rfl) (Or.inl (hts _ (z_mem k945))) dX12_has_5 ?_
  refine z_top (show M 0 1 = 0 from by rw [g0]) ?_
  refine z_icmp_ge (tgt := 50) hx hb (r32b q1 (by decide) (by decide)) (by decide) dX12_has_8 (by decide) (fun c2 => ?_) (fun c2 => absurd c2 (by omega))
  refine z_iconst hx hb dX12_has_50 ?_
  exact z_zret hx hb hr hlocks hS hS0 (by first | decide | omega) (⟨rfl, by first | exact trivial | exact ⟨rfl, trivial⟩ | omega | (refine ⟨by omega, trivial⟩)⟩) dX12_has_51

set_option maxHeartbeats 4000000 in
set_option maxRecDepth 100000 in
theorem m_isWrong (l : Launch) (D : va_G) (dA : Nat → ClassId) (b : Nat) (M : zM) (g0 : M 0 37 = (-1)) (g1 : M 0 36 = 0) : Met l yX12_isWrong (.code yX12_isWrong cX12_isWrong 1 (some .boolean) :: zt) (z_rm 0) (va_Pc [.ref (b + 0)] (zP D dA vwCl (z_tys dA) wR nR b M)) (va_Qi (zQi wR (zms wR [3237]) M (fun z M1 => (z = 0 ∧ True) ∧ M1 0 37 = 0)) (zB D dA vwCl wR nR b) (zA nR b)) 0 0 (zA nR b) := by
  refine Met.ofW (cc := cX12_isWrong) (maxL := 1) (ret := (some .boolean)) (by decide) rfl ?_
  intro p e s m args below meth c s₁ B hml hv
  obtain ⟨hargs, hR0, hJ, hK⟩ := hv
  have hx := B.exec
  have hb := B.bytes
  have hr := B.returns
  have hts := atoms_spec (ws := .code yX12_isWrong cX12_isWrong 1 (some .boolean) :: zt) B.pre
  have hown : s.vm.findClass RX12 = some m.cls := findClass_of_methodNamed B.named
  have hlocks := B.notSynchronized
  have hS : zS D dA vwCl wR nR b (zms wR [3237]) M M s.heap := ⟨hR0, hJ, zF_rf _ _⟩
  have hS0 : va_S (zA nR b) s.heap s.heap [] := va_S.rf
  have hl := lv_entry ([.ref (b + 0)]) (n := 1) (Nat.le_of_ble_eq_true rfl)
  have hent : entryFrame m args 1 = F0 m 0 ((lg_sl ([.ref (b + 0)]) ++ List.replicate (1 - (lg_sl ([.ref (b + 0)])).length) Slot.unset).toArray) [] := by rw [hargs]; exact lg_entry_eq m ([.ref (b + 0)]) 1
  rw [hent]
  generalize (lg_sl ([.ref (b + 0)]) ++ List.replicate (1 - (lg_sl ([.ref (b + 0)])).length) Slot.unset).toArray = ls at hl ⊢
  have hl : lv_has ls 1 [(0, .ref (b + 0))] := hl
  refine lv_aload_n hx hb dX12_isWrong_0 rfl (lv_at hl 0 rfl) ?_
  refine z_geti hx hb hts (z_memU u12) hown hK.1 hS f12_37 (by decide) (zkd_of (rfl : zcd wR 0 = 50) rfl) (Or.inl (hts _ (z_mem k981))) dX12_isWrong_1 ?_
  refine z_top (show M 0 37 = (-1) from by rw [g0]) ?_
  refine z_iconst hx hb dX12_isWrong_4 ?_
  refine z_icmp_ne (tgt := 16) hx hb (by decide) (by decide) dX12_isWrong_5 (by decide) (fun c1 => absurd c1 (by decide)) (fun c1 => ?_)
  refine lv_aload_n hx hb dX12_isWrong_8 rfl (lv_at hl 0 rfl) ?_
  refine lv_aload_n hx hb dX12_isWrong_9 rfl (lv_at hl 0 rfl) ?_
  refine z_geti hx hb hts (z_memU u12) hown hK.1 hS f12_36 (by decide) (zkd_of (rfl : zcd wR 0 = 50) rfl) (Or.inl (hts _ (z_mem k980))) dX12_isWrong_10 ?_
  refine z_top (show M 0 36 = 0 from by rw [g1]) ?_
  refine z_puti hx hb hts (z_memU u12) tyX12 tyX12_ok nmX12 hown hK.1 hS hS0 f12_37 (by decide) (zkd_of (rfl : zcd wR 0 = 50) rfl) (Or.inl (hts _ (z_mem k981))) rfl (z := 0) (by decide +kernel) (zbd_in (rfl : zcd wR 0 = 50) rfl (by decide)) (zms_of (rfl : zcd wR 0 = 50) rfl) dX12_isWrong_13 (fun H locs hS hS0 => ?_)
  obtain ⟨M2, e3⟩ : ∃ M2 : zM, M2 = zup M 0 37 0 := ⟨_, rfl⟩
  rw [← e3] at hS
  have J4 := hS.2.1
  refine z_iconst hx hb dX12_isWrong_16 ?_
  exact z_zret hx hb hr hlocks hS hS0 (by first | decide | omega) (⟨by first | exact trivial | exact ⟨rfl, trivial⟩ | omega | (refine ⟨by omega, trivial⟩), by rw [e3, zup_s]⟩) dX12_isWrong_17

set_option maxHeartbeats 4000000 in
set_option maxRecDepth 100000 in
theorem m_skipAtom (l : Launch) (D : va_G) (dA : Nat → ClassId) (b : Nat) (M : zM) (dp : Int) (r_dp : R32 dp) (g0 : M 0 1 = 0) (g1 : M 0 37 = (-1)) (g2 : M 0 36 = 0) : Met l yX12_skipAtom (.code yX12_skipAtom cX12_skipAtom 2 (some .boolean) :: zt) (z_rm 1) (va_Pc [.ref (b + 0), .int (iI dp)] (zP D dA vwCl (z_tys dA) wR nR b M)) (va_Qi (zQi wR (zms wR [3237]) M (fun z M1 => (z = 0 ∧ True) ∧ M1 0 37 = 0)) (zB D dA vwCl wR nR b) (zA nR b)) 0 0 (zA nR b) := by
  refine Met.ofW (cc := cX12_skipAtom) (maxL := 2) (ret := (some .boolean)) (by decide) rfl ?_
  intro p e s m args below meth c s₁ B hml hv
  obtain ⟨hargs, hR0, hJ, hK⟩ := hv
  have hx := B.exec
  have hb := B.bytes
  have hr := B.returns
  have hts := atoms_spec (ws := .code yX12_skipAtom cX12_skipAtom 2 (some .boolean) :: zt) B.pre
  have hown : s.vm.findClass RX12 = some m.cls := findClass_of_methodNamed B.named
  have hlocks := B.notSynchronized
  have hS : zS D dA vwCl wR nR b (zms wR [3237]) M M s.heap := ⟨hR0, hJ, zF_rf _ _⟩
  have hS0 : va_S (zA nR b) s.heap s.heap [] := va_S.rf
  have hl := lv_entry ([.ref (b + 0), .int (iI dp)]) (n := 2) (Nat.le_of_ble_eq_true rfl)
  have hent : entryFrame m args 2 = F0 m 0 ((lg_sl ([.ref (b + 0), .int (iI dp)]) ++ List.replicate (2 - (lg_sl ([.ref (b + 0), .int (iI dp)])).length) Slot.unset).toArray) [] := by rw [hargs]; exact lg_entry_eq m ([.ref (b + 0), .int (iI dp)]) 2
  rw [hent]
  generalize (lg_sl ([.ref (b + 0), .int (iI dp)]) ++ List.replicate (2 - (lg_sl ([.ref (b + 0), .int (iI dp)])).length) Slot.unset).toArray = ls at hl ⊢
  have hl : lv_has ls 2 [(0, .ref (b + 0)), (1, .int (iI dp))] := hl
  refine lv_aload_n hx hb dX12_skipAtom_0 rfl (lv_at hl 0 rfl) ?_
  refine z_bipush hx hb (by decide) dX12_skipAtom_1 ?_
  refine z_bipush hx hb (by decide) dX12_skipAtom_3 ?_
  refine z_calli (va_runV (As := [.int (iI 48), .int (iI 57)]) (rest := []) ⟨hx, hb, hml, hown, hts⟩ (m_has l D dA b M 48 57 (by decide) (by decide) (by rw [g0])) (cwV 2 hts (z_gV k1071 k1072 k1397 k14 k1073) rfl rfl rfl dm_X12_has ⟨Nat.le_of_ble_eq_true rfl, Nat.le_of_ble_eq_true rfl⟩) ⟨zP_blind, (z_recv hS hK.1 (by decide) (zkd_of (rfl : zcd wR 0 = 50) rfl) (by decide) (rfl : vwCl[12]? = some (RX12, TX12, 50))), z_pre hS hK⟩ rfl rfl hl.1 rfl (lv_room (Nat.le_of_ble_eq_true rfl)) dX12_skipAtom_5 ⟨Nat.le_refl _, Nat.le_refl _⟩) hS hS0 (zms_sub rfl) (fun z5 M1 H locs r6 h2 F3 hS hS0 => ?_)
  obtain ⟨h7, h2⟩ := h2
  rw [h7] at hS
  have h8 := h2
  obtain ⟨z5e, h8⟩ := h8
  subst z5e
  refine z_if_eq (tgt := 23) hx hb (by decide) dX12_skipAtom_8 (by decide) (fun c9 => ?_) (fun c9 => absurd c9 (by decide))
  refine lv_aload_n hx hb dX12_skipAtom_23 rfl (lv_at hl 0 rfl) ?_
  refine z_bipush hx hb (by decide) dX12_skipAtom_24 ?_
  refine z_bipush hx hb (by decide) dX12_skipAtom_26 ?_
  refine z_calli (va_runV (As := [.int (iI 91), .int (iI 91)]) (rest := []) ⟨hx, hb, hml, hown, hts⟩ (m_has l D dA b M 91 91 (by decide) (by decide) (by rw [g0])) (cwV 2 hts (z_gV k1071 k1072 k1397 k14 k1073) rfl rfl rfl dm_X12_has ⟨Nat.le_of_ble_eq_true rfl, Nat.le_of_ble_eq_true rfl⟩) ⟨zP_blind, (z_recv hS hK.1 (by decide) (zkd_of (rfl : zcd wR 0 = 50) rfl) (by decide) (rfl : vwCl[12]? = some (RX12, TX12, 50))), z_pre hS hK⟩ rfl rfl hl.1 rfl (lv_room (Nat.le_of_ble_eq_true rfl)) dX12_skipAtom_28 ⟨Nat.le_refl _, Nat.le_refl _⟩) hS hS0 (zms_sub rfl) (fun z14 M10 H locs r15 h11 F12 hS hS0 => ?_)
  obtain ⟨h16, h11⟩ := h11
  rw [h16] at hS
  have h17 := h11
  obtain ⟨z14e, h17⟩ := h17
  subst z14e
  refine z_if_eq (tgt := 112) hx hb (by decide) dX12_skipAtom_31 (by decide) (fun c18 => ?_) (fun c18 => absurd c18 (by decide))
  refine lv_aload_n hx hb dX12_skipAtom_112 rfl (lv_at hl 0 rfl) ?_
  refine z_bipush hx hb (by decide) dX12_skipAtom_113 ?_
  refine z_bipush hx hb (by decide) dX12_skipAtom_115 ?_
  refine z_calli (va_runV (As := [.int (iI 40), .int (iI 40)]) (rest := []) ⟨hx, hb, hml, hown, hts⟩ (m_has l D dA b M 40 40 (by decide) (by decide) (by rw [g0])) (cwV 2 hts (z_gV k1071 k1072 k1397 k14 k1073) rfl rfl rfl dm_X12_has ⟨Nat.le_of_ble_eq_true rfl, Nat.le_of_ble_eq_true rfl⟩) ⟨zP_blind, (z_recv hS hK.1 (by decide) (zkd_of (rfl : zcd wR 0 = 50) rfl) (by decide) (rfl : vwCl[12]? = some (RX12, TX12, 50))), z_pre hS hK⟩ rfl rfl hl.1 rfl (lv_room (Nat.le_of_ble_eq_true rfl)) dX12_skipAtom_117 ⟨Nat.le_refl _, Nat.le_refl _⟩) hS hS0 (zms_sub rfl) (fun z23 M19 H locs r24 h20 F21 hS hS0 => ?_)
  obtain ⟨h25, h20⟩ := h20
  rw [h25] at hS
  have h26 := h20
  obtain ⟨z23e, h26⟩ := h26
  subst z23e
  refine z_if_eq (tgt := 128) hx hb (by decide) dX12_skipAtom_120 (by decide) (fun c27 => ?_) (fun c27 => absurd c27 (by decide))
  refine lv_aload_n hx hb dX12_skipAtom_128 rfl (lv_at hl 0 rfl) ?_
  refine z_calli (va_runV (As := []) (rest := []) ⟨hx, hb, hml, hown, hts⟩ (m_isWrong l D dA b M (by rw [g1]) (by rw [g2])) (cwV 0 hts (z_gV k1074 k1075 k1398 k14 k1076) rfl rfl rfl dm_X12_isWrong ⟨Nat.le_of_ble_eq_true rfl, Nat.le_of_ble_eq_true rfl⟩) ⟨zP_blind, (z_recv hS hK.1 (by decide) (zkd_of (rfl : zcd wR 0 = 50) rfl) (by decide) (rfl : vwCl[12]? = some (RX12, TX12, 50))), z_pre hS hK⟩ rfl rfl hl.1 rfl (lv_room (Nat.le_of_ble_eq_true rfl)) dX12_skipAtom_129 ⟨Nat.le_refl _, Nat.le_refl _⟩) hS hS0 (zms_sub rfl) (fun z32 M28 H locs r33 h29 F30 hS hS0 => ?_)
  have J31 := hS.2.1
  obtain ⟨h29, m34⟩ := h29
  have h35 := h29
  obtain ⟨z32e, h35⟩ := h35
  subst z32e
  exact z_zret hx hb hr hlocks hS hS0 (by first | decide | omega) (⟨by first | exact trivial | exact ⟨rfl, trivial⟩ | omega | (refine ⟨by omega, trivial⟩), by rw [m34]⟩) dX12_skipAtom_132

set_option maxHeartbeats 4000000 in
set_option maxRecDepth 100000 in
theorem m_skipTerm (l : Launch) (D : va_G) (dA : Nat → ClassId) (b : Nat) (M : zM) (dp : Int) (r_dp : R32 dp) (g0 : M 0 1 = 0) (g1 : M 0 37 = (-1)) (g2 : M 0 36 = 0) : Met l yX12_skipTerm (.code yX12_skipTerm cX12_skipTerm 2 (some .boolean) :: zt) (z_rm 2) (va_Pc [.ref (b + 0), .int (iI dp)] (zP D dA vwCl (z_tys dA) wR nR b M)) (va_Qi (zQi wR (zms wR [3237]) M (fun z M1 => (z = 0 ∧ True) ∧ M1 0 37 = 0)) (zB D dA vwCl wR nR b) (zA nR b)) 0 0 (zA nR b) := by
  refine Met.ofW (cc := cX12_skipTerm) (maxL := 2) (ret := (some .boolean)) (by decide) rfl ?_
  intro p e s m args below meth c s₁ B hml hv
  obtain ⟨hargs, hR0, hJ, hK⟩ := hv
  have hx := B.exec
  have hb := B.bytes
  have hr := B.returns
  have hts := atoms_spec (ws := .code yX12_skipTerm cX12_skipTerm 2 (some .boolean) :: zt) B.pre
  have hown : s.vm.findClass RX12 = some m.cls := findClass_of_methodNamed B.named
  have hlocks := B.notSynchronized
  have hS : zS D dA vwCl wR nR b (zms wR [3237]) M M s.heap := ⟨hR0, hJ, zF_rf _ _⟩
  have hS0 : va_S (zA nR b) s.heap s.heap [] := va_S.rf
  have hl := lv_entry ([.ref (b + 0), .int (iI dp)]) (n := 2) (Nat.le_of_ble_eq_true rfl)
  have hent : entryFrame m args 2 = F0 m 0 ((lg_sl ([.ref (b + 0), .int (iI dp)]) ++ List.replicate (2 - (lg_sl ([.ref (b + 0), .int (iI dp)])).length) Slot.unset).toArray) [] := by rw [hargs]; exact lg_entry_eq m ([.ref (b + 0), .int (iI dp)]) 2
  rw [hent]
  generalize (lg_sl ([.ref (b + 0), .int (iI dp)]) ++ List.replicate (2 - (lg_sl ([.ref (b + 0), .int (iI dp)])).length) Slot.unset).toArray = ls at hl ⊢
  have hl : lv_has ls 2 [(0, .ref (b + 0)), (1, .int (iI dp))] := hl
  refine lv_aload_n hx hb dX12_skipTerm_0 rfl (lv_at hl 0 rfl) ?_
  refine lv_iload_n hx hb dX12_skipTerm_1 rfl (lv_at hl 1 rfl) ?_
  refine z_calli (va_runV (As := [.int (iI dp)]) (rest := []) ⟨hx, hb, hml, hown, hts⟩ (m_skipAtom l D dA b M dp r_dp (by rw [g0]) (by rw [g1]) (by rw [g2])) (cwV 1 hts (z_gV k1068 k1069 k1396 k14 k1070) rfl rfl rfl dm_X12_skipAtom ⟨Nat.le_of_ble_eq_true rfl, Nat.le_of_ble_eq_true rfl⟩) ⟨zP_blind, (z_recv hS hK.1 (by decide) (zkd_of (rfl : zcd wR 0 = 50) rfl) (by decide) (rfl : vwCl[12]? = some (RX12, TX12, 50))), z_pre hS hK⟩ rfl rfl hl.1 rfl (lv_room (Nat.le_of_ble_eq_true rfl)) dX12_skipTerm_2 ⟨Nat.le_refl _, Nat.le_refl _⟩) hS hS0 (zms_sub rfl) (fun z5 M1 H locs r6 h2 F3 hS hS0 => ?_)
  have J4 := hS.2.1
  obtain ⟨h2, m7⟩ := h2
  have h8 := h2
  obtain ⟨z5e, h8⟩ := h8
  subst z5e
  refine z_if_ne (tgt := 10) hx hb (by decide) dX12_skipTerm_5 (by decide) (fun c9 => absurd c9 (by decide)) (fun c9 => ?_)
  refine z_iconst hx hb dX12_skipTerm_8 ?_
  exact z_zret hx hb hr hlocks hS hS0 (by first | decide | omega) (⟨by first | exact trivial | exact ⟨rfl, trivial⟩ | omega | (refine ⟨by omega, trivial⟩), by rw [m7]⟩) dX12_skipTerm_9

set_option maxHeartbeats 4000000 in
set_option maxRecDepth 100000 in
theorem m_skipRow (l : Launch) (D : va_G) (dA : Nat → ClassId) (b : Nat) (M : zM) (dp : Int) (r_dp : R32 dp) (g0 : M 0 1 = 0) (g1 : M 0 37 = (-1)) (g2 : M 0 36 = 0) : Met l yX12_skipRow (.code yX12_skipRow cX12_skipRow 2 (some .boolean) :: zt) (z_rm 3) (va_Pc [.ref (b + 0), .int (iI dp)] (zP D dA vwCl (z_tys dA) wR nR b M)) (va_Qi (zQi wR (zms wR [3237]) M (fun z M1 => (z = 0 ∧ True) ∧ M1 0 37 = 0)) (zB D dA vwCl wR nR b) (zA nR b)) 0 0 (zA nR b) := by
  refine Met.ofW (cc := cX12_skipRow) (maxL := 2) (ret := (some .boolean)) (by decide) rfl ?_
  intro p e s m args below meth c s₁ B hml hv
  obtain ⟨hargs, hR0, hJ, hK⟩ := hv
  have hx := B.exec
  have hb := B.bytes
  have hr := B.returns
  have hts := atoms_spec (ws := .code yX12_skipRow cX12_skipRow 2 (some .boolean) :: zt) B.pre
  have hown : s.vm.findClass RX12 = some m.cls := findClass_of_methodNamed B.named
  have hlocks := B.notSynchronized
  have hS : zS D dA vwCl wR nR b (zms wR [3237]) M M s.heap := ⟨hR0, hJ, zF_rf _ _⟩
  have hS0 : va_S (zA nR b) s.heap s.heap [] := va_S.rf
  have hl := lv_entry ([.ref (b + 0), .int (iI dp)]) (n := 2) (Nat.le_of_ble_eq_true rfl)
  have hent : entryFrame m args 2 = F0 m 0 ((lg_sl ([.ref (b + 0), .int (iI dp)]) ++ List.replicate (2 - (lg_sl ([.ref (b + 0), .int (iI dp)])).length) Slot.unset).toArray) [] := by rw [hargs]; exact lg_entry_eq m ([.ref (b + 0), .int (iI dp)]) 2
  rw [hent]
  generalize (lg_sl ([.ref (b + 0), .int (iI dp)]) ++ List.replicate (2 - (lg_sl ([.ref (b + 0), .int (iI dp)])).length) Slot.unset).toArray = ls at hl ⊢
  have hl : lv_has ls 2 [(0, .ref (b + 0)), (1, .int (iI dp))] := hl
  refine lv_aload_n hx hb dX12_skipRow_0 rfl (lv_at hl 0 rfl) ?_
  refine lv_iload_n hx hb dX12_skipRow_1 rfl (lv_at hl 1 rfl) ?_
  refine z_calli (va_runV (As := [.int (iI dp)]) (rest := []) ⟨hx, hb, hml, hown, hts⟩ (m_skipTerm l D dA b M dp r_dp (by rw [g0]) (by rw [g1]) (by rw [g2])) (cwV 1 hts (z_gV k1065 k1066 k1395 k14 k1067) rfl rfl rfl dm_X12_skipTerm ⟨Nat.le_of_ble_eq_true rfl, Nat.le_of_ble_eq_true rfl⟩) ⟨zP_blind, (z_recv hS hK.1 (by decide) (zkd_of (rfl : zcd wR 0 = 50) rfl) (by decide) (rfl : vwCl[12]? = some (RX12, TX12, 50))), z_pre hS hK⟩ rfl rfl hl.1 rfl (lv_room (Nat.le_of_ble_eq_true rfl)) dX12_skipRow_2 ⟨Nat.le_refl _, Nat.le_refl _⟩) hS hS0 (zms_sub rfl) (fun z5 M1 H locs r6 h2 F3 hS hS0 => ?_)
  have J4 := hS.2.1
  obtain ⟨h2, m7⟩ := h2
  have h8 := h2
  obtain ⟨z5e, h8⟩ := h8
  subst z5e
  refine z_if_ne (tgt := 10) hx hb (by decide) dX12_skipRow_5 (by decide) (fun c9 => absurd c9 (by decide)) (fun c9 => ?_)
  refine z_iconst hx hb dX12_skipRow_8 ?_
  exact z_zret hx hb hr hlocks hS hS0 (by first | decide | omega) (⟨by first | exact trivial | exact ⟨rfl, trivial⟩ | omega | (refine ⟨by omega, trivial⟩), by rw [m7]⟩) dX12_skipRow_9

set_option maxHeartbeats 4000000 in
set_option maxRecDepth 100000 in
theorem m_splice (l : Launch) (D : va_G) (dA : Nat → ClassId) (b : Nat) (M : zM) (g0 : M 0 1 = 0) : Met l yX12_splice (.code yX12_splice cX12_splice 4 (some .int) :: zt) (z_rm 4) (va_Pc [.ref (b + 0)] (zP D dA vwCl (z_tys dA) wR nR b M)) (va_Qi (zQi wR (zms wR [3235, 3237, 3236, 3201]) M (fun z M1 => z = -1 ∧ True)) (zB D dA vwCl wR nR b) (zA nR b)) 0 0 (zA nR b) := by
  refine Met.ofW (cc := cX12_splice) (maxL := 4) (ret := (some .int)) (by decide) rfl ?_
  intro p e s m args below meth c s₁ B hml hv
  obtain ⟨hargs, hR0, hJ, hK⟩ := hv
  have hx := B.exec
  have hb := B.bytes
  have hr := B.returns
  have hts := atoms_spec (ws := .code yX12_splice cX12_splice 4 (some .int) :: zt) B.pre
  have hown : s.vm.findClass RX12 = some m.cls := findClass_of_methodNamed B.named
  have hlocks := B.notSynchronized
  have hS : zS D dA vwCl wR nR b (zms wR [3235, 3237, 3236, 3201]) M M s.heap := ⟨hR0, hJ, zF_rf _ _⟩
  have hS0 : va_S (zA nR b) s.heap s.heap [] := va_S.rf
  have hl := lv_entry ([.ref (b + 0)]) (n := 4) (Nat.le_of_ble_eq_true rfl)
  have hent : entryFrame m args 4 = F0 m 0 ((lg_sl ([.ref (b + 0)]) ++ List.replicate (4 - (lg_sl ([.ref (b + 0)])).length) Slot.unset).toArray) [] := by rw [hargs]; exact lg_entry_eq m ([.ref (b + 0)]) 4
  rw [hent]
  generalize (lg_sl ([.ref (b + 0)]) ++ List.replicate (4 - (lg_sl ([.ref (b + 0)])).length) Slot.unset).toArray = ls at hl ⊢
  have hl : lv_has ls 4 [(0, .ref (b + 0))] := hl
  refine lv_aload_n hx hb dX12_splice_0 rfl (lv_at hl 0 rfl) ?_
  refine z_iconst hx hb dX12_splice_1 ?_
  refine z_puti hx hb hts (z_memU u12) tyX12 tyX12_ok nmX12 hown hK.1 hS hS0 f12_35 (by decide) (zkd_of (rfl : zcd wR 0 = 50) rfl) (Or.inl (hts _ (z_mem k979))) rfl (z := 0) (by decide +kernel) (zbd_in (rfl : zcd wR 0 = 50) rfl (by decide)) (zms_of (rfl : zcd wR 0 = 50) rfl) dX12_splice_2 (fun H locs hS hS0 => ?_)
  obtain ⟨M1, e2⟩ : ∃ M1 : zM, M1 = zup M 0 35 0 := ⟨_, rfl⟩
  rw [← e2] at hS
  have J3 := hS.2.1
  refine lv_aload_n hx hb dX12_splice_5 rfl (lv_at hl 0 rfl) ?_
  refine z_iconst hx hb dX12_splice_6 ?_
  refine z_puti hx hb hts (z_memU u12) tyX12 tyX12_ok nmX12 hown hK.1 hS hS0 f12_36 (by decide) (zkd_of (rfl : zcd wR 0 = 50) rfl) (Or.inl (hts _ (z_mem k980))) rfl (z := 0) (by decide +kernel) (zbd_in (rfl : zcd wR 0 = 50) rfl (by decide)) (zms_of (rfl : zcd wR 0 = 50) rfl) dX12_splice_7 (fun H locs hS hS0 => ?_)
  obtain ⟨M4, e5⟩ : ∃ M4 : zM, M4 = zup M1 0 36 0 := ⟨_, rfl⟩
  rw [← e5] at hS
  have J6 := hS.2.1
  refine lv_aload_n hx hb dX12_splice_10 rfl (lv_at hl 0 rfl) ?_
  refine z_iconst hx hb dX12_splice_11 ?_
  refine z_puti hx hb hts (z_memU u12) tyX12 tyX12_ok nmX12 hown hK.1 hS hS0 f12_37 (by decide) (zkd_of (rfl : zcd wR 0 = 50) rfl) (Or.inl (hts _ (z_mem k981))) rfl (z := (-1)) (by decide +kernel) (zbd_in (rfl : zcd wR 0 = 50) rfl (by decide)) (zms_of (rfl : zcd wR 0 = 50) rfl) dX12_splice_12 (fun H locs hS hS0 => ?_)
  obtain ⟨M7, e8⟩ : ∃ M7 : zM, M7 = zup M4 0 37 (-1) := ⟨_, rfl⟩
  rw [← e8] at hS
  have J9 := hS.2.1
  refine lv_aload_n hx hb dX12_splice_15 rfl (lv_at hl 0 rfl) ?_
  refine z_iconst hx hb dX12_splice_16 ?_
  refine z_calli (va_runV (As := [.int (iI 0)]) (rest := []) ⟨hx, hb, hml, hown, hts⟩ (m_skipRow l D dA b M7 0 (by decide) (by rw [e8, zup_n _ _ (by omega), e5, zup_n _ _ (by omega), e2, zup_n _ _ (by omega), g0]) (by rw [e8, zup_s]) (by rw [e8, zup_n _ _ (by omega), e5, zup_s])) (cwV 1 hts (z_gV k1062 k1063 k1394 k14 k1064) rfl rfl rfl dm_X12_skipRow ⟨Nat.le_of_ble_eq_true rfl, Nat.le_of_ble_eq_true rfl⟩) ⟨zP_blind, (z_recv hS hK.1 (by decide) (zkd_of (rfl : zcd wR 0 = 50) rfl) (by decide) (rfl : vwCl[12]? = some (RX12, TX12, 50))), z_pre hS hK⟩ rfl rfl hl.1 rfl (lv_room (Nat.le_of_ble_eq_true rfl)) dX12_splice_17 ⟨Nat.le_refl _, Nat.le_refl _⟩) hS hS0 (zms_sub rfl) (fun z14 M10 H locs r15 h11 F12 hS hS0 => ?_)
  have J13 := hS.2.1
  obtain ⟨h11, m16⟩ := h11
  have h17 := h11
  obtain ⟨z14e, h17⟩ := h17
  subst z14e
  refine lv_istore_n (lv' := [(1, .int (iI 0)), (0, .ref (b + 0))]) hx hb dX12_splice_20 rfl hl (by decide) rfl (fun ls hl => ?_)
  refine lv_iload_n hx hb dX12_splice_21 rfl (lv_at hl 0 rfl) ?_
  refine z_if_eq (tgt := 41) hx hb (by decide) dX12_splice_22 (by decide) (fun c18 => ?_) (fun c18 => absurd c18 (by decide))
  refine z_iconst hx hb dX12_splice_41 ?_
  refine lv_istore_n (lv' := [(2, .int (iI 0)), (1, .int (iI 0)), (0, .ref (b + 0))]) hx hb dX12_splice_42 rfl hl (by decide) rfl (fun ls hl => ?_)
  refine lv_iload_n hx hb dX12_splice_43 rfl (lv_at hl 1 rfl) ?_
  refine z_if_eq (tgt := 58) hx hb (by decide) dX12_splice_44 (by decide) (fun c19 => ?_) (fun c19 => absurd c19 (by decide))
  refine lv_aload_n hx hb dX12_splice_58 rfl (lv_at hl 2 rfl) ?_
  refine z_iconst hx hb dX12_splice_59 ?_
  refine z_puti hx hb hts (z_memU u12) tyX12 tyX12_ok nmX12 hown hK.1 hS hS0 f12_1 (by decide) (zkd_of (rfl : zcd wR 0 = 50) rfl) (Or.inl (hts _ (z_mem k945))) rfl (z := 0) (by decide +kernel) (zbd_in (rfl : zcd wR 0 = 50) rfl (by decide)) (zms_of (rfl : zcd wR 0 = 50) rfl) dX12_splice_60 (fun H locs hS hS0 => ?_)
  obtain ⟨M20, e21⟩ : ∃ M20 : zM, M20 = zup M10 0 1 0 := ⟨_, rfl⟩
  rw [← e21] at hS
  have J22 := hS.2.1
  refine lv_iload_n hx hb dX12_splice_63 rfl (lv_at hl 1 rfl) ?_
  refine z_if_ne (tgt := 74) hx hb (by decide) dX12_splice_64 (by decide) (fun c23 => absurd c23 (by decide)) (fun c23 => ?_)
  refine z_iconst hx hb dX12_splice_67 ?_
  refine lv_aload_n hx hb dX12_splice_68 rfl (lv_at hl 2 rfl) ?_
  refine z_geti hx hb hts (z_memU u12) hown hK.1 hS f12_37 (by decide) (zkd_of (rfl : zcd wR 0 = 50) rfl) (Or.inl (hts _ (z_mem k981))) dX12_splice_69 ?_
  refine z_top (show M20 0 37 = 0 from by rw [e21, zup_n _ _ (by omega), m16]) ?_
  refine z_isub hx hb dX12_splice_72 ?_
  refine z_top (show (((-1) - 0) : Int) = (-1) from (by decide)) ?_
  exact z_iret hx hb hr hlocks hS hS0 (by decide) (by first | exact trivial | exact ⟨rfl, trivial⟩ | omega | (refine ⟨by omega, trivial⟩)) dX12_splice_73

set_option maxHeartbeats 4000000 in
set_option maxRecDepth 100000 in
theorem m_hand (l : Launch) (D : va_G) (dA : Nat → ClassId) (b : Nat) (M : zM) (i : Int) (r_i : R32 i) (g0 : M 0 3 = 0) : Met l yX12_hand (.code yX12_hand cX12_hand 2 (some .int) :: zt) (z_rm 1) (va_Pc [.ref (b + 0), .int (iI i)] (zP D dA vwCl (z_tys dA) wR nR b M)) (va_Qi (zQi wR (zms wR [3235]) M (fun z M1 => z = -1 ∧ True)) (zB D dA vwCl wR nR b) (zA nR b)) 0 0 (zA nR b) := by
  refine Met.ofW (cc := cX12_hand) (maxL := 2) (ret := (some .int)) (by decide) rfl ?_
  intro p e s m args below meth c s₁ B hml hv
  obtain ⟨hargs, hR0, hJ, hK⟩ := hv
  have hx := B.exec
  have hb := B.bytes
  have hr := B.returns
  have hts := atoms_spec (ws := .code yX12_hand cX12_hand 2 (some .int) :: zt) B.pre
  have hown : s.vm.findClass RX12 = some m.cls := findClass_of_methodNamed B.named
  have hlocks := B.notSynchronized
  have hS : zS D dA vwCl wR nR b (zms wR [3235]) M M s.heap := ⟨hR0, hJ, zF_rf _ _⟩
  have hS0 : va_S (zA nR b) s.heap s.heap [] := va_S.rf
  have hl := lv_entry ([.ref (b + 0), .int (iI i)]) (n := 2) (Nat.le_of_ble_eq_true rfl)
  have hent : entryFrame m args 2 = F0 m 0 ((lg_sl ([.ref (b + 0), .int (iI i)]) ++ List.replicate (2 - (lg_sl ([.ref (b + 0), .int (iI i)])).length) Slot.unset).toArray) [] := by rw [hargs]; exact lg_entry_eq m ([.ref (b + 0), .int (iI i)]) 2
  rw [hent]
  generalize (lg_sl ([.ref (b + 0), .int (iI i)]) ++ List.replicate (2 - (lg_sl ([.ref (b + 0), .int (iI i)])).length) Slot.unset).toArray = ls at hl ⊢
  have hl : lv_has ls 2 [(0, .ref (b + 0)), (1, .int (iI i))] := hl
  refine lv_aload_n hx hb dX12_hand_0 rfl (lv_at hl 0 rfl) ?_
  refine z_iconst hx hb dX12_hand_1 ?_
  refine z_puti hx hb hts (z_memU u12) tyX12 tyX12_ok nmX12 hown hK.1 hS hS0 f12_35 (by decide) (zkd_of (rfl : zcd wR 0 = 50) rfl) (Or.inl (hts _ (z_mem k979))) rfl (z := 0) (by decide +kernel) (zbd_in (rfl : zcd wR 0 = 50) rfl (by decide)) (zms_of (rfl : zcd wR 0 = 50) rfl) dX12_hand_2 (fun H locs hS hS0 => ?_)
  obtain ⟨M1, e2⟩ : ∃ M1 : zM, M1 = zup M 0 35 0 := ⟨_, rfl⟩
  rw [← e2] at hS
  have J3 := hS.2.1
  refine lv_iload_n hx hb dX12_hand_5 rfl (lv_at hl 1 rfl) ?_
  refine z_iconst hx hb dX12_hand_6 ?_
  refine lv_aload_n hx hb dX12_hand_7 rfl (lv_at hl 0 rfl) ?_
  refine z_geti hx hb hts (z_memU u12) hown hK.1 hS f12_3 (by decide) (zkd_of (rfl : zcd wR 0 = 50) rfl) (Or.inl (hts _ (z_mem k947))) dX12_hand_8 ?_
  refine z_top (show M1 0 3 = 0 from by rw [e2, zup_n _ _ (by omega), g0]) ?_
  refine z_iconst hx hb dX12_hand_11 ?_
  refine z_isub hx hb dX12_hand_12 ?_
  refine z_top (show ((0 - 1) : Int) = (-1) from (by decide)) ?_
  refine z_calli (va_runS (As := [.int (iI i), .int (iI 0), .int (iI (-1))]) (rest := []) ⟨hx, hb, hml, hown, hts⟩ (m_in l D dA b M1 i 0 (-1) r_i (by decide) (by decide)) (va_cwS 3 hts (z_gS k1087 k1088 k14 k1089) rfl rfl rfl dm_X12_in.2 ⟨Nat.le_of_ble_eq_true rfl, Nat.le_of_ble_eq_true rfl⟩) ⟨zP_blind, z_pre hS hK⟩ rfl rfl hl.1 rfl (lv_room (Nat.le_of_ble_eq_true rfl)) dX12_hand_13 ⟨Nat.le_refl _, Nat.le_refl _⟩) hS hS0 (zms_sub rfl) (fun z8 M4 H locs r9 h5 F6 hS hS0 => ?_)
  obtain ⟨h10, h5⟩ := h5
  rw [h10] at hS
  rcases h5 with h11 | h12
  · skip
    exfalso
    omega
  · skip
    obtain ⟨z8e, h12⟩ := h12
    subst z8e
    refine z_if_eq (tgt := 28) hx hb (by decide) dX12_hand_16 (by decide) (fun c13 => ?_) (fun c13 => absurd c13 (by decide))
    refine z_iconst hx hb dX12_hand_28 ?_
    exact z_iret hx hb hr hlocks hS hS0 (by decide) (by first | exact trivial | exact ⟨rfl, trivial⟩ | omega | (refine ⟨by omega, trivial⟩)) dX12_hand_29

set_option maxHeartbeats 4000000 in
set_option maxRecDepth 100000 in
theorem m_ring (l : Launch) (D : va_G) (dA : Nat → ClassId) (b : Nat) (M : zM) (mt : Int) (sa : Int) (r_mt : R32 mt) (r_sa : R32 sa) (g0 : M 0 3 = 0) : Met l yX12_ring (.code yX12_ring cX12_ring 4 (some .int) :: zt) (z_rm 0) (va_Pc [.ref (b + 0), .int (iI mt), .int (iI sa)] (zP D dA vwCl (z_tys dA) wR nR b M)) (va_Qi (zQi wR (zms wR [3235]) M (fun z M1 => z = -1 ∧ True)) (zB D dA vwCl wR nR b) (zA nR b)) 0 0 (zA nR b) := by
  refine Met.ofW (cc := cX12_ring) (maxL := 4) (ret := (some .int)) (by decide) rfl ?_
  intro p e s m args below meth c s₁ B hml hv
  obtain ⟨hargs, hR0, hJ, hK⟩ := hv
  have hx := B.exec
  have hb := B.bytes
  have hr := B.returns
  have hts := atoms_spec (ws := .code yX12_ring cX12_ring 4 (some .int) :: zt) B.pre
  have hown : s.vm.findClass RX12 = some m.cls := findClass_of_methodNamed B.named
  have hlocks := B.notSynchronized
  have hS : zS D dA vwCl wR nR b (zms wR [3235]) M M s.heap := ⟨hR0, hJ, zF_rf _ _⟩
  have hS0 : va_S (zA nR b) s.heap s.heap [] := va_S.rf
  have hl := lv_entry ([.ref (b + 0), .int (iI mt), .int (iI sa)]) (n := 4) (Nat.le_of_ble_eq_true rfl)
  have hent : entryFrame m args 4 = F0 m 0 ((lg_sl ([.ref (b + 0), .int (iI mt), .int (iI sa)]) ++ List.replicate (4 - (lg_sl ([.ref (b + 0), .int (iI mt), .int (iI sa)])).length) Slot.unset).toArray) [] := by rw [hargs]; exact lg_entry_eq m ([.ref (b + 0), .int (iI mt), .int (iI sa)]) 4
  rw [hent]
  generalize (lg_sl ([.ref (b + 0), .int (iI mt), .int (iI sa)]) ++ List.replicate (4 - (lg_sl ([.ref (b + 0), .int (iI mt), .int (iI sa)])).length) Slot.unset).toArray = ls at hl ⊢
  have hl : lv_has ls 4 [(0, .ref (b + 0)), (1, .int (iI mt)), (2, .int (iI sa))] := hl
  refine lv_aload_n hx hb dX12_ring_0 rfl (lv_at hl 0 rfl) ?_
  refine z_iconst hx hb dX12_ring_1 ?_
  refine z_puti hx hb hts (z_memU u12) tyX12 tyX12_ok nmX12 hown hK.1 hS hS0 f12_35 (by decide) (zkd_of (rfl : zcd wR 0 = 50) rfl) (Or.inl (hts _ (z_mem k979))) rfl (z := 0) (by decide +kernel) (zbd_in (rfl : zcd wR 0 = 50) rfl (by decide)) (zms_of (rfl : zcd wR 0 = 50) rfl) dX12_ring_2 (fun H locs hS hS0 => ?_)
  obtain ⟨M1, e2⟩ : ∃ M1 : zM, M1 = zup M 0 35 0 := ⟨_, rfl⟩
  rw [← e2] at hS
  have J3 := hS.2.1
  refine lv_aload_n hx hb dX12_ring_5 rfl (lv_at hl 0 rfl) ?_
  refine z_geti hx hb hts (z_memU u12) hown hK.1 hS f12_3 (by decide) (zkd_of (rfl : zcd wR 0 = 50) rfl) (Or.inl (hts _ (z_mem k947))) dX12_ring_6 ?_
  refine z_top (show M1 0 3 = 0 from by rw [e2, zup_n _ _ (by omega), g0]) ?_
  refine z_if_eq (tgt := 41) hx hb (by decide) dX12_ring_9 (by decide) (fun c4 => ?_) (fun c4 => absurd c4 (by decide))
  refine z_iconst hx hb dX12_ring_41 ?_
  exact z_iret hx hb hr hlocks hS hS0 (by decide) (by first | exact trivial | exact ⟨rfl, trivial⟩ | omega | (refine ⟨by omega, trivial⟩)) dX12_ring_42

set_option maxHeartbeats 4000000 in
set_option maxRecDepth 100000 in
theorem m_over (l : Launch) (D : va_G) (dA : Nat → ClassId) (b : Nat) (M : zM) (rg : Int) (ic : Int) (wh : Int) (r_rg : R32 rg) (r_ic : R32 ic) (r_wh : R32 wh) (g0 : M 0 10 = 0) : Met l yX12_over (.code yX12_over cX12_over 8 (some .int) :: zt) (z_rm 2) (va_Pc [.ref (b + 0), .int (iI rg), .int (iI ic), .int (iI wh)] (zP D dA vwCl (z_tys dA) wR nR b M)) (va_Qi (zQi wR (zms wR [3235]) M (fun z M1 => z = -1 ∧ True)) (zB D dA vwCl wR nR b) (zA nR b)) 0 0 (zA nR b) := by
  refine Met.ofW (cc := cX12_over) (maxL := 8) (ret := (some .int)) (by decide) rfl ?_
  intro p e s m args below meth c s₁ B hml hv
  obtain ⟨hargs, hR0, hJ, hK⟩ := hv
  have hx := B.exec
  have hb := B.bytes
  have hr := B.returns
  have hts := atoms_spec (ws := .code yX12_over cX12_over 8 (some .int) :: zt) B.pre
  have hown : s.vm.findClass RX12 = some m.cls := findClass_of_methodNamed B.named
  have hlocks := B.notSynchronized
  have hS : zS D dA vwCl wR nR b (zms wR [3235]) M M s.heap := ⟨hR0, hJ, zF_rf _ _⟩
  have hS0 : va_S (zA nR b) s.heap s.heap [] := va_S.rf
  have hl := lv_entry ([.ref (b + 0), .int (iI rg), .int (iI ic), .int (iI wh)]) (n := 8) (Nat.le_of_ble_eq_true rfl)
  have hent : entryFrame m args 8 = F0 m 0 ((lg_sl ([.ref (b + 0), .int (iI rg), .int (iI ic), .int (iI wh)]) ++ List.replicate (8 - (lg_sl ([.ref (b + 0), .int (iI rg), .int (iI ic), .int (iI wh)])).length) Slot.unset).toArray) [] := by rw [hargs]; exact lg_entry_eq m ([.ref (b + 0), .int (iI rg), .int (iI ic), .int (iI wh)]) 8
  rw [hent]
  generalize (lg_sl ([.ref (b + 0), .int (iI rg), .int (iI ic), .int (iI wh)]) ++ List.replicate (8 - (lg_sl ([.ref (b + 0), .int (iI rg), .int (iI ic), .int (iI wh)])).length) Slot.unset).toArray = ls at hl ⊢
  have hl : lv_has ls 8 [(0, .ref (b + 0)), (1, .int (iI rg)), (2, .int (iI ic)), (3, .int (iI wh))] := hl
  refine lv_aload_n hx hb dX12_over_0 rfl (lv_at hl 0 rfl) ?_
  refine z_iconst hx hb dX12_over_1 ?_
  refine z_puti hx hb hts (z_memU u12) tyX12 tyX12_ok nmX12 hown hK.1 hS hS0 f12_35 (by decide) (zkd_of (rfl : zcd wR 0 = 50) rfl) (Or.inl (hts _ (z_mem k979))) rfl (z := 0) (by decide +kernel) (zbd_in (rfl : zcd wR 0 = 50) rfl (by decide)) (zms_of (rfl : zcd wR 0 = 50) rfl) dX12_over_2 (fun H locs hS hS0 => ?_)
  obtain ⟨M1, e2⟩ : ∃ M1 : zM, M1 = zup M 0 35 0 := ⟨_, rfl⟩
  rw [← e2] at hS
  have J3 := hS.2.1
  refine lv_aload_n hx hb dX12_over_5 rfl (lv_at hl 0 rfl) ?_
  refine lv_iload_n hx hb dX12_over_6 rfl (lv_at hl 1 rfl) ?_
  refine z_calli (va_runV (As := [.int (iI rg)]) (rest := []) ⟨hx, hb, hml, hown, hts⟩ (m_isRing l D dA b M1 rg r_rg (by rw [e2, zup_n _ _ (by omega), g0])) (cwV 1 hts (z_gV k1101 k1102 k1401 k14 k1103) rfl rfl rfl dm_X12_isRing ⟨Nat.le_of_ble_eq_true rfl, Nat.le_of_ble_eq_true rfl⟩) ⟨zP_blind, (z_recv hS hK.1 (by decide) (zkd_of (rfl : zcd wR 0 = 50) rfl) (by decide) (rfl : vwCl[12]? = some (RX12, TX12, 50))), z_pre hS hK⟩ rfl rfl hl.1 rfl (lv_room (Nat.le_of_ble_eq_true rfl)) dX12_over_7 ⟨Nat.le_refl _, Nat.le_refl _⟩) hS hS0 (zms_sub rfl) (fun z8 M4 H locs r9 h5 F6 hS hS0 => ?_)
  obtain ⟨h10, h5⟩ := h5
  rw [h10] at hS
  have h11 := h5
  obtain ⟨z8e, h11⟩ := h11
  subst z8e
  refine z_if_eq (tgt := 45) hx hb (by decide) dX12_over_10 (by decide) (fun c12 => ?_) (fun c12 => absurd c12 (by decide))
  refine z_iconst hx hb dX12_over_45 ?_
  exact z_iret hx hb hr hlocks hS hS0 (by decide) (by first | exact trivial | exact ⟨rfl, trivial⟩ | omega | (refine ⟨by omega, trivial⟩)) dX12_over_46

set_option maxHeartbeats 4000000 in
set_option maxRecDepth 100000 in
theorem m_set (l : Launch) (D : va_G) (dA : Nat → ClassId) (b : Nat) (M : zM) (rg : Int) (wh : Int) (v : Int) (r_rg : R32 rg) (r_wh : R32 wh) (r_v : R32 v) (g0 : M 0 10 = 0) : Met l yX12_set (.code yX12_set cX12_set 5 (some .int) :: zt) (z_rm 2) (va_Pc [.ref (b + 0), .int (iI rg), .int (iI wh), .int (iI v)] (zP D dA vwCl (z_tys dA) wR nR b M)) (va_Qi (zQi wR (zms wR [3235]) M (fun z M1 => z = -1 ∧ True)) (zB D dA vwCl wR nR b) (zA nR b)) 0 0 (zA nR b) := by
  refine Met.ofW (cc := cX12_set) (maxL := 5) (ret := (some .int)) (by decide) rfl ?_
  intro p e s m args below meth c s₁ B hml hv
  obtain ⟨hargs, hR0, hJ, hK⟩ := hv
  have hx := B.exec
  have hb := B.bytes
  have hr := B.returns
  have hts := atoms_spec (ws := .code yX12_set cX12_set 5 (some .int) :: zt) B.pre
  have hown : s.vm.findClass RX12 = some m.cls := findClass_of_methodNamed B.named
  have hlocks := B.notSynchronized
  have hS : zS D dA vwCl wR nR b (zms wR [3235]) M M s.heap := ⟨hR0, hJ, zF_rf _ _⟩
  have hS0 : va_S (zA nR b) s.heap s.heap [] := va_S.rf
  have hl := lv_entry ([.ref (b + 0), .int (iI rg), .int (iI wh), .int (iI v)]) (n := 5) (Nat.le_of_ble_eq_true rfl)
  have hent : entryFrame m args 5 = F0 m 0 ((lg_sl ([.ref (b + 0), .int (iI rg), .int (iI wh), .int (iI v)]) ++ List.replicate (5 - (lg_sl ([.ref (b + 0), .int (iI rg), .int (iI wh), .int (iI v)])).length) Slot.unset).toArray) [] := by rw [hargs]; exact lg_entry_eq m ([.ref (b + 0), .int (iI rg), .int (iI wh), .int (iI v)]) 5
  rw [hent]
  generalize (lg_sl ([.ref (b + 0), .int (iI rg), .int (iI wh), .int (iI v)]) ++ List.replicate (5 - (lg_sl ([.ref (b + 0), .int (iI rg), .int (iI wh), .int (iI v)])).length) Slot.unset).toArray = ls at hl ⊢
  have hl : lv_has ls 5 [(0, .ref (b + 0)), (1, .int (iI rg)), (2, .int (iI wh)), (3, .int (iI v))] := hl
  refine lv_aload_n hx hb dX12_set_0 rfl (lv_at hl 0 rfl) ?_
  refine z_iconst hx hb dX12_set_1 ?_
  refine z_puti hx hb hts (z_memU u12) tyX12 tyX12_ok nmX12 hown hK.1 hS hS0 f12_35 (by decide) (zkd_of (rfl : zcd wR 0 = 50) rfl) (Or.inl (hts _ (z_mem k979))) rfl (z := 0) (by decide +kernel) (zbd_in (rfl : zcd wR 0 = 50) rfl (by decide)) (zms_of (rfl : zcd wR 0 = 50) rfl) dX12_set_2 (fun H locs hS hS0 => ?_)
  obtain ⟨M1, e2⟩ : ∃ M1 : zM, M1 = zup M 0 35 0 := ⟨_, rfl⟩
  rw [← e2] at hS
  have J3 := hS.2.1
  refine lv_aload_n hx hb dX12_set_5 rfl (lv_at hl 0 rfl) ?_
  refine lv_iload_n hx hb dX12_set_6 rfl (lv_at hl 1 rfl) ?_
  refine z_calli (va_runV (As := [.int (iI rg)]) (rest := []) ⟨hx, hb, hml, hown, hts⟩ (m_isRing l D dA b M1 rg r_rg (by rw [e2, zup_n _ _ (by omega), g0])) (cwV 1 hts (z_gV k1101 k1102 k1401 k14 k1103) rfl rfl rfl dm_X12_isRing ⟨Nat.le_of_ble_eq_true rfl, Nat.le_of_ble_eq_true rfl⟩) ⟨zP_blind, (z_recv hS hK.1 (by decide) (zkd_of (rfl : zcd wR 0 = 50) rfl) (by decide) (rfl : vwCl[12]? = some (RX12, TX12, 50))), z_pre hS hK⟩ rfl rfl hl.1 rfl (lv_room (Nat.le_of_ble_eq_true rfl)) dX12_set_7 ⟨Nat.le_refl _, Nat.le_refl _⟩) hS hS0 (zms_sub rfl) (fun z8 M4 H locs r9 h5 F6 hS hS0 => ?_)
  obtain ⟨h10, h5⟩ := h5
  rw [h10] at hS
  have h11 := h5
  obtain ⟨z8e, h11⟩ := h11
  subst z8e
  refine z_if_eq (tgt := 52) hx hb (by decide) dX12_set_10 (by decide) (fun c12 => ?_) (fun c12 => absurd c12 (by decide))
  refine z_iconst hx hb dX12_set_52 ?_
  exact z_iret hx hb hr hlocks hS hS0 (by decide) (by first | exact trivial | exact ⟨rfl, trivial⟩ | omega | (refine ⟨by omega, trivial⟩)) dX12_set_53

set_option maxHeartbeats 4000000 in
set_option maxRecDepth 100000 in
theorem m_head (l : Launch) (D : va_G) (dA : Nat → ClassId) (b : Nat) (M : zM) (rg : Int) (of : Int) (is_ : Int) (r_rg : R32 rg) (r_of : R32 of) (r_is_ : is_ = 0 ∨ is_ = 1) (g0 : M 0 10 = 0) : Met l yX12_head (.code yX12_head cX12_head 5 (some .int) :: zt) (z_rm 2) (va_Pc [.ref (b + 0), .int (iI rg), .int (iI of), .int (iI is_)] (zP D dA vwCl (z_tys dA) wR nR b M)) (va_Qi (zQi wR (zms wR [3235]) M (fun z M1 => z = -1 ∧ True)) (zB D dA vwCl wR nR b) (zA nR b)) 0 0 (zA nR b) := by
  refine Met.ofW (cc := cX12_head) (maxL := 5) (ret := (some .int)) (by decide) rfl ?_
  intro p e s m args below meth c s₁ B hml hv
  obtain ⟨hargs, hR0, hJ, hK⟩ := hv
  have hx := B.exec
  have hb := B.bytes
  have hr := B.returns
  have hts := atoms_spec (ws := .code yX12_head cX12_head 5 (some .int) :: zt) B.pre
  have hown : s.vm.findClass RX12 = some m.cls := findClass_of_methodNamed B.named
  have hlocks := B.notSynchronized
  have hS : zS D dA vwCl wR nR b (zms wR [3235]) M M s.heap := ⟨hR0, hJ, zF_rf _ _⟩
  have hS0 : va_S (zA nR b) s.heap s.heap [] := va_S.rf
  have hl := lv_entry ([.ref (b + 0), .int (iI rg), .int (iI of), .int (iI is_)]) (n := 5) (Nat.le_of_ble_eq_true rfl)
  have hent : entryFrame m args 5 = F0 m 0 ((lg_sl ([.ref (b + 0), .int (iI rg), .int (iI of), .int (iI is_)]) ++ List.replicate (5 - (lg_sl ([.ref (b + 0), .int (iI rg), .int (iI of), .int (iI is_)])).length) Slot.unset).toArray) [] := by rw [hargs]; exact lg_entry_eq m ([.ref (b + 0), .int (iI rg), .int (iI of), .int (iI is_)]) 5
  rw [hent]
  generalize (lg_sl ([.ref (b + 0), .int (iI rg), .int (iI of), .int (iI is_)]) ++ List.replicate (5 - (lg_sl ([.ref (b + 0), .int (iI rg), .int (iI of), .int (iI is_)])).length) Slot.unset).toArray = ls at hl ⊢
  have hl : lv_has ls 5 [(0, .ref (b + 0)), (1, .int (iI rg)), (2, .int (iI of)), (3, .int (iI is_))] := hl
  refine lv_aload_n hx hb dX12_head_0 rfl (lv_at hl 0 rfl) ?_
  refine z_iconst hx hb dX12_head_1 ?_
  refine z_puti hx hb hts (z_memU u12) tyX12 tyX12_ok nmX12 hown hK.1 hS hS0 f12_35 (by decide) (zkd_of (rfl : zcd wR 0 = 50) rfl) (Or.inl (hts _ (z_mem k979))) rfl (z := 0) (by decide +kernel) (zbd_in (rfl : zcd wR 0 = 50) rfl (by decide)) (zms_of (rfl : zcd wR 0 = 50) rfl) dX12_head_2 (fun H locs hS hS0 => ?_)
  obtain ⟨M1, e2⟩ : ∃ M1 : zM, M1 = zup M 0 35 0 := ⟨_, rfl⟩
  rw [← e2] at hS
  have J3 := hS.2.1
  refine lv_aload_n hx hb dX12_head_5 rfl (lv_at hl 0 rfl) ?_
  refine lv_iload_n hx hb dX12_head_6 rfl (lv_at hl 1 rfl) ?_
  refine z_calli (va_runV (As := [.int (iI rg)]) (rest := []) ⟨hx, hb, hml, hown, hts⟩ (m_isRing l D dA b M1 rg r_rg (by rw [e2, zup_n _ _ (by omega), g0])) (cwV 1 hts (z_gV k1101 k1102 k1401 k14 k1103) rfl rfl rfl dm_X12_isRing ⟨Nat.le_of_ble_eq_true rfl, Nat.le_of_ble_eq_true rfl⟩) ⟨zP_blind, (z_recv hS hK.1 (by decide) (zkd_of (rfl : zcd wR 0 = 50) rfl) (by decide) (rfl : vwCl[12]? = some (RX12, TX12, 50))), z_pre hS hK⟩ rfl rfl hl.1 rfl (lv_room (Nat.le_of_ble_eq_true rfl)) dX12_head_7 ⟨Nat.le_refl _, Nat.le_refl _⟩) hS hS0 (zms_sub rfl) (fun z8 M4 H locs r9 h5 F6 hS hS0 => ?_)
  obtain ⟨h10, h5⟩ := h5
  rw [h10] at hS
  have h11 := h5
  obtain ⟨z8e, h11⟩ := h11
  subst z8e
  refine z_if_eq (tgt := 23) hx hb (by decide) dX12_head_10 (by decide) (fun c12 => ?_) (fun c12 => absurd c12 (by decide))
  refine z_iconst hx hb dX12_head_23 ?_
  exact z_iret hx hb hr hlocks hS hS0 (by decide) (by first | exact trivial | exact ⟨rfl, trivial⟩ | omega | (refine ⟨by omega, trivial⟩)) dX12_head_24

set_option maxHeartbeats 4000000 in
set_option maxRecDepth 100000 in
theorem m_motor (l : Launch) (D : va_G) (dA : Nat → ClassId) (b : Nat) (M : zM) (mt : Int) (tk : Int) (sp : Int) (r_mt : R32 mt) (r_tk : R32 tk) (r_sp : R32 sp) (a0 : ∀ k : Nat, k < 2 → M 11 k = 0) : Met l yX12_motor (.code yX12_motor cX12_motor 7 (some .boolean) :: zt) (z_rm 1) (va_Pc [.ref (b + 0), .int (iI mt), .int (iI tk), .int (iI sp)] (zP D dA vwCl (z_tys dA) wR nR b M)) (va_Qi (zQi wR (zms wR [3235, 3967, 3839, 3903]) M (fun z M1 => (z = 1 ∧ (0 ≤ mt ∧ mt ≤ 1) ∧ (0 ≤ tk ∧ tk ≤ 5000) ∧ -9 ≤ sp ∧ sp ≤ 9) ∨ (z = 0 ∧ ¬ ((0 ≤ mt ∧ mt ≤ 1) ∧ (0 ≤ tk ∧ tk ≤ 5000) ∧ -9 ≤ sp ∧ sp ≤ 9)))) (zB D dA vwCl wR nR b) (zA nR b)) 0 0 (zA nR b) := by
  refine Met.ofW (cc := cX12_motor) (maxL := 7) (ret := (some .boolean)) (by decide) rfl ?_
  intro p e s m args below meth c s₁ B hml hv
  obtain ⟨hargs, hR0, hJ, hK⟩ := hv
  have hx := B.exec
  have hb := B.bytes
  have hr := B.returns
  have hts := atoms_spec (ws := .code yX12_motor cX12_motor 7 (some .boolean) :: zt) B.pre
  have hown : s.vm.findClass RX12 = some m.cls := findClass_of_methodNamed B.named
  have hlocks := B.notSynchronized
  have hS : zS D dA vwCl wR nR b (zms wR [3235, 3967, 3839, 3903]) M M s.heap := ⟨hR0, hJ, zF_rf _ _⟩
  have hS0 : va_S (zA nR b) s.heap s.heap [] := va_S.rf
  have hl := lv_entry ([.ref (b + 0), .int (iI mt), .int (iI tk), .int (iI sp)]) (n := 7) (Nat.le_of_ble_eq_true rfl)
  have hent : entryFrame m args 7 = F0 m 0 ((lg_sl ([.ref (b + 0), .int (iI mt), .int (iI tk), .int (iI sp)]) ++ List.replicate (7 - (lg_sl ([.ref (b + 0), .int (iI mt), .int (iI tk), .int (iI sp)])).length) Slot.unset).toArray) [] := by rw [hargs]; exact lg_entry_eq m ([.ref (b + 0), .int (iI mt), .int (iI tk), .int (iI sp)]) 7
  rw [hent]
  generalize (lg_sl ([.ref (b + 0), .int (iI mt), .int (iI tk), .int (iI sp)]) ++ List.replicate (7 - (lg_sl ([.ref (b + 0), .int (iI mt), .int (iI tk), .int (iI sp)])).length) Slot.unset).toArray = ls at hl ⊢
  have hl : lv_has ls 7 [(0, .ref (b + 0)), (1, .int (iI mt)), (2, .int (iI tk)), (3, .int (iI sp))] := hl
  refine lv_aload_n hx hb dX12_motor_0 rfl (lv_at hl 0 rfl) ?_
  refine z_iconst hx hb dX12_motor_1 ?_
  refine z_puti hx hb hts (z_memU u12) tyX12 tyX12_ok nmX12 hown hK.1 hS hS0 f12_35 (by decide) (zkd_of (rfl : zcd wR 0 = 50) rfl) (Or.inl (hts _ (z_mem k979))) rfl (z := 0) (by decide +kernel) (zbd_in (rfl : zcd wR 0 = 50) rfl (by decide)) (zms_of (rfl : zcd wR 0 = 50) rfl) dX12_motor_2 (fun H locs hS hS0 => ?_)
  obtain ⟨M1, e2⟩ : ∃ M1 : zM, M1 = zup M 0 35 0 := ⟨_, rfl⟩
  rw [← e2] at hS
  have J3 := hS.2.1
  refine lv_iload_n hx hb dX12_motor_5 rfl (lv_at hl 1 rfl) ?_
  refine z_calli (va_runS (As := [.int (iI mt)]) (rest := []) ⟨hx, hb, hml, hown, hts⟩ (m_isMotor l D dA b M1 mt r_mt) (va_cwS 1 hts (z_gS k1094 k1095 k14 k1096) rfl rfl rfl dm_X12_isMotor.2 ⟨Nat.le_of_ble_eq_true rfl, Nat.le_of_ble_eq_true rfl⟩) ⟨zP_blind, z_pre hS hK⟩ rfl rfl hl.1 rfl (lv_room (Nat.le_of_ble_eq_true rfl)) dX12_motor_6 ⟨Nat.le_refl _, Nat.le_refl _⟩) hS hS0 (zms_sub rfl) (fun z8 M4 H locs r9 h5 F6 hS hS0 => ?_)
  obtain ⟨h10, h5⟩ := h5
  rw [h10] at hS
  rcases h5 with h11 | h12
  · skip
    obtain ⟨z8e, h11⟩ := h11
    subst z8e
    refine z_if_eq (tgt := 34) hx hb (by decide) dX12_motor_9 (by decide) (fun c13 => absurd c13 (by decide)) (fun c13 => ?_)
    refine lv_iload_n hx hb dX12_motor_12 rfl (lv_at hl 2 rfl) ?_
    refine z_iconst hx hb dX12_motor_13 ?_
    refine z_sipush hx hb (by decide) dX12_motor_14 ?_
    refine z_calli (va_runS (As := [.int (iI tk), .int (iI 0), .int (iI 5000)]) (rest := []) ⟨hx, hb, hml, hown, hts⟩ (m_in l D dA b M1 tk 0 5000 r_tk (by decide) (by decide)) (va_cwS 3 hts (z_gS k1087 k1088 k14 k1089) rfl rfl rfl dm_X12_in.2 ⟨Nat.le_of_ble_eq_true rfl, Nat.le_of_ble_eq_true rfl⟩) ⟨zP_blind, z_pre hS hK⟩ rfl rfl hl.1 rfl (lv_room (Nat.le_of_ble_eq_true rfl)) dX12_motor_17 ⟨Nat.le_refl _, Nat.le_refl _⟩) hS hS0 (zms_sub rfl) (fun z18 M14 H locs r19 h15 F16 hS hS0 => ?_)
    obtain ⟨h20, h15⟩ := h15
    rw [h20] at hS
    rcases h15 with h21 | h22
    · skip
      obtain ⟨z18e, h21⟩ := h21
      subst z18e
      refine z_if_eq (tgt := 34) hx hb (by decide) dX12_motor_20 (by decide) (fun c23 => absurd c23 (by decide)) (fun c23 => ?_)
      refine lv_iload_n hx hb dX12_motor_23 rfl (lv_at hl 3 rfl) ?_
      refine z_bipush hx hb (by decide) dX12_motor_24 ?_
      refine z_bipush hx hb (by decide) dX12_motor_26 ?_
      refine z_calli (va_runS (As := [.int (iI sp), .int (iI (-9)), .int (iI 9)]) (rest := []) ⟨hx, hb, hml, hown, hts⟩ (m_in l D dA b M1 sp (-9) 9 r_sp (by decide) (by decide)) (va_cwS 3 hts (z_gS k1087 k1088 k14 k1089) rfl rfl rfl dm_X12_in.2 ⟨Nat.le_of_ble_eq_true rfl, Nat.le_of_ble_eq_true rfl⟩) ⟨zP_blind, z_pre hS hK⟩ rfl rfl hl.1 rfl (lv_room (Nat.le_of_ble_eq_true rfl)) dX12_motor_28 ⟨Nat.le_refl _, Nat.le_refl _⟩) hS hS0 (zms_sub rfl) (fun z28 M24 H locs r29 h25 F26 hS hS0 => ?_)
      obtain ⟨h30, h25⟩ := h25
      rw [h30] at hS
      rcases h25 with h31 | h32
      · skip
        obtain ⟨z28e, h31⟩ := h31
        subst z28e
        refine z_if_ne (tgt := 36) hx hb (by decide) dX12_motor_31 (by decide) (fun c33 => ?_) (fun c33 => absurd c33 (by decide))
        refine lv_aload_n hx hb dX12_motor_36 rfl (lv_at hl 0 rfl) ?_
        refine z_getr (j2 := 11) hx hb hts (z_memU u12) hown hK.1 hS f12_13 (by decide) (zkd_of (rfl : zcd wR 0 = 50) rfl) (zrf_of (rfl : zcd wR 0 = 50) rfl) (Or.inl (hts _ (z_mem k957))) dX12_motor_37 ?_
        refine lv_iload_n hx hb dX12_motor_40 rfl (lv_at hl 1 rfl) ?_
        refine z_iald (n := 2) hx hb hK.1 (t0 := 0) rfl hS (by decide) (zkd_of (rfl : zcd wR 11 = 61) rfl) (zln_of (rfl : zcd wR 11 = 61) rfl) (by omega) (by omega) (by decide) dX12_motor_41 ?_
        refine z_top (show M1 11 (mt.toNat) = 0 from by rw [e2, zup_n _ _ (by omega), a0 _ (by omega)]) ?_
        refine lv_istore (lv' := [(4, .int (iI 0)), (0, .ref (b + 0)), (1, .int (iI mt)), (2, .int (iI tk)), (3, .int (iI sp))]) hx hb dX12_motor_42 hl (by decide) rfl (fun ls hl => ?_)
        refine z_iconst hx hb dX12_motor_44 ?_
        refine lv_istore (lv' := [(5, .int (iI 0)), (4, .int (iI 0)), (0, .ref (b + 0)), (1, .int (iI mt)), (2, .int (iI tk)), (3, .int (iI sp))]) hx hb dX12_motor_45 hl (by decide) rfl (fun ls hl => ?_)
        refine lv_iload hx hb dX12_motor_47 (lv_at hl 0 rfl) ?_
        refine lv_iload hx hb dX12_motor_49 (lv_at hl 1 rfl) ?_
        refine z_icmp_ge (tgt := 76) hx hb (by decide) (by decide) dX12_motor_51 (by decide) (fun c34 => ?_) (fun c34 => absurd c34 (by decide))
        refine lv_iload hx hb dX12_motor_76 (lv_at hl 0 rfl) ?_
        refine lv_iload hx hb dX12_motor_78 (lv_at hl 1 rfl) ?_
        refine z_icmp_eq (tgt := 99) hx hb (by decide) (by decide) dX12_motor_80 (by decide) (fun c35 => ?_) (fun c35 => absurd c35 (by decide))
        refine lv_iload hx hb dX12_motor_99 (lv_at hl 1 rfl) ?_
        refine z_bipush hx hb (by decide) dX12_motor_101 ?_
        refine z_icmp_ne (tgt := 108) hx hb (by decide) (by decide) dX12_motor_103 (by decide) (fun c36 => ?_) (fun c36 => absurd c36 (by decide))
        refine lv_iload hx hb dX12_motor_108 (lv_at hl 1 rfl) ?_
        refine lv_istore (lv' := [(6, .int (iI 0)), (5, .int (iI 0)), (4, .int (iI 0)), (0, .ref (b + 0)), (1, .int (iI mt)), (2, .int (iI tk)), (3, .int (iI sp))]) hx hb dX12_motor_110 hl (by decide) rfl (fun ls hl => ?_)
        refine lv_iload hx hb dX12_motor_112 (lv_at hl 0 rfl) ?_
        refine lv_iload hx hb dX12_motor_114 (lv_at hl 1 rfl) ?_
        refine z_icmp_le (tgt := 177) hx hb (by decide) (by decide) dX12_motor_116 (by decide) (fun c37 => ?_) (fun c37 => absurd c37 (by decide))
        refine lv_aload_n hx hb dX12_motor_177 rfl (lv_at hl 3 rfl) ?_
        refine z_getr (j2 := 11) hx hb hts (z_memU u12) hown hK.1 hS f12_13 (by decide) (zkd_of (rfl : zcd wR 0 = 50) rfl) (zrf_of (rfl : zcd wR 0 = 50) rfl) (Or.inl (hts _ (z_mem k957))) dX12_motor_178 ?_
        refine lv_iload_n hx hb dX12_motor_181 rfl (lv_at hl 4 rfl) ?_
        refine lv_dup2_11 hx hb dX12_motor_182 rfl rfl ?_
        refine z_iald (n := 2) hx hb hK.1 (t0 := 0) rfl hS (by decide) (zkd_of (rfl : zcd wR 11 = 61) rfl) (zln_of (rfl : zcd wR 11 = 61) rfl) (by omega) (by omega) (by decide) dX12_motor_183 ?_
        refine z_top (show M1 11 (mt.toNat) = 0 from by rw [e2, zup_n _ _ (by omega), a0 _ (by omega)]) ?_
        refine z_iconst hx hb dX12_motor_184 ?_
        refine z_iadd hx hb dX12_motor_185 ?_
        refine z_top (show ((0 + 1) : Int) = 1 from (by decide)) ?_
        refine z_iast (n := 2) hx hb hK.1 (t0 := 0) rfl hS hS0 (by decide) (zkd_of (rfl : zcd wR 11 = 61) rfl) (zln_of (rfl : zcd wR 11 = 61) rfl) (by omega) (by omega) (by decide) (zbd_in (rfl : zcd wR 11 = 61) rfl (by decide)) (zms_of (rfl : zcd wR 11 = 61) rfl) dX12_motor_186 (fun H locs hS hS0 => ?_)
        obtain ⟨M38, e39⟩ : ∃ M38 : zM, M38 = zup M1 11 (mt.toNat) 1 := ⟨_, rfl⟩
        rw [← e39] at hS
        have J40 := hS.2.1
        refine lv_aload_n hx hb dX12_motor_187 rfl (lv_at hl 3 rfl) ?_
        refine z_getr (j2 := 9) hx hb hts (z_memU u12) hown hK.1 hS f12_11 (by decide) (zkd_of (rfl : zcd wR 0 = 50) rfl) (zrf_of (rfl : zcd wR 0 = 50) rfl) (Or.inl (hts _ (z_mem k955))) dX12_motor_188 ?_
        refine z_bipush hx hb (by decide) dX12_motor_191 ?_
        refine lv_iload_n hx hb dX12_motor_193 rfl (lv_at hl 4 rfl) ?_
        refine z_imul hx hb dX12_motor_194 ?_
        refine lv_iload hx hb dX12_motor_195 (lv_at hl 1 rfl) ?_
        refine z_iadd hx hb dX12_motor_197 ?_
        refine lv_iload_n hx hb dX12_motor_198 rfl (lv_at hl 5 rfl) ?_
        refine z_iast (n := 24) hx hb hK.1 (t0 := 0) rfl hS hS0 (by decide) (zkd_of (rfl : zcd wR 9 = 59) rfl) (zln_of (rfl : zcd wR 9 = 59) rfl) (by omega) (by omega) (by decide) (zbd_in (rfl : zcd wR 9 = 59) rfl ⟨by omega, by omega⟩) (zms_of (rfl : zcd wR 9 = 59) rfl) dX12_motor_199 (fun H locs hS hS0 => ?_)
        obtain ⟨M41, e42⟩ : ∃ M41 : zM, M41 = zup M38 9 (((12 * mt) + 0).toNat) tk := ⟨_, rfl⟩
        rw [← e42] at hS
        have J43 := hS.2.1
        refine lv_aload_n hx hb dX12_motor_200 rfl (lv_at hl 3 rfl) ?_
        refine z_getr (j2 := 10) hx hb hts (z_memU u12) hown hK.1 hS f12_12 (by decide) (zkd_of (rfl : zcd wR 0 = 50) rfl) (zrf_of (rfl : zcd wR 0 = 50) rfl) (Or.inl (hts _ (z_mem k956))) dX12_motor_201 ?_
        refine z_bipush hx hb (by decide) dX12_motor_204 ?_
        refine lv_iload_n hx hb dX12_motor_206 rfl (lv_at hl 4 rfl) ?_
        refine z_imul hx hb dX12_motor_207 ?_
        refine lv_iload hx hb dX12_motor_208 (lv_at hl 1 rfl) ?_
        refine z_iadd hx hb dX12_motor_210 ?_
        refine lv_iload_n hx hb dX12_motor_211 rfl (lv_at hl 6 rfl) ?_
        refine z_iast (n := 24) hx hb hK.1 (t0 := 0) rfl hS hS0 (by decide) (zkd_of (rfl : zcd wR 10 = 60) rfl) (zln_of (rfl : zcd wR 10 = 60) rfl) (by omega) (by omega) (by decide) (zbd_in (rfl : zcd wR 10 = 60) rfl ⟨by omega, by omega⟩) (zms_of (rfl : zcd wR 10 = 60) rfl) dX12_motor_212 (fun H locs hS hS0 => ?_)
        obtain ⟨M44, e45⟩ : ∃ M44 : zM, M44 = zup M41 10 (((12 * mt) + 0).toNat) sp := ⟨_, rfl⟩
        rw [← e45] at hS
        have J46 := hS.2.1
        refine z_iconst hx hb dX12_motor_213 ?_
        exact z_zret hx hb hr hlocks hS hS0 (by first | decide | omega) (by first | exact trivial | exact ⟨rfl, trivial⟩ | omega | (refine ⟨by omega, trivial⟩)) dX12_motor_214
      · skip
        obtain ⟨z28e, h32⟩ := h32
        subst z28e
        refine z_if_ne (tgt := 36) hx hb (by decide) dX12_motor_31 (by decide) (fun c47 => absurd c47 (by decide)) (fun c47 => ?_)
        refine z_iconst hx hb dX12_motor_34 ?_
        exact z_zret hx hb hr hlocks hS hS0 (by first | decide | omega) (by first | exact trivial | exact ⟨rfl, trivial⟩ | omega | (refine ⟨by omega, trivial⟩)) dX12_motor_35
    · skip
      obtain ⟨z18e, h22⟩ := h22
      subst z18e
      refine z_if_eq (tgt := 34) hx hb (by decide) dX12_motor_20 (by decide) (fun c48 => ?_) (fun c48 => absurd c48 (by decide))
      refine z_iconst hx hb dX12_motor_34 ?_
      exact z_zret hx hb hr hlocks hS hS0 (by first | decide | omega) (by first | exact trivial | exact ⟨rfl, trivial⟩ | omega | (refine ⟨by omega, trivial⟩)) dX12_motor_35
  · skip
    obtain ⟨z8e, h12⟩ := h12
    subst z8e
    refine z_if_eq (tgt := 34) hx hb (by decide) dX12_motor_9 (by decide) (fun c49 => ?_) (fun c49 => absurd c49 (by decide))
    refine z_iconst hx hb dX12_motor_34 ?_
    exact z_zret hx hb hr hlocks hS hS0 (by first | decide | omega) (by first | exact trivial | exact ⟨rfl, trivial⟩ | omega | (refine ⟨by omega, trivial⟩)) dX12_motor_35

set_option maxHeartbeats 4000000 in
set_option maxRecDepth 100000 in
theorem m_clear (l : Launch) (D : va_G) (dA : Nat → ClassId) (b : Nat) (M : zM) (g0 : M 0 10 = 0) : Met l yX12_clear (.code yX12_clear cX12_clear 3 (some .int) :: zt) (z_rm 0) (va_Pc [.ref (b + 0)] (zP D dA vwCl (z_tys dA) wR nR b M)) (va_Qi (zQi wR (zms wR [3235, 3210, 3216, 3967]) M (fun z M1 => z = 0 ∧ True)) (zB D dA vwCl wR nR b) (zA nR b)) 0 0 (zA nR b) := by
  refine Met.ofW (cc := cX12_clear) (maxL := 3) (ret := (some .int)) (by decide) rfl ?_
  intro p e s m args below meth c s₁ B hml hv
  obtain ⟨hargs, hR0, hJ, hK⟩ := hv
  have hx := B.exec
  have hb := B.bytes
  have hr := B.returns
  have hts := atoms_spec (ws := .code yX12_clear cX12_clear 3 (some .int) :: zt) B.pre
  have hown : s.vm.findClass RX12 = some m.cls := findClass_of_methodNamed B.named
  have hlocks := B.notSynchronized
  have hS : zS D dA vwCl wR nR b (zms wR [3235, 3210, 3216, 3967]) M M s.heap := ⟨hR0, hJ, zF_rf _ _⟩
  have hS0 : va_S (zA nR b) s.heap s.heap [] := va_S.rf
  have hl := lv_entry ([.ref (b + 0)]) (n := 3) (Nat.le_of_ble_eq_true rfl)
  have hent : entryFrame m args 3 = F0 m 0 ((lg_sl ([.ref (b + 0)]) ++ List.replicate (3 - (lg_sl ([.ref (b + 0)])).length) Slot.unset).toArray) [] := by rw [hargs]; exact lg_entry_eq m ([.ref (b + 0)]) 3
  rw [hent]
  generalize (lg_sl ([.ref (b + 0)]) ++ List.replicate (3 - (lg_sl ([.ref (b + 0)])).length) Slot.unset).toArray = ls at hl ⊢
  have hl : lv_has ls 3 [(0, .ref (b + 0))] := hl
  refine lv_aload_n hx hb dX12_clear_0 rfl (lv_at hl 0 rfl) ?_
  refine z_iconst hx hb dX12_clear_1 ?_
  refine z_puti hx hb hts (z_memU u12) tyX12 tyX12_ok nmX12 hown hK.1 hS hS0 f12_35 (by decide) (zkd_of (rfl : zcd wR 0 = 50) rfl) (Or.inl (hts _ (z_mem k979))) rfl (z := 0) (by decide +kernel) (zbd_in (rfl : zcd wR 0 = 50) rfl (by decide)) (zms_of (rfl : zcd wR 0 = 50) rfl) dX12_clear_2 (fun H locs hS hS0 => ?_)
  obtain ⟨M1, e2⟩ : ∃ M1 : zM, M1 = zup M 0 35 0 := ⟨_, rfl⟩
  rw [← e2] at hS
  have J3 := hS.2.1
  refine lv_aload_n hx hb dX12_clear_5 rfl (lv_at hl 0 rfl) ?_
  refine z_geti hx hb hts (z_memU u12) hown hK.1 hS f12_10 (by decide) (zkd_of (rfl : zcd wR 0 = 50) rfl) (Or.inl (hts _ (z_mem k954))) dX12_clear_6 ?_
  refine z_top (show M1 0 10 = 0 from by rw [e2, zup_n _ _ (by omega), g0]) ?_
  refine lv_istore_n (lv' := [(1, .int (iI 0)), (0, .ref (b + 0))]) hx hb dX12_clear_9 rfl hl (by decide) rfl (fun ls hl => ?_)
  refine lv_aload_n hx hb dX12_clear_10 rfl (lv_at hl 1 rfl) ?_
  refine z_iconst hx hb dX12_clear_11 ?_
  refine z_puti hx hb hts (z_memU u12) tyX12 tyX12_ok nmX12 hown hK.1 hS hS0 f12_10 (by decide) (zkd_of (rfl : zcd wR 0 = 50) rfl) (Or.inl (hts _ (z_mem k954))) rfl (z := 0) (by decide +kernel) (zbd_in (rfl : zcd wR 0 = 50) rfl (by decide)) (zms_of (rfl : zcd wR 0 = 50) rfl) dX12_clear_12 (fun H locs hS hS0 => ?_)
  obtain ⟨M4, e5⟩ : ∃ M4 : zM, M4 = zup M1 0 10 0 := ⟨_, rfl⟩
  rw [← e5] at hS
  have J6 := hS.2.1
  refine lv_aload_n hx hb dX12_clear_15 rfl (lv_at hl 1 rfl) ?_
  refine z_iconst hx hb dX12_clear_16 ?_
  refine z_puti hx hb hts (z_memU u12) tyX12 tyX12_ok nmX12 hown hK.1 hS hS0 f12_16 (by decide) (zkd_of (rfl : zcd wR 0 = 50) rfl) (Or.inl (hts _ (z_mem k960))) rfl (z := 0) (by decide +kernel) (zbd_in (rfl : zcd wR 0 = 50) rfl (by decide)) (zms_of (rfl : zcd wR 0 = 50) rfl) dX12_clear_17 (fun H locs hS hS0 => ?_)
  obtain ⟨M7, e8⟩ : ∃ M7 : zM, M7 = zup M4 0 16 0 := ⟨_, rfl⟩
  rw [← e8] at hS
  have J9 := hS.2.1
  refine z_iconst hx hb dX12_clear_20 ?_
  refine lv_istore_n (lv' := [(2, .int (iI 0)), (1, .int (iI 0)), (0, .ref (b + 0))]) hx hb dX12_clear_21 rfl hl (by decide) rfl (fun ls hl => ?_)
  refine lv_iload_n hx hb dX12_clear_22 rfl (lv_at hl 0 rfl) ?_
  refine z_iconst hx hb dX12_clear_23 ?_
  refine z_icmp_ge (tgt := 40) hx hb (by decide) (by decide) dX12_clear_24 (by decide) (fun c10 => absurd c10 (by decide)) (fun c10 => ?_)
  refine lv_aload_n hx hb dX12_clear_27 rfl (lv_at hl 2 rfl) ?_
  refine z_getr (j2 := 11) hx hb hts (z_memU u12) hown hK.1 hS f12_13 (by decide) (zkd_of (rfl : zcd wR 0 = 50) rfl) (zrf_of (rfl : zcd wR 0 = 50) rfl) (Or.inl (hts _ (z_mem k957))) dX12_clear_28 ?_
  refine lv_iload_n hx hb dX12_clear_31 rfl (lv_at hl 0 rfl) ?_
  refine z_iconst hx hb dX12_clear_32 ?_
  refine z_iast (n := 2) hx hb hK.1 (t0 := 0) rfl hS hS0 (by decide) (zkd_of (rfl : zcd wR 11 = 61) rfl) (zln_of (rfl : zcd wR 11 = 61) rfl) (by decide) (by decide) (by decide) (zbd_in (rfl : zcd wR 11 = 61) rfl (by decide)) (zms_of (rfl : zcd wR 11 = 61) rfl) dX12_clear_33 (fun H locs hS hS0 => ?_)
  obtain ⟨M11, e12⟩ : ∃ M11 : zM, M11 = zup M7 11 ((0 : Int).toNat) 0 := ⟨_, rfl⟩
  rw [← e12] at hS
  have J13 := hS.2.1
  refine z_iinc (lv' := [(2, .int (iI (0 + 1))), (1, .int (iI 0)), (0, .ref (b + 0))]) hx hb dX12_clear_34 hl (k := 0) rfl (by decide) rfl (fun ls hl => ?_)
  rw [show ((0 + 1) : Int) = 1 from by decide] at hl
  refine lv_goto (tgt := 22) hx hb dX12_clear_37 (by decide) ?_
  refine lv_iload_n hx hb dX12_clear_22 rfl (lv_at hl 0 rfl) ?_
  refine z_iconst hx hb dX12_clear_23 ?_
  refine z_icmp_ge (tgt := 40) hx hb (by decide) (by decide) dX12_clear_24 (by decide) (fun c14 => absurd c14 (by decide)) (fun c14 => ?_)
  refine lv_aload_n hx hb dX12_clear_27 rfl (lv_at hl 2 rfl) ?_
  refine z_getr (j2 := 11) hx hb hts (z_memU u12) hown hK.1 hS f12_13 (by decide) (zkd_of (rfl : zcd wR 0 = 50) rfl) (zrf_of (rfl : zcd wR 0 = 50) rfl) (Or.inl (hts _ (z_mem k957))) dX12_clear_28 ?_
  refine lv_iload_n hx hb dX12_clear_31 rfl (lv_at hl 0 rfl) ?_
  refine z_iconst hx hb dX12_clear_32 ?_
  refine z_iast (n := 2) hx hb hK.1 (t0 := 0) rfl hS hS0 (by decide) (zkd_of (rfl : zcd wR 11 = 61) rfl) (zln_of (rfl : zcd wR 11 = 61) rfl) (by decide) (by decide) (by decide) (zbd_in (rfl : zcd wR 11 = 61) rfl (by decide)) (zms_of (rfl : zcd wR 11 = 61) rfl) dX12_clear_33 (fun H locs hS hS0 => ?_)
  obtain ⟨M15, e16⟩ : ∃ M15 : zM, M15 = zup M11 11 ((1 : Int).toNat) 0 := ⟨_, rfl⟩
  rw [← e16] at hS
  have J17 := hS.2.1
  refine z_iinc (lv' := [(2, .int (iI (1 + 1))), (1, .int (iI 0)), (0, .ref (b + 0))]) hx hb dX12_clear_34 hl (k := 0) rfl (by decide) rfl (fun ls hl => ?_)
  rw [show ((1 + 1) : Int) = 2 from by decide] at hl
  refine lv_goto (tgt := 22) hx hb dX12_clear_37 (by decide) ?_
  refine lv_iload_n hx hb dX12_clear_22 rfl (lv_at hl 0 rfl) ?_
  refine z_iconst hx hb dX12_clear_23 ?_
  refine z_icmp_ge (tgt := 40) hx hb (by decide) (by decide) dX12_clear_24 (by decide) (fun c18 => ?_) (fun c18 => absurd c18 (by decide))
  refine lv_iload_n hx hb dX12_clear_40 rfl (lv_at hl 1 rfl) ?_
  exact z_iret hx hb hr hlocks hS hS0 (by decide) (by first | exact trivial | exact ⟨rfl, trivial⟩ | omega | (refine ⟨by omega, trivial⟩)) dX12_clear_41

set_option maxHeartbeats 4000000 in
set_option maxRecDepth 100000 in
theorem m_count (l : Launch) (D : va_G) (dA : Nat → ClassId) (b : Nat) (M : zM) (wh : Int) (r_wh : R32 wh) (g0 : M 0 10 = 0) (g1 : M 0 16 = 0) (g2 : M 0 24 = 0) (g3 : M 0 27 = 0) (g4 : M 0 32 = 0) (g5 : M 0 34 = 0) (g6 : M 0 1 = 0) (g7 : M 0 3 = 0) : Met l yX12_count (.code yX12_count cX12_count 2 (some .int) :: zt) (z_rm 0) (va_Pc [.ref (b + 0), .int (iI wh)] (zP D dA vwCl (z_tys dA) wR nR b M)) (va_Qi (zQi wR (zms wR [3235]) M (fun z M1 => (0 ≤ wh ∧ wh ≤ 7 ∧ z = 0) ∨ ((wh < 0 ∨ 7 < wh) ∧ z = -1))) (zB D dA vwCl wR nR b) (zA nR b)) 0 0 (zA nR b) := by
  refine Met.ofW (cc := cX12_count) (maxL := 2) (ret := (some .int)) (by decide) rfl ?_
  intro p e s m args below meth c s₁ B hml hv
  obtain ⟨hargs, hR0, hJ, hK⟩ := hv
  have hx := B.exec
  have hb := B.bytes
  have hr := B.returns
  have hts := atoms_spec (ws := .code yX12_count cX12_count 2 (some .int) :: zt) B.pre
  have hown : s.vm.findClass RX12 = some m.cls := findClass_of_methodNamed B.named
  have hlocks := B.notSynchronized
  have hS : zS D dA vwCl wR nR b (zms wR [3235]) M M s.heap := ⟨hR0, hJ, zF_rf _ _⟩
  have hS0 : va_S (zA nR b) s.heap s.heap [] := va_S.rf
  have hl := lv_entry ([.ref (b + 0), .int (iI wh)]) (n := 2) (Nat.le_of_ble_eq_true rfl)
  have hent : entryFrame m args 2 = F0 m 0 ((lg_sl ([.ref (b + 0), .int (iI wh)]) ++ List.replicate (2 - (lg_sl ([.ref (b + 0), .int (iI wh)])).length) Slot.unset).toArray) [] := by rw [hargs]; exact lg_entry_eq m ([.ref (b + 0), .int (iI wh)]) 2
  rw [hent]
  generalize (lg_sl ([.ref (b + 0), .int (iI wh)]) ++ List.replicate (2 - (lg_sl ([.ref (b + 0), .int (iI wh)])).length) Slot.unset).toArray = ls at hl ⊢
  have hl : lv_has ls 2 [(0, .ref (b + 0)), (1, .int (iI wh))] := hl
  refine lv_aload_n hx hb dX12_count_0 rfl (lv_at hl 0 rfl) ?_
  refine z_iconst hx hb dX12_count_1 ?_
  refine z_puti hx hb hts (z_memU u12) tyX12 tyX12_ok nmX12 hown hK.1 hS hS0 f12_35 (by decide) (zkd_of (rfl : zcd wR 0 = 50) rfl) (Or.inl (hts _ (z_mem k979))) rfl (z := 0) (by decide +kernel) (zbd_in (rfl : zcd wR 0 = 50) rfl (by decide)) (zms_of (rfl : zcd wR 0 = 50) rfl) dX12_count_2 (fun H locs hS hS0 => ?_)
  obtain ⟨M1, e2⟩ : ∃ M1 : zM, M1 = zup M 0 35 0 := ⟨_, rfl⟩
  rw [← e2] at hS
  have J3 := hS.2.1
  refine lv_iload_n hx hb dX12_count_5 rfl (lv_at hl 1 rfl) ?_
  rcases Decidable.em (wh = 0) with c4 | c4
  · skip
    refine z_tabIn (tgt := 52) hx hb r_wh c4 dX12_count_6 (by decide) (by decide) rfl (by decide) ?_
    refine lv_aload_n hx hb dX12_count_52 rfl (lv_at hl 0 rfl) ?_
    refine z_geti hx hb hts (z_memU u12) hown hK.1 hS f12_10 (by decide) (zkd_of (rfl : zcd wR 0 = 50) rfl) (Or.inl (hts _ (z_mem k954))) dX12_count_53 ?_
    refine z_top (show M1 0 10 = 0 from by rw [e2, zup_n _ _ (by omega), g0]) ?_
    exact z_iret hx hb hr hlocks hS hS0 (by decide) (by first | exact trivial | exact ⟨rfl, trivial⟩ | omega | (refine ⟨by omega, trivial⟩)) dX12_count_56
  rcases Decidable.em (wh = 1) with c5 | c5
  · skip
    refine z_tabIn (tgt := 57) hx hb r_wh c5 dX12_count_6 (by decide) (by decide) rfl (by decide) ?_
    refine lv_aload_n hx hb dX12_count_57 rfl (lv_at hl 0 rfl) ?_
    refine z_geti hx hb hts (z_memU u12) hown hK.1 hS f12_16 (by decide) (zkd_of (rfl : zcd wR 0 = 50) rfl) (Or.inl (hts _ (z_mem k960))) dX12_count_58 ?_
    refine z_top (show M1 0 16 = 0 from by rw [e2, zup_n _ _ (by omega), g1]) ?_
    exact z_iret hx hb hr hlocks hS hS0 (by decide) (by first | exact trivial | exact ⟨rfl, trivial⟩ | omega | (refine ⟨by omega, trivial⟩)) dX12_count_61
  rcases Decidable.em (wh = 2) with c6 | c6
  · skip
    refine z_tabIn (tgt := 62) hx hb r_wh c6 dX12_count_6 (by decide) (by decide) rfl (by decide) ?_
    refine lv_aload_n hx hb dX12_count_62 rfl (lv_at hl 0 rfl) ?_
    refine z_geti hx hb hts (z_memU u12) hown hK.1 hS f12_24 (by decide) (zkd_of (rfl : zcd wR 0 = 50) rfl) (Or.inl (hts _ (z_mem k968))) dX12_count_63 ?_
    refine z_top (show M1 0 24 = 0 from by rw [e2, zup_n _ _ (by omega), g2]) ?_
    exact z_iret hx hb hr hlocks hS hS0 (by decide) (by first | exact trivial | exact ⟨rfl, trivial⟩ | omega | (refine ⟨by omega, trivial⟩)) dX12_count_66
  rcases Decidable.em (wh = 3) with c7 | c7
  · skip
    refine z_tabIn (tgt := 67) hx hb r_wh c7 dX12_count_6 (by decide) (by decide) rfl (by decide) ?_
    refine lv_aload_n hx hb dX12_count_67 rfl (lv_at hl 0 rfl) ?_
    refine z_geti hx hb hts (z_memU u12) hown hK.1 hS f12_27 (by decide) (zkd_of (rfl : zcd wR 0 = 50) rfl) (Or.inl (hts _ (z_mem k971))) dX12_count_68 ?_
    refine z_top (show M1 0 27 = 0 from by rw [e2, zup_n _ _ (by omega), g3]) ?_
    exact z_iret hx hb hr hlocks hS hS0 (by decide) (by first | exact trivial | exact ⟨rfl, trivial⟩ | omega | (refine ⟨by omega, trivial⟩)) dX12_count_71
  rcases Decidable.em (wh = 4) with c8 | c8
  · skip
    refine z_tabIn (tgt := 72) hx hb r_wh c8 dX12_count_6 (by decide) (by decide) rfl (by decide) ?_
    refine lv_aload_n hx hb dX12_count_72 rfl (lv_at hl 0 rfl) ?_
    refine z_geti hx hb hts (z_memU u12) hown hK.1 hS f12_32 (by decide) (zkd_of (rfl : zcd wR 0 = 50) rfl) (Or.inl (hts _ (z_mem k976))) dX12_count_73 ?_
    refine z_top (show M1 0 32 = 0 from by rw [e2, zup_n _ _ (by omega), g4]) ?_
    exact z_iret hx hb hr hlocks hS hS0 (by decide) (by first | exact trivial | exact ⟨rfl, trivial⟩ | omega | (refine ⟨by omega, trivial⟩)) dX12_count_76
  rcases Decidable.em (wh = 5) with c9 | c9
  · skip
    refine z_tabIn (tgt := 77) hx hb r_wh c9 dX12_count_6 (by decide) (by decide) rfl (by decide) ?_
    refine lv_aload_n hx hb dX12_count_77 rfl (lv_at hl 0 rfl) ?_
    refine z_geti hx hb hts (z_memU u12) hown hK.1 hS f12_34 (by decide) (zkd_of (rfl : zcd wR 0 = 50) rfl) (Or.inl (hts _ (z_mem k978))) dX12_count_78 ?_
    refine z_top (show M1 0 34 = 0 from by rw [e2, zup_n _ _ (by omega), g5]) ?_
    exact z_iret hx hb hr hlocks hS hS0 (by decide) (by first | exact trivial | exact ⟨rfl, trivial⟩ | omega | (refine ⟨by omega, trivial⟩)) dX12_count_81
  rcases Decidable.em (wh = 6) with c10 | c10
  · skip
    refine z_tabIn (tgt := 82) hx hb r_wh c10 dX12_count_6 (by decide) (by decide) rfl (by decide) ?_
    refine lv_aload_n hx hb dX12_count_82 rfl (lv_at hl 0 rfl) ?_
    refine z_geti hx hb hts (z_memU u12) hown hK.1 hS f12_1 (by decide) (zkd_of (rfl : zcd wR 0 = 50) rfl) (Or.inl (hts _ (z_mem k945))) dX12_count_83 ?_
    refine z_top (show M1 0 1 = 0 from by rw [e2, zup_n _ _ (by omega), g6]) ?_
    exact z_iret hx hb hr hlocks hS hS0 (by decide) (by first | exact trivial | exact ⟨rfl, trivial⟩ | omega | (refine ⟨by omega, trivial⟩)) dX12_count_86
  rcases Decidable.em (wh = 7) with c11 | c11
  · skip
    refine z_tabIn (tgt := 87) hx hb r_wh c11 dX12_count_6 (by decide) (by decide) rfl (by decide) ?_
    refine lv_aload_n hx hb dX12_count_87 rfl (lv_at hl 0 rfl) ?_
    refine z_geti hx hb hts (z_memU u12) hown hK.1 hS f12_3 (by decide) (zkd_of (rfl : zcd wR 0 = 50) rfl) (Or.inl (hts _ (z_mem k947))) dX12_count_88 ?_
    refine z_top (show M1 0 3 = 0 from by rw [e2, zup_n _ _ (by omega), g7]) ?_
    exact z_iret hx hb hr hlocks hS hS0 (by decide) (by first | exact trivial | exact ⟨rfl, trivial⟩ | omega | (refine ⟨by omega, trivial⟩)) dX12_count_91
  refine z_tabOut (tgt := 92) hx hb r_wh dX12_count_6 (by omega) (by decide) ?_
  refine z_iconst hx hb dX12_count_92 ?_
  exact z_iret hx hb hr hlocks hS hS0 (by decide) (by first | exact trivial | exact ⟨rfl, trivial⟩ | omega | (refine ⟨by omega, trivial⟩)) dX12_count_93

set_option maxHeartbeats 4000000 in
set_option maxRecDepth 100000 in
theorem m_steady (l : Launch) (D : va_G) (dA : Nat → ClassId) (b : Nat) (M : zM) (mt : Int) (r_mt : R32 mt) (a0 : ∀ k : Nat, k < 2 → M 11 k = 0) (p0 : 0 ≤ mt ∧ mt ≤ 1) : Met l yX12_steady (.code yX12_steady cX12_steady 2 (some .int) :: zt) (z_rm 0) (va_Pc [.ref (b + 0), .int (iI mt)] (zP D dA vwCl (z_tys dA) wR nR b M)) (va_Qi (zQi wR (zms wR []) M (fun z M1 => M1 = M ∧ (z = 0 ∧ True))) (zB D dA vwCl wR nR b) (zA nR b)) 0 0 (zA nR b) := by
  refine Met.ofW (cc := cX12_steady) (maxL := 2) (ret := (some .int)) (by decide) rfl ?_
  intro p e s m args below meth c s₁ B hml hv
  obtain ⟨hargs, hR0, hJ, hK⟩ := hv
  have hx := B.exec
  have hb := B.bytes
  have hr := B.returns
  have hts := atoms_spec (ws := .code yX12_steady cX12_steady 2 (some .int) :: zt) B.pre
  have hown : s.vm.findClass RX12 = some m.cls := findClass_of_methodNamed B.named
  have hlocks := B.notSynchronized
  have hS : zS D dA vwCl wR nR b (zms wR []) M M s.heap := ⟨hR0, hJ, zF_rf _ _⟩
  have hS0 : va_S (zA nR b) s.heap s.heap [] := va_S.rf
  have hl := lv_entry ([.ref (b + 0), .int (iI mt)]) (n := 2) (Nat.le_of_ble_eq_true rfl)
  have hent : entryFrame m args 2 = F0 m 0 ((lg_sl ([.ref (b + 0), .int (iI mt)]) ++ List.replicate (2 - (lg_sl ([.ref (b + 0), .int (iI mt)])).length) Slot.unset).toArray) [] := by rw [hargs]; exact lg_entry_eq m ([.ref (b + 0), .int (iI mt)]) 2
  rw [hent]
  generalize (lg_sl ([.ref (b + 0), .int (iI mt)]) ++ List.replicate (2 - (lg_sl ([.ref (b + 0), .int (iI mt)])).length) Slot.unset).toArray = ls at hl ⊢
  have hl : lv_has ls 2 [(0, .ref (b + 0)), (1, .int (iI mt))] := hl
  refine lv_aload_n hx hb dX12_steady_0 rfl (lv_at hl 0 rfl) ?_
  refine z_getr (j2 := 11) hx hb hts (z_memU u12) hown hK.1 hS f12_13 (by decide) (zkd_of (rfl : zcd wR 0 = 50) rfl) (zrf_of (rfl : zcd wR 0 = 50) rfl) (Or.inl (hts _ (z_mem k957))) dX12_steady_1 ?_
  refine lv_iload_n hx hb dX12_steady_4 rfl (lv_at hl 1 rfl) ?_
  refine z_iald (n := 2) hx hb hK.1 (t0 := 0) rfl hS (by decide) (zkd_of (rfl : zcd wR 11 = 61) rfl) (zln_of (rfl : zcd wR 11 = 61) rfl) (by omega) (by omega) (by decide) dX12_steady_5 ?_
  refine z_top (show M 11 (mt.toNat) = 0 from by rw [a0 _ (by omega)]) ?_
  refine z_if_ne (tgt := 13) hx hb (by decide) dX12_steady_6 (by decide) (fun c1 => absurd c1 (by decide)) (fun c1 => ?_)
  refine z_iconst hx hb dX12_steady_9 ?_
  refine lv_goto (tgt := 31) hx hb dX12_steady_10 (by decide) ?_
  exact z_iret hx hb hr hlocks hS hS0 (by decide) (⟨rfl, by first | exact trivial | exact ⟨rfl, trivial⟩ | omega | (refine ⟨by omega, trivial⟩)⟩) dX12_steady_31

set_option maxHeartbeats 4000000 in
set_option maxRecDepth 100000 in
theorem m_of (l : Launch) (D : va_G) (dA : Nat → ClassId) (b : Nat) (M : zM) (rg : Int) (wh : Int) (r_rg : R32 rg) (r_wh : R32 wh) (g0 : M 0 10 = 0) : Met l yX12_of (.code yX12_of cX12_of 3 (some .int) :: zt) (z_rm 2) (va_Pc [.ref (b + 0), .int (iI rg), .int (iI wh)] (zP D dA vwCl (z_tys dA) wR nR b M)) (va_Qi (zQi wR (zms wR [3235]) M (fun z M1 => (z = 0 ∧ True) ∧ M1 0 35 = 1)) (zB D dA vwCl wR nR b) (zA nR b)) 0 0 (zA nR b) := by
  refine Met.ofW (cc := cX12_of) (maxL := 3) (ret := (some .int)) (by decide) rfl ?_
  intro p e s m args below meth c s₁ B hml hv
  obtain ⟨hargs, hR0, hJ, hK⟩ := hv
  have hx := B.exec
  have hb := B.bytes
  have hr := B.returns
  have hts := atoms_spec (ws := .code yX12_of cX12_of 3 (some .int) :: zt) B.pre
  have hown : s.vm.findClass RX12 = some m.cls := findClass_of_methodNamed B.named
  have hlocks := B.notSynchronized
  have hS : zS D dA vwCl wR nR b (zms wR [3235]) M M s.heap := ⟨hR0, hJ, zF_rf _ _⟩
  have hS0 : va_S (zA nR b) s.heap s.heap [] := va_S.rf
  have hl := lv_entry ([.ref (b + 0), .int (iI rg), .int (iI wh)]) (n := 3) (Nat.le_of_ble_eq_true rfl)
  have hent : entryFrame m args 3 = F0 m 0 ((lg_sl ([.ref (b + 0), .int (iI rg), .int (iI wh)]) ++ List.replicate (3 - (lg_sl ([.ref (b + 0), .int (iI rg), .int (iI wh)])).length) Slot.unset).toArray) [] := by rw [hargs]; exact lg_entry_eq m ([.ref (b + 0), .int (iI rg), .int (iI wh)]) 3
  rw [hent]
  generalize (lg_sl ([.ref (b + 0), .int (iI rg), .int (iI wh)]) ++ List.replicate (3 - (lg_sl ([.ref (b + 0), .int (iI rg), .int (iI wh)])).length) Slot.unset).toArray = ls at hl ⊢
  have hl : lv_has ls 3 [(0, .ref (b + 0)), (1, .int (iI rg)), (2, .int (iI wh))] := hl
  refine lv_aload_n hx hb dX12_of_0 rfl (lv_at hl 0 rfl) ?_
  refine z_iconst hx hb dX12_of_1 ?_
  refine z_puti hx hb hts (z_memU u12) tyX12 tyX12_ok nmX12 hown hK.1 hS hS0 f12_35 (by decide) (zkd_of (rfl : zcd wR 0 = 50) rfl) (Or.inl (hts _ (z_mem k979))) rfl (z := 0) (by decide +kernel) (zbd_in (rfl : zcd wR 0 = 50) rfl (by decide)) (zms_of (rfl : zcd wR 0 = 50) rfl) dX12_of_2 (fun H locs hS hS0 => ?_)
  obtain ⟨M1, e2⟩ : ∃ M1 : zM, M1 = zup M 0 35 0 := ⟨_, rfl⟩
  rw [← e2] at hS
  have J3 := hS.2.1
  refine lv_aload_n hx hb dX12_of_5 rfl (lv_at hl 0 rfl) ?_
  refine lv_iload_n hx hb dX12_of_6 rfl (lv_at hl 1 rfl) ?_
  refine z_calli (va_runV (As := [.int (iI rg)]) (rest := []) ⟨hx, hb, hml, hown, hts⟩ (m_isRing l D dA b M1 rg r_rg (by rw [e2, zup_n _ _ (by omega), g0])) (cwV 1 hts (z_gV k1101 k1102 k1401 k14 k1103) rfl rfl rfl dm_X12_isRing ⟨Nat.le_of_ble_eq_true rfl, Nat.le_of_ble_eq_true rfl⟩) ⟨zP_blind, (z_recv hS hK.1 (by decide) (zkd_of (rfl : zcd wR 0 = 50) rfl) (by decide) (rfl : vwCl[12]? = some (RX12, TX12, 50))), z_pre hS hK⟩ rfl rfl hl.1 rfl (lv_room (Nat.le_of_ble_eq_true rfl)) dX12_of_7 ⟨Nat.le_refl _, Nat.le_refl _⟩) hS hS0 (zms_sub rfl) (fun z8 M4 H locs r9 h5 F6 hS hS0 => ?_)
  obtain ⟨h10, h5⟩ := h5
  rw [h10] at hS
  have h11 := h5
  obtain ⟨z8e, h11⟩ := h11
  subst z8e
  refine z_if_eq (tgt := 22) hx hb (by decide) dX12_of_10 (by decide) (fun c12 => ?_) (fun c12 => absurd c12 (by decide))
  refine lv_aload_n hx hb dX12_of_22 rfl (lv_at hl 0 rfl) ?_
  refine z_iconst hx hb dX12_of_23 ?_
  refine z_puti hx hb hts (z_memU u12) tyX12 tyX12_ok nmX12 hown hK.1 hS hS0 f12_35 (by decide) (zkd_of (rfl : zcd wR 0 = 50) rfl) (Or.inl (hts _ (z_mem k979))) rfl (z := 1) (by decide +kernel) (zbd_in (rfl : zcd wR 0 = 50) rfl (by decide)) (zms_of (rfl : zcd wR 0 = 50) rfl) dX12_of_24 (fun H locs hS hS0 => ?_)
  obtain ⟨M13, e14⟩ : ∃ M13 : zM, M13 = zup M1 0 35 1 := ⟨_, rfl⟩
  rw [← e14] at hS
  have J15 := hS.2.1
  refine z_iconst hx hb dX12_of_27 ?_
  exact z_iret hx hb hr hlocks hS hS0 (by decide) (⟨by first | exact trivial | exact ⟨rfl, trivial⟩ | omega | (refine ⟨by omega, trivial⟩), by rw [e14, zup_s]⟩) dX12_of_28

set_option maxHeartbeats 4000000 in
set_option maxRecDepth 100000 in
theorem m_inch (l : Launch) (D : va_G) (dA : Nat → ClassId) (b : Nat) (M : zM) (rg : Int) (i : Int) (r_rg : R32 rg) (r_i : R32 i) (g0 : M 0 10 = 0) : Met l yX12_inch (.code yX12_inch cX12_inch 3 (some .int) :: zt) (z_rm 2) (va_Pc [.ref (b + 0), .int (iI rg), .int (iI i)] (zP D dA vwCl (z_tys dA) wR nR b M)) (va_Qi (zQi wR (zms wR [3235]) M (fun z M1 => z = -1 ∧ True)) (zB D dA vwCl wR nR b) (zA nR b)) 0 0 (zA nR b) := by
  refine Met.ofW (cc := cX12_inch) (maxL := 3) (ret := (some .int)) (by decide) rfl ?_
  intro p e s m args below meth c s₁ B hml hv
  obtain ⟨hargs, hR0, hJ, hK⟩ := hv
  have hx := B.exec
  have hb := B.bytes
  have hr := B.returns
  have hts := atoms_spec (ws := .code yX12_inch cX12_inch 3 (some .int) :: zt) B.pre
  have hown : s.vm.findClass RX12 = some m.cls := findClass_of_methodNamed B.named
  have hlocks := B.notSynchronized
  have hS : zS D dA vwCl wR nR b (zms wR [3235]) M M s.heap := ⟨hR0, hJ, zF_rf _ _⟩
  have hS0 : va_S (zA nR b) s.heap s.heap [] := va_S.rf
  have hl := lv_entry ([.ref (b + 0), .int (iI rg), .int (iI i)]) (n := 3) (Nat.le_of_ble_eq_true rfl)
  have hent : entryFrame m args 3 = F0 m 0 ((lg_sl ([.ref (b + 0), .int (iI rg), .int (iI i)]) ++ List.replicate (3 - (lg_sl ([.ref (b + 0), .int (iI rg), .int (iI i)])).length) Slot.unset).toArray) [] := by rw [hargs]; exact lg_entry_eq m ([.ref (b + 0), .int (iI rg), .int (iI i)]) 3
  rw [hent]
  generalize (lg_sl ([.ref (b + 0), .int (iI rg), .int (iI i)]) ++ List.replicate (3 - (lg_sl ([.ref (b + 0), .int (iI rg), .int (iI i)])).length) Slot.unset).toArray = ls at hl ⊢
  have hl : lv_has ls 3 [(0, .ref (b + 0)), (1, .int (iI rg)), (2, .int (iI i))] := hl
  refine lv_aload_n hx hb dX12_inch_0 rfl (lv_at hl 0 rfl) ?_
  refine z_iconst hx hb dX12_inch_1 ?_
  refine z_puti hx hb hts (z_memU u12) tyX12 tyX12_ok nmX12 hown hK.1 hS hS0 f12_35 (by decide) (zkd_of (rfl : zcd wR 0 = 50) rfl) (Or.inl (hts _ (z_mem k979))) rfl (z := 0) (by decide +kernel) (zbd_in (rfl : zcd wR 0 = 50) rfl (by decide)) (zms_of (rfl : zcd wR 0 = 50) rfl) dX12_inch_2 (fun H locs hS hS0 => ?_)
  obtain ⟨M1, e2⟩ : ∃ M1 : zM, M1 = zup M 0 35 0 := ⟨_, rfl⟩
  rw [← e2] at hS
  have J3 := hS.2.1
  refine lv_aload_n hx hb dX12_inch_5 rfl (lv_at hl 0 rfl) ?_
  refine lv_iload_n hx hb dX12_inch_6 rfl (lv_at hl 1 rfl) ?_
  refine z_calli (va_runV (As := [.int (iI rg)]) (rest := []) ⟨hx, hb, hml, hown, hts⟩ (m_isRing l D dA b M1 rg r_rg (by rw [e2, zup_n _ _ (by omega), g0])) (cwV 1 hts (z_gV k1101 k1102 k1401 k14 k1103) rfl rfl rfl dm_X12_isRing ⟨Nat.le_of_ble_eq_true rfl, Nat.le_of_ble_eq_true rfl⟩) ⟨zP_blind, (z_recv hS hK.1 (by decide) (zkd_of (rfl : zcd wR 0 = 50) rfl) (by decide) (rfl : vwCl[12]? = some (RX12, TX12, 50))), z_pre hS hK⟩ rfl rfl hl.1 rfl (lv_room (Nat.le_of_ble_eq_true rfl)) dX12_inch_7 ⟨Nat.le_refl _, Nat.le_refl _⟩) hS hS0 (zms_sub rfl) (fun z8 M4 H locs r9 h5 F6 hS hS0 => ?_)
  obtain ⟨h10, h5⟩ := h5
  rw [h10] at hS
  have h11 := h5
  obtain ⟨z8e, h11⟩ := h11
  subst z8e
  refine z_if_eq (tgt := 43) hx hb (by decide) dX12_inch_10 (by decide) (fun c12 => ?_) (fun c12 => absurd c12 (by decide))
  refine z_iconst hx hb dX12_inch_43 ?_
  exact z_iret hx hb hr hlocks hS hS0 (by decide) (by first | exact trivial | exact ⟨rfl, trivial⟩ | omega | (refine ⟨by omega, trivial⟩)) dX12_inch_44

set_option maxHeartbeats 4000000 in
set_option maxRecDepth 100000 in
theorem m_wayEarly (l : Launch) (D : va_G) (dA : Nat → ClassId) (b : Nat) (M : zM) (mt : Int) (t : Int) (r_mt : R32 mt) (r_t : R64 t) (a0 : ∀ k : Nat, k < 2 → M 11 k = 0) (p0 : 0 ≤ mt ∧ mt ≤ 1) : Met l yX12_wayEarly (.code yX12_wayEarly cX12_wayEarly 10 (some .long) :: zt) (z_rm 0) (va_Pc [.ref (b + 0), .int (iI mt), .long (iL t)] (zP D dA vwCl (z_tys dA) wR nR b M)) (va_Ql (zQl wR (zms wR []) M (fun z M1 => M1 = M ∧ (z = t ∧ True))) (zB D dA vwCl wR nR b) (zA nR b)) 0 0 (zA nR b) := by
  refine Met.ofW (cc := cX12_wayEarly) (maxL := 10) (ret := (some .long)) (by decide) rfl ?_
  intro p e s m args below meth c s₁ B hml hv
  obtain ⟨hargs, hR0, hJ, hK⟩ := hv
  have hx := B.exec
  have hb := B.bytes
  have hr := B.returns
  have hts := atoms_spec (ws := .code yX12_wayEarly cX12_wayEarly 10 (some .long) :: zt) B.pre
  have hown : s.vm.findClass RX12 = some m.cls := findClass_of_methodNamed B.named
  have hlocks := B.notSynchronized
  have hS : zS D dA vwCl wR nR b (zms wR []) M M s.heap := ⟨hR0, hJ, zF_rf _ _⟩
  have hS0 : va_S (zA nR b) s.heap s.heap [] := va_S.rf
  have hl := lv_entry ([.ref (b + 0), .int (iI mt), .long (iL t)]) (n := 10) (Nat.le_of_ble_eq_true rfl)
  have hent : entryFrame m args 10 = F0 m 0 ((lg_sl ([.ref (b + 0), .int (iI mt), .long (iL t)]) ++ List.replicate (10 - (lg_sl ([.ref (b + 0), .int (iI mt), .long (iL t)])).length) Slot.unset).toArray) [] := by rw [hargs]; exact lg_entry_eq m ([.ref (b + 0), .int (iI mt), .long (iL t)]) 10
  rw [hent]
  generalize (lg_sl ([.ref (b + 0), .int (iI mt), .long (iL t)]) ++ List.replicate (10 - (lg_sl ([.ref (b + 0), .int (iI mt), .long (iL t)])).length) Slot.unset).toArray = ls at hl ⊢
  have hl : lv_has ls 10 [(0, .ref (b + 0)), (1, .int (iI mt)), (2, .long (iL t))] := hl
  refine z_lconst0 hx hb dX12_wayEarly_0 ?_
  refine lv_lstore (lv' := [(4, .long (iL 0)), (0, .ref (b + 0)), (1, .int (iI mt)), (2, .long (iL t))]) hx hb dX12_wayEarly_1 hl (by decide) rfl (fun ls hl => ?_)
  refine z_lconst0 hx hb dX12_wayEarly_3 ?_
  refine lv_lstore (lv' := [(6, .long (iL 0)), (4, .long (iL 0)), (0, .ref (b + 0)), (1, .int (iI mt)), (2, .long (iL t))]) hx hb dX12_wayEarly_4 hl (by decide) rfl (fun ls hl => ?_)
  refine z_iconst hx hb dX12_wayEarly_6 ?_
  refine lv_istore (lv' := [(8, .int (iI 1)), (6, .long (iL 0)), (4, .long (iL 0)), (0, .ref (b + 0)), (1, .int (iI mt)), (2, .long (iL t))]) hx hb dX12_wayEarly_7 hl (by decide) rfl (fun ls hl => ?_)
  refine z_iconst hx hb dX12_wayEarly_9 ?_
  refine lv_istore (lv' := [(9, .int (iI 0)), (8, .int (iI 1)), (6, .long (iL 0)), (4, .long (iL 0)), (0, .ref (b + 0)), (1, .int (iI mt)), (2, .long (iL t))]) hx hb dX12_wayEarly_10 hl (by decide) rfl (fun ls hl => ?_)
  refine lv_iload hx hb dX12_wayEarly_12 (lv_at hl 0 rfl) ?_
  refine lv_aload_n hx hb dX12_wayEarly_14 rfl (lv_at hl 4 rfl) ?_
  refine z_getr (j2 := 11) hx hb hts (z_memU u12) hown hK.1 hS f12_13 (by decide) (zkd_of (rfl : zcd wR 0 = 50) rfl) (zrf_of (rfl : zcd wR 0 = 50) rfl) (Or.inl (hts _ (z_mem k957))) dX12_wayEarly_15 ?_
  refine lv_iload_n hx hb dX12_wayEarly_18 rfl (lv_at hl 5 rfl) ?_
  refine z_iald (n := 2) hx hb hK.1 (t0 := 0) rfl hS (by decide) (zkd_of (rfl : zcd wR 11 = 61) rfl) (zln_of (rfl : zcd wR 11 = 61) rfl) (by omega) (by omega) (by decide) dX12_wayEarly_19 ?_
  refine z_top (show M 11 (mt.toNat) = 0 from by rw [a0 _ (by omega)]) ?_
  refine z_icmp_ge (tgt := 101) hx hb (by decide) (by decide) dX12_wayEarly_20 (by decide) (fun c1 => ?_) (fun c1 => absurd c1 (by decide))
  refine lv_lload hx hb dX12_wayEarly_101 (lv_at hl 3 rfl) ?_
  refine lv_iload hx hb dX12_wayEarly_103 (lv_at hl 1 rfl) ?_
  refine z_i2l hx hb (by decide) dX12_wayEarly_105 ?_
  refine lv_lload_n hx hb dX12_wayEarly_106 rfl (lv_at hl 6 rfl) ?_
  refine lv_lload hx hb dX12_wayEarly_107 (lv_at hl 2 rfl) ?_
  refine z_lsub hx hb dX12_wayEarly_109 ?_
  refine z_lmul hx hb dX12_wayEarly_110 ?_
  refine z_ladd hx hb dX12_wayEarly_111 ?_
  exact z_lret hx hb hr hlocks hS hS0 ⟨by omega, by omega⟩ (⟨rfl, by first | exact trivial | exact ⟨rfl, trivial⟩ | omega | (refine ⟨by omega, trivial⟩)⟩) dX12_wayEarly_112

set_option maxHeartbeats 4000000 in
set_option maxRecDepth 100000 in
theorem m_way (l : Launch) (D : va_G) (dA : Nat → ClassId) (b : Nat) (M : zM) (mt : Int) (tk : Int) (r_mt : R32 mt) (r_tk : R32 tk) (a0 : ∀ k : Nat, k < 2 → M 11 k = 0) : Met l yX12_way (.code yX12_way cX12_way 3 (some .long) :: zt) (z_rm 1) (va_Pc [.ref (b + 0), .int (iI mt), .int (iI tk)] (zP D dA vwCl (z_tys dA) wR nR b M)) (va_Ql (zQl wR (zms wR [3235]) M (fun z M1 => ((0 ≤ mt ∧ mt ≤ 1 ∧ 0 ≤ tk ∧ tk ≤ 1000000000) ∧ z = tk ∧ M1 0 35 = 0) ∨ (¬ (0 ≤ mt ∧ mt ≤ 1 ∧ 0 ≤ tk ∧ tk ≤ 1000000000) ∧ z = 0 ∧ M1 0 35 = 1))) (zB D dA vwCl wR nR b) (zA nR b)) 0 0 (zA nR b) := by
  refine Met.ofW (cc := cX12_way) (maxL := 3) (ret := (some .long)) (by decide) rfl ?_
  intro p e s m args below meth c s₁ B hml hv
  obtain ⟨hargs, hR0, hJ, hK⟩ := hv
  have hx := B.exec
  have hb := B.bytes
  have hr := B.returns
  have hts := atoms_spec (ws := .code yX12_way cX12_way 3 (some .long) :: zt) B.pre
  have hown : s.vm.findClass RX12 = some m.cls := findClass_of_methodNamed B.named
  have hlocks := B.notSynchronized
  have hS : zS D dA vwCl wR nR b (zms wR [3235]) M M s.heap := ⟨hR0, hJ, zF_rf _ _⟩
  have hS0 : va_S (zA nR b) s.heap s.heap [] := va_S.rf
  have hl := lv_entry ([.ref (b + 0), .int (iI mt), .int (iI tk)]) (n := 3) (Nat.le_of_ble_eq_true rfl)
  have hent : entryFrame m args 3 = F0 m 0 ((lg_sl ([.ref (b + 0), .int (iI mt), .int (iI tk)]) ++ List.replicate (3 - (lg_sl ([.ref (b + 0), .int (iI mt), .int (iI tk)])).length) Slot.unset).toArray) [] := by rw [hargs]; exact lg_entry_eq m ([.ref (b + 0), .int (iI mt), .int (iI tk)]) 3
  rw [hent]
  generalize (lg_sl ([.ref (b + 0), .int (iI mt), .int (iI tk)]) ++ List.replicate (3 - (lg_sl ([.ref (b + 0), .int (iI mt), .int (iI tk)])).length) Slot.unset).toArray = ls at hl ⊢
  have hl : lv_has ls 3 [(0, .ref (b + 0)), (1, .int (iI mt)), (2, .int (iI tk))] := hl
  refine lv_aload_n hx hb dX12_way_0 rfl (lv_at hl 0 rfl) ?_
  refine z_iconst hx hb dX12_way_1 ?_
  refine z_puti hx hb hts (z_memU u12) tyX12 tyX12_ok nmX12 hown hK.1 hS hS0 f12_35 (by decide) (zkd_of (rfl : zcd wR 0 = 50) rfl) (Or.inl (hts _ (z_mem k979))) rfl (z := 0) (by decide +kernel) (zbd_in (rfl : zcd wR 0 = 50) rfl (by decide)) (zms_of (rfl : zcd wR 0 = 50) rfl) dX12_way_2 (fun H locs hS hS0 => ?_)
  obtain ⟨M1, e2⟩ : ∃ M1 : zM, M1 = zup M 0 35 0 := ⟨_, rfl⟩
  rw [← e2] at hS
  have J3 := hS.2.1
  refine lv_iload_n hx hb dX12_way_5 rfl (lv_at hl 1 rfl) ?_
  refine z_calli (va_runS (As := [.int (iI mt)]) (rest := []) ⟨hx, hb, hml, hown, hts⟩ (m_isMotor l D dA b M1 mt r_mt) (va_cwS 1 hts (z_gS k1094 k1095 k14 k1096) rfl rfl rfl dm_X12_isMotor.2 ⟨Nat.le_of_ble_eq_true rfl, Nat.le_of_ble_eq_true rfl⟩) ⟨zP_blind, z_pre hS hK⟩ rfl rfl hl.1 rfl (lv_room (Nat.le_of_ble_eq_true rfl)) dX12_way_6 ⟨Nat.le_refl _, Nat.le_refl _⟩) hS hS0 (zms_sub rfl) (fun z8 M4 H locs r9 h5 F6 hS hS0 => ?_)
  obtain ⟨h10, h5⟩ := h5
  rw [h10] at hS
  rcases h5 with h11 | h12
  · skip
    obtain ⟨z8e, h11⟩ := h11
    subst z8e
    refine z_if_eq (tgt := 22) hx hb (by decide) dX12_way_9 (by decide) (fun c13 => absurd c13 (by decide)) (fun c13 => ?_)
    refine lv_iload_n hx hb dX12_way_12 rfl (lv_at hl 2 rfl) ?_
    refine z_iconst hx hb dX12_way_13 ?_
    refine z_ldc (n := 1000000000) hx hb hown (hts _ (z_mem k1147)) (by decide) dX12_way_14 ?_
    refine z_calli (va_runS (As := [.int (iI tk), .int (iI 0), .int (iI 1000000000)]) (rest := []) ⟨hx, hb, hml, hown, hts⟩ (m_in l D dA b M1 tk 0 1000000000 r_tk (by decide) (by decide)) (va_cwS 3 hts (z_gS k1087 k1088 k14 k1089) rfl rfl rfl dm_X12_in.2 ⟨Nat.le_of_ble_eq_true rfl, Nat.le_of_ble_eq_true rfl⟩) ⟨zP_blind, z_pre hS hK⟩ rfl rfl hl.1 rfl (lv_room (Nat.le_of_ble_eq_true rfl)) dX12_way_16 ⟨Nat.le_refl _, Nat.le_refl _⟩) hS hS0 (zms_sub rfl) (fun z18 M14 H locs r19 h15 F16 hS hS0 => ?_)
    obtain ⟨h20, h15⟩ := h15
    rw [h20] at hS
    rcases h15 with h21 | h22
    · skip
      obtain ⟨z18e, h21⟩ := h21
      subst z18e
      refine z_if_ne (tgt := 29) hx hb (by decide) dX12_way_19 (by decide) (fun c23 => ?_) (fun c23 => absurd c23 (by decide))
      refine lv_aload_n hx hb dX12_way_29 rfl (lv_at hl 0 rfl) ?_
      refine lv_iload_n hx hb dX12_way_30 rfl (lv_at hl 1 rfl) ?_
      refine lv_iload_n hx hb dX12_way_31 rfl (lv_at hl 2 rfl) ?_
      refine z_i2l hx hb r_tk dX12_way_32 ?_
      refine z_calll (va_runV (As := [.int (iI mt), .long (iL tk)]) (rest := []) ⟨hx, hb, hml, hown, hts⟩ (m_wayEarly l D dA b M1 mt tk r_mt (r64of r_tk) (fun k hk => by rw [e2, zup_n _ _ (by omega), a0 k hk]) (by omega)) (cwV 2 hts (z_gV k1148 k1149 k1404 k14 k1150) rfl rfl rfl dm_X12_wayEarly ⟨Nat.le_of_ble_eq_true rfl, Nat.le_of_ble_eq_true rfl⟩) ⟨zP_blind, (z_recv hS hK.1 (by decide) (zkd_of (rfl : zcd wR 0 = 50) rfl) (by decide) (rfl : vwCl[12]? = some (RX12, TX12, 50))), z_pre hS hK⟩ rfl rfl hl.1 rfl (lv_room (Nat.le_of_ble_eq_true rfl)) dX12_way_33 ⟨Nat.le_refl _, Nat.le_refl _⟩) hS hS0 (zms_sub rfl) (fun z28 M24 H locs r29 h25 F26 hS hS0 => ?_)
      obtain ⟨h30, h25⟩ := h25
      rw [h30] at hS
      have h31 := h25
      obtain ⟨z28e, h31⟩ := h31
      subst z28e
      exact z_lret hx hb hr hlocks hS hS0 (r64of r_tk) (by first | exact Or.inl ⟨by omega, by omega, (by rw [e2, zup_s])⟩ | exact Or.inr ⟨by omega, by omega, (by rw [e2, zup_s])⟩) dX12_way_36
    · skip
      obtain ⟨z18e, h22⟩ := h22
      subst z18e
      refine z_if_ne (tgt := 29) hx hb (by decide) dX12_way_19 (by decide) (fun c32 => absurd c32 (by decide)) (fun c32 => ?_)
      refine lv_aload_n hx hb dX12_way_22 rfl (lv_at hl 0 rfl) ?_
      refine z_iconst hx hb dX12_way_23 ?_
      refine z_puti hx hb hts (z_memU u12) tyX12 tyX12_ok nmX12 hown hK.1 hS hS0 f12_35 (by decide) (zkd_of (rfl : zcd wR 0 = 50) rfl) (Or.inl (hts _ (z_mem k979))) rfl (z := 1) (by decide +kernel) (zbd_in (rfl : zcd wR 0 = 50) rfl (by decide)) (zms_of (rfl : zcd wR 0 = 50) rfl) dX12_way_24 (fun H locs hS hS0 => ?_)
      obtain ⟨M33, e34⟩ : ∃ M33 : zM, M33 = zup M1 0 35 1 := ⟨_, rfl⟩
      rw [← e34] at hS
      have J35 := hS.2.1
      refine z_lconst0 hx hb dX12_way_27 ?_
      exact z_lret hx hb hr hlocks hS hS0 (by decide) (by first | exact Or.inl ⟨by omega, by omega, (by rw [e34, zup_s])⟩ | exact Or.inr ⟨by omega, by omega, (by rw [e34, zup_s])⟩) dX12_way_28
  · skip
    obtain ⟨z8e, h12⟩ := h12
    subst z8e
    refine z_if_eq (tgt := 22) hx hb (by decide) dX12_way_9 (by decide) (fun c36 => ?_) (fun c36 => absurd c36 (by decide))
    refine lv_aload_n hx hb dX12_way_22 rfl (lv_at hl 0 rfl) ?_
    refine z_iconst hx hb dX12_way_23 ?_
    refine z_puti hx hb hts (z_memU u12) tyX12 tyX12_ok nmX12 hown hK.1 hS hS0 f12_35 (by decide) (zkd_of (rfl : zcd wR 0 = 50) rfl) (Or.inl (hts _ (z_mem k979))) rfl (z := 1) (by decide +kernel) (zbd_in (rfl : zcd wR 0 = 50) rfl (by decide)) (zms_of (rfl : zcd wR 0 = 50) rfl) dX12_way_24 (fun H locs hS hS0 => ?_)
    obtain ⟨M37, e38⟩ : ∃ M37 : zM, M37 = zup M1 0 35 1 := ⟨_, rfl⟩
    rw [← e38] at hS
    have J39 := hS.2.1
    refine z_lconst0 hx hb dX12_way_27 ?_
    exact z_lret hx hb hr hlocks hS hS0 (by decide) (by first | exact Or.inl ⟨by omega, by omega, (by rw [e38, zup_s])⟩ | exact Or.inr ⟨by omega, by omega, (by rw [e38, zup_s])⟩) dX12_way_28

set_option maxHeartbeats 4000000 in
set_option maxRecDepth 100000 in
theorem m_heardInAll (l : Launch) (D : va_G) (dA : Nat → ClassId) (b : Nat) (M : zM) (t : Int) (r_t : R64 t) (g0 : M 0 10 = 0) : Met l yX12_heardInAll (.code yX12_heardInAll cX12_heardInAll 5 (some .int) :: zt) (z_rm 0) (va_Pc [.ref (b + 0), .long (iL t)] (zP D dA vwCl (z_tys dA) wR nR b M)) (va_Qi (zQi wR (zms wR []) M (fun z M1 => M1 = M ∧ (z = 0 ∧ True))) (zB D dA vwCl wR nR b) (zA nR b)) 0 0 (zA nR b) := by
  refine Met.ofW (cc := cX12_heardInAll) (maxL := 5) (ret := (some .int)) (by decide) rfl ?_
  intro p e s m args below meth c s₁ B hml hv
  obtain ⟨hargs, hR0, hJ, hK⟩ := hv
  have hx := B.exec
  have hb := B.bytes
  have hr := B.returns
  have hts := atoms_spec (ws := .code yX12_heardInAll cX12_heardInAll 5 (some .int) :: zt) B.pre
  have hown : s.vm.findClass RX12 = some m.cls := findClass_of_methodNamed B.named
  have hlocks := B.notSynchronized
  have hS : zS D dA vwCl wR nR b (zms wR []) M M s.heap := ⟨hR0, hJ, zF_rf _ _⟩
  have hS0 : va_S (zA nR b) s.heap s.heap [] := va_S.rf
  have hl := lv_entry ([.ref (b + 0), .long (iL t)]) (n := 5) (Nat.le_of_ble_eq_true rfl)
  have hent : entryFrame m args 5 = F0 m 0 ((lg_sl ([.ref (b + 0), .long (iL t)]) ++ List.replicate (5 - (lg_sl ([.ref (b + 0), .long (iL t)])).length) Slot.unset).toArray) [] := by rw [hargs]; exact lg_entry_eq m ([.ref (b + 0), .long (iL t)]) 5
  rw [hent]
  generalize (lg_sl ([.ref (b + 0), .long (iL t)]) ++ List.replicate (5 - (lg_sl ([.ref (b + 0), .long (iL t)])).length) Slot.unset).toArray = ls at hl ⊢
  have hl : lv_has ls 5 [(0, .ref (b + 0)), (1, .long (iL t))] := hl
  refine z_iconst hx hb dX12_heardInAll_0 ?_
  refine lv_istore_n (lv' := [(3, .int (iI 0)), (0, .ref (b + 0)), (1, .long (iL t))]) hx hb dX12_heardInAll_1 rfl hl (by decide) rfl (fun ls hl => ?_)
  refine z_iconst hx hb dX12_heardInAll_2 ?_
  refine lv_istore (lv' := [(4, .int (iI 0)), (3, .int (iI 0)), (0, .ref (b + 0)), (1, .long (iL t))]) hx hb dX12_heardInAll_3 hl (by decide) rfl (fun ls hl => ?_)
  refine lv_iload hx hb dX12_heardInAll_5 (lv_at hl 0 rfl) ?_
  refine lv_aload_n hx hb dX12_heardInAll_7 rfl (lv_at hl 2 rfl) ?_
  refine z_geti hx hb hts (z_memU u12) hown hK.1 hS f12_10 (by decide) (zkd_of (rfl : zcd wR 0 = 50) rfl) (Or.inl (hts _ (z_mem k954))) dX12_heardInAll_8 ?_
  refine z_top (show M 0 10 = 0 from by rw [g0]) ?_
  refine z_icmp_ge (tgt := 30) hx hb (by decide) (by decide) dX12_heardInAll_11 (by decide) (fun c1 => ?_) (fun c1 => absurd c1 (by decide))
  refine lv_iload_n hx hb dX12_heardInAll_30 rfl (lv_at hl 1 rfl) ?_
  exact z_iret hx hb hr hlocks hS hS0 (by decide) (⟨rfl, by first | exact trivial | exact ⟨rfl, trivial⟩ | omega | (refine ⟨by omega, trivial⟩)⟩) dX12_heardInAll_31

set_option maxHeartbeats 4000000 in
set_option maxRecDepth 100000 in
theorem m_heard (l : Launch) (D : va_G) (dA : Nat → ClassId) (b : Nat) (M : zM) (rg : Int) (t : Int) (r_rg : R32 rg) (r_t : R64 t) (g0 : M 0 10 = 0) : Met l yX12_heard (.code yX12_heard cX12_heard 4 (some .int) :: zt) (z_rm 2) (va_Pc [.ref (b + 0), .int (iI rg), .long (iL t)] (zP D dA vwCl (z_tys dA) wR nR b M)) (va_Qi (zQi wR (zms wR [3235]) M (fun z M1 => (0 ≤ t ∧ rg = -1 ∧ z = 0) ∨ ((t < 0 ∨ rg ≠ -1) ∧ z = -1))) (zB D dA vwCl wR nR b) (zA nR b)) 0 0 (zA nR b) := by
  refine Met.ofW (cc := cX12_heard) (maxL := 4) (ret := (some .int)) (by decide) rfl ?_
  intro p e s m args below meth c s₁ B hml hv
  obtain ⟨hargs, hR0, hJ, hK⟩ := hv
  have hx := B.exec
  have hb := B.bytes
  have hr := B.returns
  have hts := atoms_spec (ws := .code yX12_heard cX12_heard 4 (some .int) :: zt) B.pre
  have hown : s.vm.findClass RX12 = some m.cls := findClass_of_methodNamed B.named
  have hlocks := B.notSynchronized
  have hS : zS D dA vwCl wR nR b (zms wR [3235]) M M s.heap := ⟨hR0, hJ, zF_rf _ _⟩
  have hS0 : va_S (zA nR b) s.heap s.heap [] := va_S.rf
  have hl := lv_entry ([.ref (b + 0), .int (iI rg), .long (iL t)]) (n := 4) (Nat.le_of_ble_eq_true rfl)
  have hent : entryFrame m args 4 = F0 m 0 ((lg_sl ([.ref (b + 0), .int (iI rg), .long (iL t)]) ++ List.replicate (4 - (lg_sl ([.ref (b + 0), .int (iI rg), .long (iL t)])).length) Slot.unset).toArray) [] := by rw [hargs]; exact lg_entry_eq m ([.ref (b + 0), .int (iI rg), .long (iL t)]) 4
  rw [hent]
  generalize (lg_sl ([.ref (b + 0), .int (iI rg), .long (iL t)]) ++ List.replicate (4 - (lg_sl ([.ref (b + 0), .int (iI rg), .long (iL t)])).length) Slot.unset).toArray = ls at hl ⊢
  have hl : lv_has ls 4 [(0, .ref (b + 0)), (1, .int (iI rg)), (2, .long (iL t))] := hl
  refine lv_aload_n hx hb dX12_heard_0 rfl (lv_at hl 0 rfl) ?_
  refine z_iconst hx hb dX12_heard_1 ?_
  refine z_puti hx hb hts (z_memU u12) tyX12 tyX12_ok nmX12 hown hK.1 hS hS0 f12_35 (by decide) (zkd_of (rfl : zcd wR 0 = 50) rfl) (Or.inl (hts _ (z_mem k979))) rfl (z := 0) (by decide +kernel) (zbd_in (rfl : zcd wR 0 = 50) rfl (by decide)) (zms_of (rfl : zcd wR 0 = 50) rfl) dX12_heard_2 (fun H locs hS hS0 => ?_)
  obtain ⟨M1, e2⟩ : ∃ M1 : zM, M1 = zup M 0 35 0 := ⟨_, rfl⟩
  rw [← e2] at hS
  have J3 := hS.2.1
  refine lv_iload_n hx hb dX12_heard_5 rfl (lv_at hl 1 rfl) ?_
  refine z_iconst hx hb dX12_heard_6 ?_
  refine z_icmp_eq (tgt := 18) hx hb r_rg (by decide) dX12_heard_7 (by decide) (fun c4 => ?_) (fun c4 => ?_)
  · skip
    refine lv_lload_n hx hb dX12_heard_18 rfl (lv_at hl 2 rfl) ?_
    refine z_lconst0 hx hb dX12_heard_19 ?_
    refine z_lcmp_ge hx hb r_t (by decide) dX12_heard_20 dX12_heard_21 (tgt := 26) (by decide) (fun c5 => ?_) (fun c5 => ?_)
    · skip
      refine lv_iload_n hx hb dX12_heard_26 rfl (lv_at hl 1 rfl) ?_
      refine z_iconst hx hb dX12_heard_27 ?_
      refine z_icmp_ne (tgt := 39) hx hb r_rg (by decide) dX12_heard_28 (by decide) (fun c6 => absurd c6 (by omega)) (fun c6 => ?_)
      refine lv_aload_n hx hb dX12_heard_31 rfl (lv_at hl 0 rfl) ?_
      refine lv_lload_n hx hb dX12_heard_32 rfl (lv_at hl 2 rfl) ?_
      refine z_calli (va_runV (As := [.long (iL t)]) (rest := []) ⟨hx, hb, hml, hown, hts⟩ (m_heardInAll l D dA b M1 t r_t (by rw [e2, zup_n _ _ (by omega), g0])) (cwV 1 hts (z_gV k1155 k1156 k1405 k14 k1157) rfl rfl rfl dm_X12_heardInAll ⟨Nat.le_of_ble_eq_true rfl, Nat.le_of_ble_eq_true rfl⟩) ⟨zP_blind, (z_recv hS hK.1 (by decide) (zkd_of (rfl : zcd wR 0 = 50) rfl) (by decide) (rfl : vwCl[12]? = some (RX12, TX12, 50))), z_pre hS hK⟩ rfl rfl hl.1 rfl (lv_room (Nat.le_of_ble_eq_true rfl)) dX12_heard_33 ⟨Nat.le_refl _, Nat.le_refl _⟩) hS hS0 (zms_sub rfl) (fun z11 M7 H locs r12 h8 F9 hS hS0 => ?_)
      obtain ⟨h13, h8⟩ := h8
      rw [h13] at hS
      have h14 := h8
      obtain ⟨z11e, h14⟩ := h14
      subst z11e
      refine lv_goto (tgt := 45) hx hb dX12_heard_36 (by decide) ?_
      exact z_iret hx hb hr hlocks hS hS0 (by decide) (by first | exact trivial | exact ⟨rfl, trivial⟩ | omega | (refine ⟨by omega, trivial⟩)) dX12_heard_45
    · skip
      refine z_iconst hx hb dX12_heard_24 ?_
      exact z_iret hx hb hr hlocks hS hS0 (by decide) (by first | exact trivial | exact ⟨rfl, trivial⟩ | omega | (refine ⟨by omega, trivial⟩)) dX12_heard_25
  · skip
    refine lv_aload_n hx hb dX12_heard_10 rfl (lv_at hl 0 rfl) ?_
    refine lv_iload_n hx hb dX12_heard_11 rfl (lv_at hl 1 rfl) ?_
    refine z_calli (va_runV (As := [.int (iI rg)]) (rest := []) ⟨hx, hb, hml, hown, hts⟩ (m_isRing l D dA b M1 rg r_rg (by rw [e2, zup_n _ _ (by omega), g0])) (cwV 1 hts (z_gV k1101 k1102 k1401 k14 k1103) rfl rfl rfl dm_X12_isRing ⟨Nat.le_of_ble_eq_true rfl, Nat.le_of_ble_eq_true rfl⟩) ⟨zP_blind, (z_recv hS hK.1 (by decide) (zkd_of (rfl : zcd wR 0 = 50) rfl) (by decide) (rfl : vwCl[12]? = some (RX12, TX12, 50))), z_pre hS hK⟩ rfl rfl hl.1 rfl (lv_room (Nat.le_of_ble_eq_true rfl)) dX12_heard_12 ⟨Nat.le_refl _, Nat.le_refl _⟩) hS hS0 (zms_sub rfl) (fun z19 M15 H locs r20 h16 F17 hS hS0 => ?_)
    obtain ⟨h21, h16⟩ := h16
    rw [h21] at hS
    have h22 := h16
    obtain ⟨z19e, h22⟩ := h22
    subst z19e
    refine z_if_eq (tgt := 24) hx hb (by decide) dX12_heard_15 (by decide) (fun c23 => ?_) (fun c23 => absurd c23 (by decide))
    refine z_iconst hx hb dX12_heard_24 ?_
    exact z_iret hx hb hr hlocks hS hS0 (by decide) (by first | exact trivial | exact ⟨rfl, trivial⟩ | omega | (refine ⟨by omega, trivial⟩)) dX12_heard_25

set_option maxHeartbeats 4000000 in
set_option maxRecDepth 100000 in
theorem m_allRounds (l : Launch) (D : va_G) (dA : Nat → ClassId) (b : Nat) (M : zM) (g0 : M 0 10 = 0) : Met l yX12_allRounds (.code yX12_allRounds cX12_allRounds 5 (some .long) :: zt) (z_rm 0) (va_Pc [.ref (b + 0)] (zP D dA vwCl (z_tys dA) wR nR b M)) (va_Ql (zQl wR (zms wR []) M (fun z M1 => M1 = M ∧ (z = 1 ∧ True))) (zB D dA vwCl wR nR b) (zA nR b)) 0 0 (zA nR b) := by
  refine Met.ofW (cc := cX12_allRounds) (maxL := 5) (ret := (some .long)) (by decide) rfl ?_
  intro p e s m args below meth c s₁ B hml hv
  obtain ⟨hargs, hR0, hJ, hK⟩ := hv
  have hx := B.exec
  have hb := B.bytes
  have hr := B.returns
  have hts := atoms_spec (ws := .code yX12_allRounds cX12_allRounds 5 (some .long) :: zt) B.pre
  have hown : s.vm.findClass RX12 = some m.cls := findClass_of_methodNamed B.named
  have hlocks := B.notSynchronized
  have hS : zS D dA vwCl wR nR b (zms wR []) M M s.heap := ⟨hR0, hJ, zF_rf _ _⟩
  have hS0 : va_S (zA nR b) s.heap s.heap [] := va_S.rf
  have hl := lv_entry ([.ref (b + 0)]) (n := 5) (Nat.le_of_ble_eq_true rfl)
  have hent : entryFrame m args 5 = F0 m 0 ((lg_sl ([.ref (b + 0)]) ++ List.replicate (5 - (lg_sl ([.ref (b + 0)])).length) Slot.unset).toArray) [] := by rw [hargs]; exact lg_entry_eq m ([.ref (b + 0)]) 5
  rw [hent]
  generalize (lg_sl ([.ref (b + 0)]) ++ List.replicate (5 - (lg_sl ([.ref (b + 0)])).length) Slot.unset).toArray = ls at hl ⊢
  have hl : lv_has ls 5 [(0, .ref (b + 0))] := hl
  refine z_lconst1 hx hb dX12_allRounds_0 ?_
  refine lv_lstore_n (lv' := [(1, .long (iL 1)), (0, .ref (b + 0))]) hx hb dX12_allRounds_1 rfl hl (by decide) rfl (fun ls hl => ?_)
  refine z_iconst hx hb dX12_allRounds_2 ?_
  refine lv_istore_n (lv' := [(3, .int (iI 0)), (1, .long (iL 1)), (0, .ref (b + 0))]) hx hb dX12_allRounds_3 rfl hl (by decide) rfl (fun ls hl => ?_)
  refine lv_iload_n hx hb dX12_allRounds_4 rfl (lv_at hl 0 rfl) ?_
  refine lv_aload_n hx hb dX12_allRounds_5 rfl (lv_at hl 2 rfl) ?_
  refine z_geti hx hb hts (z_memU u12) hown hK.1 hS f12_10 (by decide) (zkd_of (rfl : zcd wR 0 = 50) rfl) (Or.inl (hts _ (z_mem k954))) dX12_allRounds_6 ?_
  refine z_top (show M 0 10 = 0 from by rw [g0]) ?_
  refine z_icmp_ge (tgt := 44) hx hb (by decide) (by decide) dX12_allRounds_9 (by decide) (fun c1 => ?_) (fun c1 => absurd c1 (by decide))
  refine lv_lload_n hx hb dX12_allRounds_44 rfl (lv_at hl 1 rfl) ?_
  exact z_lret hx hb hr hlocks hS hS0 (by decide) (⟨rfl, by first | exact trivial | exact ⟨rfl, trivial⟩ | omega | (refine ⟨by omega, trivial⟩)⟩) dX12_allRounds_45

set_option maxHeartbeats 4000000 in
set_option maxRecDepth 100000 in
theorem m_all (l : Launch) (D : va_G) (dA : Nat → ClassId) (b : Nat) (M : zM) (g0 : M 0 10 = 0) : Met l yX12_all (.code yX12_all cX12_all 1 (some .long) :: zt) (z_rm 1) (va_Pc [.ref (b + 0)] (zP D dA vwCl (z_tys dA) wR nR b M)) (va_Ql (zQl wR (zms wR [3235]) M (fun z M1 => z = 1 ∧ True)) (zB D dA vwCl wR nR b) (zA nR b)) 0 0 (zA nR b) := by
  refine Met.ofW (cc := cX12_all) (maxL := 1) (ret := (some .long)) (by decide) rfl ?_
  intro p e s m args below meth c s₁ B hml hv
  obtain ⟨hargs, hR0, hJ, hK⟩ := hv
  have hx := B.exec
  have hb := B.bytes
  have hr := B.returns
  have hts := atoms_spec (ws := .code yX12_all cX12_all 1 (some .long) :: zt) B.pre
  have hown : s.vm.findClass RX12 = some m.cls := findClass_of_methodNamed B.named
  have hlocks := B.notSynchronized
  have hS : zS D dA vwCl wR nR b (zms wR [3235]) M M s.heap := ⟨hR0, hJ, zF_rf _ _⟩
  have hS0 : va_S (zA nR b) s.heap s.heap [] := va_S.rf
  have hl := lv_entry ([.ref (b + 0)]) (n := 1) (Nat.le_of_ble_eq_true rfl)
  have hent : entryFrame m args 1 = F0 m 0 ((lg_sl ([.ref (b + 0)]) ++ List.replicate (1 - (lg_sl ([.ref (b + 0)])).length) Slot.unset).toArray) [] := by rw [hargs]; exact lg_entry_eq m ([.ref (b + 0)]) 1
  rw [hent]
  generalize (lg_sl ([.ref (b + 0)]) ++ List.replicate (1 - (lg_sl ([.ref (b + 0)])).length) Slot.unset).toArray = ls at hl ⊢
  have hl : lv_has ls 1 [(0, .ref (b + 0))] := hl
  refine lv_aload_n hx hb dX12_all_0 rfl (lv_at hl 0 rfl) ?_
  refine z_iconst hx hb dX12_all_1 ?_
  refine z_puti hx hb hts (z_memU u12) tyX12 tyX12_ok nmX12 hown hK.1 hS hS0 f12_35 (by decide) (zkd_of (rfl : zcd wR 0 = 50) rfl) (Or.inl (hts _ (z_mem k979))) rfl (z := 0) (by decide +kernel) (zbd_in (rfl : zcd wR 0 = 50) rfl (by decide)) (zms_of (rfl : zcd wR 0 = 50) rfl) dX12_all_2 (fun H locs hS hS0 => ?_)
  obtain ⟨M1, e2⟩ : ∃ M1 : zM, M1 = zup M 0 35 0 := ⟨_, rfl⟩
  rw [← e2] at hS
  have J3 := hS.2.1
  refine lv_aload_n hx hb dX12_all_5 rfl (lv_at hl 0 rfl) ?_
  refine z_calll (va_runV (As := []) (rest := []) ⟨hx, hb, hml, hown, hts⟩ (m_allRounds l D dA b M1 (by rw [e2, zup_n _ _ (by omega), g0])) (cwV 0 hts (z_gV k1177 k1178 k1410 k14 k1179) rfl rfl rfl dm_X12_allRounds ⟨Nat.le_of_ble_eq_true rfl, Nat.le_of_ble_eq_true rfl⟩) ⟨zP_blind, (z_recv hS hK.1 (by decide) (zkd_of (rfl : zcd wR 0 = 50) rfl) (by decide) (rfl : vwCl[12]? = some (RX12, TX12, 50))), z_pre hS hK⟩ rfl rfl hl.1 rfl (lv_room (Nat.le_of_ble_eq_true rfl)) dX12_all_6 ⟨Nat.le_refl _, Nat.le_refl _⟩) hS hS0 (zms_sub rfl) (fun z8 M4 H locs r9 h5 F6 hS hS0 => ?_)
  obtain ⟨h10, h5⟩ := h5
  rw [h10] at hS
  have h11 := h5
  obtain ⟨z8e, h11⟩ := h11
  subst z8e
  exact z_lret hx hb hr hlocks hS hS0 (by decide) (by first | exact trivial | exact ⟨rfl, trivial⟩ | omega | (refine ⟨by omega, trivial⟩)) dX12_all_9

set_option maxHeartbeats 4000000 in
set_option maxRecDepth 100000 in
theorem m_wish (l : Launch) (D : va_G) (dA : Nat → ClassId) (b : Nat) (M : zM) (rg : Int) (v : Int) (r_rg : R32 rg) (r_v : R32 v) (g0 : M 0 10 = 0) : Met l yX12_wish (.code yX12_wish cX12_wish 3 (some .boolean) :: zt) (z_rm 2) (va_Pc [.ref (b + 0), .int (iI rg), .int (iI v)] (zP D dA vwCl (z_tys dA) wR nR b M)) (va_Qi (zQi wR (zms wR [3235]) M (fun z M1 => z = 0 ∧ True)) (zB D dA vwCl wR nR b) (zA nR b)) 0 0 (zA nR b) := by
  refine Met.ofW (cc := cX12_wish) (maxL := 3) (ret := (some .boolean)) (by decide) rfl ?_
  intro p e s m args below meth c s₁ B hml hv
  obtain ⟨hargs, hR0, hJ, hK⟩ := hv
  have hx := B.exec
  have hb := B.bytes
  have hr := B.returns
  have hts := atoms_spec (ws := .code yX12_wish cX12_wish 3 (some .boolean) :: zt) B.pre
  have hown : s.vm.findClass RX12 = some m.cls := findClass_of_methodNamed B.named
  have hlocks := B.notSynchronized
  have hS : zS D dA vwCl wR nR b (zms wR [3235]) M M s.heap := ⟨hR0, hJ, zF_rf _ _⟩
  have hS0 : va_S (zA nR b) s.heap s.heap [] := va_S.rf
  have hl := lv_entry ([.ref (b + 0), .int (iI rg), .int (iI v)]) (n := 3) (Nat.le_of_ble_eq_true rfl)
  have hent : entryFrame m args 3 = F0 m 0 ((lg_sl ([.ref (b + 0), .int (iI rg), .int (iI v)]) ++ List.replicate (3 - (lg_sl ([.ref (b + 0), .int (iI rg), .int (iI v)])).length) Slot.unset).toArray) [] := by rw [hargs]; exact lg_entry_eq m ([.ref (b + 0), .int (iI rg), .int (iI v)]) 3
  rw [hent]
  generalize (lg_sl ([.ref (b + 0), .int (iI rg), .int (iI v)]) ++ List.replicate (3 - (lg_sl ([.ref (b + 0), .int (iI rg), .int (iI v)])).length) Slot.unset).toArray = ls at hl ⊢
  have hl : lv_has ls 3 [(0, .ref (b + 0)), (1, .int (iI rg)), (2, .int (iI v))] := hl
  refine lv_aload_n hx hb dX12_wish_0 rfl (lv_at hl 0 rfl) ?_
  refine z_iconst hx hb dX12_wish_1 ?_
  refine z_puti hx hb hts (z_memU u12) tyX12 tyX12_ok nmX12 hown hK.1 hS hS0 f12_35 (by decide) (zkd_of (rfl : zcd wR 0 = 50) rfl) (Or.inl (hts _ (z_mem k979))) rfl (z := 0) (by decide +kernel) (zbd_in (rfl : zcd wR 0 = 50) rfl (by decide)) (zms_of (rfl : zcd wR 0 = 50) rfl) dX12_wish_2 (fun H locs hS hS0 => ?_)
  obtain ⟨M1, e2⟩ : ∃ M1 : zM, M1 = zup M 0 35 0 := ⟨_, rfl⟩
  rw [← e2] at hS
  have J3 := hS.2.1
  refine lv_aload_n hx hb dX12_wish_5 rfl (lv_at hl 0 rfl) ?_
  refine lv_iload_n hx hb dX12_wish_6 rfl (lv_at hl 1 rfl) ?_
  refine z_calli (va_runV (As := [.int (iI rg)]) (rest := []) ⟨hx, hb, hml, hown, hts⟩ (m_isRing l D dA b M1 rg r_rg (by rw [e2, zup_n _ _ (by omega), g0])) (cwV 1 hts (z_gV k1101 k1102 k1401 k14 k1103) rfl rfl rfl dm_X12_isRing ⟨Nat.le_of_ble_eq_true rfl, Nat.le_of_ble_eq_true rfl⟩) ⟨zP_blind, (z_recv hS hK.1 (by decide) (zkd_of (rfl : zcd wR 0 = 50) rfl) (by decide) (rfl : vwCl[12]? = some (RX12, TX12, 50))), z_pre hS hK⟩ rfl rfl hl.1 rfl (lv_room (Nat.le_of_ble_eq_true rfl)) dX12_wish_7 ⟨Nat.le_refl _, Nat.le_refl _⟩) hS hS0 (zms_sub rfl) (fun z8 M4 H locs r9 h5 F6 hS hS0 => ?_)
  obtain ⟨h10, h5⟩ := h5
  rw [h10] at hS
  have h11 := h5
  obtain ⟨z8e, h11⟩ := h11
  subst z8e
  refine z_if_eq (tgt := 20) hx hb (by decide) dX12_wish_10 (by decide) (fun c12 => ?_) (fun c12 => absurd c12 (by decide))
  refine z_iconst hx hb dX12_wish_20 ?_
  exact z_zret hx hb hr hlocks hS hS0 (by first | decide | omega) (by first | exact trivial | exact ⟨rfl, trivial⟩ | omega | (refine ⟨by omega, trivial⟩)) dX12_wish_21

set_option maxHeartbeats 4000000 in
set_option maxRecDepth 100000 in
theorem m_steadyAll (l : Launch) (D : va_G) (dA : Nat → ClassId) (b : Nat) (M : zM) (a0 : ∀ k : Nat, k < 2 → M 11 k = 0) : Met l yX12_steadyAll (.code yX12_steadyAll cX12_steadyAll 1 (some .int) :: zt) (z_rm 1) (va_Pc [.ref (b + 0)] (zP D dA vwCl (z_tys dA) wR nR b M)) (va_Qi (zQi wR (zms wR []) M (fun z M1 => M1 = M ∧ (z = 0 ∧ True))) (zB D dA vwCl wR nR b) (zA nR b)) 0 0 (zA nR b) := by
  refine Met.ofW (cc := cX12_steadyAll) (maxL := 1) (ret := (some .int)) (by decide) rfl ?_
  intro p e s m args below meth c s₁ B hml hv
  obtain ⟨hargs, hR0, hJ, hK⟩ := hv
  have hx := B.exec
  have hb := B.bytes
  have hr := B.returns
  have hts := atoms_spec (ws := .code yX12_steadyAll cX12_steadyAll 1 (some .int) :: zt) B.pre
  have hown : s.vm.findClass RX12 = some m.cls := findClass_of_methodNamed B.named
  have hlocks := B.notSynchronized
  have hS : zS D dA vwCl wR nR b (zms wR []) M M s.heap := ⟨hR0, hJ, zF_rf _ _⟩
  have hS0 : va_S (zA nR b) s.heap s.heap [] := va_S.rf
  have hl := lv_entry ([.ref (b + 0)]) (n := 1) (Nat.le_of_ble_eq_true rfl)
  have hent : entryFrame m args 1 = F0 m 0 ((lg_sl ([.ref (b + 0)]) ++ List.replicate (1 - (lg_sl ([.ref (b + 0)])).length) Slot.unset).toArray) [] := by rw [hargs]; exact lg_entry_eq m ([.ref (b + 0)]) 1
  rw [hent]
  generalize (lg_sl ([.ref (b + 0)]) ++ List.replicate (1 - (lg_sl ([.ref (b + 0)])).length) Slot.unset).toArray = ls at hl ⊢
  have hl : lv_has ls 1 [(0, .ref (b + 0))] := hl
  refine lv_aload_n hx hb dX12_steadyAll_0 rfl (lv_at hl 0 rfl) ?_
  refine z_iconst hx hb dX12_steadyAll_1 ?_
  refine z_calli (va_runV (As := [.int (iI 0)]) (rest := []) ⟨hx, hb, hml, hown, hts⟩ (m_steady l D dA b M 0 (by decide) a0 (by omega)) (cwV 1 hts (z_gV k1164 k1165 k1408 k14 k1166) rfl rfl rfl dm_X12_steady ⟨Nat.le_of_ble_eq_true rfl, Nat.le_of_ble_eq_true rfl⟩) ⟨zP_blind, (z_recv hS hK.1 (by decide) (zkd_of (rfl : zcd wR 0 = 50) rfl) (by decide) (rfl : vwCl[12]? = some (RX12, TX12, 50))), z_pre hS hK⟩ rfl rfl hl.1 rfl (lv_room (Nat.le_of_ble_eq_true rfl)) dX12_steadyAll_2 ⟨Nat.le_refl _, Nat.le_refl _⟩) hS hS0 (zms_sub rfl) (fun z5 M1 H locs r6 h2 F3 hS hS0 => ?_)
  obtain ⟨h7, h2⟩ := h2
  rw [h7] at hS
  have h8 := h2
  obtain ⟨z5e, h8⟩ := h8
  subst z5e
  refine lv_aload_n hx hb dX12_steadyAll_5 rfl (lv_at hl 0 rfl) ?_
  refine z_iconst hx hb dX12_steadyAll_6 ?_
  refine z_calli (va_runV (As := [.int (iI 1)]) (rest := [.int (iI 0)]) ⟨hx, hb, hml, hown, hts⟩ (m_steady l D dA b M 1 (by decide) a0 (by omega)) (cwV 1 hts (z_gV k1164 k1165 k1408 k14 k1166) rfl rfl rfl dm_X12_steady ⟨Nat.le_of_ble_eq_true rfl, Nat.le_of_ble_eq_true rfl⟩) ⟨zP_blind, (z_recv hS hK.1 (by decide) (zkd_of (rfl : zcd wR 0 = 50) rfl) (by decide) (rfl : vwCl[12]? = some (RX12, TX12, 50))), z_pre hS hK⟩ rfl rfl hl.1 rfl (lv_room (Nat.le_of_ble_eq_true rfl)) dX12_steadyAll_7 ⟨Nat.le_refl _, Nat.le_refl _⟩) hS hS0 (zms_sub rfl) (fun z13 M9 H locs r14 h10 F11 hS hS0 => ?_)
  obtain ⟨h15, h10⟩ := h10
  rw [h15] at hS
  have h16 := h10
  obtain ⟨z13e, h16⟩ := h16
  subst z13e
  refine z_mmax hx hb (hml.trans hl.1.symm) hown (hts _ (z_mem k1196)) (hts _ (z_mem k341)) (hts _ (z_mem k15)) (hts _ (z_mem k342)) (by exact Nat.le_of_ble_eq_true rfl) (by exact Nat.le_of_ble_eq_true rfl) (by exact Nat.le_refl _) (by exact Nat.le_refl _) (by decide) (by decide) dX12_steadyAll_10 ?_
  refine z_top (show ((max 0 0) : Int) = 0 from by decide) ?_
  exact z_iret hx hb hr hlocks hS hS0 (by decide) (⟨rfl, by first | exact trivial | exact ⟨rfl, trivial⟩ | omega | (refine ⟨by omega, trivial⟩)⟩) dX12_steadyAll_13

set_option maxHeartbeats 4000000 in
set_option maxRecDepth 100000 in
theorem m_findHeard (l : Launch) (D : va_G) (dA : Nat → ClassId) (b : Nat) (M : zM) (t : Int) (r_t : R64 t) (g0 : M 0 10 = 0) : Met l yX12_findHeard (.code yX12_findHeard cX12_findHeard 5 none :: zt) (z_rm 0) (va_Pc [.ref (b + 0), .long (iL t)] (zP D dA vwCl (z_tys dA) wR nR b M)) (va_Qv (zQv wR (zms wR []) M (fun M1 => M1 = M ∧ (True))) (zB D dA vwCl wR nR b) (zA nR b)) 0 0 (zA nR b) := by
  refine Met.ofW (cc := cX12_findHeard) (maxL := 5) (ret := none) (by decide) rfl ?_
  intro p e s m args below meth c s₁ B hml hv
  obtain ⟨hargs, hR0, hJ, hK⟩ := hv
  have hx := B.exec
  have hb := B.bytes
  have hr := B.returns
  have hts := atoms_spec (ws := .code yX12_findHeard cX12_findHeard 5 none :: zt) B.pre
  have hown : s.vm.findClass RX12 = some m.cls := findClass_of_methodNamed B.named
  have hlocks := B.notSynchronized
  have hS : zS D dA vwCl wR nR b (zms wR []) M M s.heap := ⟨hR0, hJ, zF_rf _ _⟩
  have hS0 : va_S (zA nR b) s.heap s.heap [] := va_S.rf
  have hl := lv_entry ([.ref (b + 0), .long (iL t)]) (n := 5) (Nat.le_of_ble_eq_true rfl)
  have hent : entryFrame m args 5 = F0 m 0 ((lg_sl ([.ref (b + 0), .long (iL t)]) ++ List.replicate (5 - (lg_sl ([.ref (b + 0), .long (iL t)])).length) Slot.unset).toArray) [] := by rw [hargs]; exact lg_entry_eq m ([.ref (b + 0), .long (iL t)]) 5
  rw [hent]
  generalize (lg_sl ([.ref (b + 0), .long (iL t)]) ++ List.replicate (5 - (lg_sl ([.ref (b + 0), .long (iL t)])).length) Slot.unset).toArray = ls at hl ⊢
  have hl : lv_has ls 5 [(0, .ref (b + 0)), (1, .long (iL t))] := hl
  refine z_iconst hx hb dX12_findHeard_0 ?_
  refine lv_istore_n (lv' := [(3, .int (iI 0)), (0, .ref (b + 0)), (1, .long (iL t))]) hx hb dX12_findHeard_1 rfl hl (by decide) rfl (fun ls hl => ?_)
  refine lv_iload_n hx hb dX12_findHeard_2 rfl (lv_at hl 0 rfl) ?_
  refine lv_aload_n hx hb dX12_findHeard_3 rfl (lv_at hl 1 rfl) ?_
  refine z_geti hx hb hts (z_memU u12) hown hK.1 hS f12_10 (by decide) (zkd_of (rfl : zcd wR 0 = 50) rfl) (Or.inl (hts _ (z_mem k954))) dX12_findHeard_4 ?_
  refine z_top (show M 0 10 = 0 from by rw [g0]) ?_
  refine z_icmp_ge (tgt := 78) hx hb (by decide) (by decide) dX12_findHeard_7 (by decide) (fun c1 => ?_) (fun c1 => absurd c1 (by decide))
  exact z_vret hx hb hr hlocks hS hS0 (⟨rfl, trivial⟩) dX12_findHeard_78

set_option maxHeartbeats 4000000 in
set_option maxRecDepth 100000 in
theorem m_meetsBehind (l : Launch) (D : va_G) (dA : Nat → ClassId) (b : Nat) (M : zM) (k : Int) (r_k : R32 k) (g0 : M 0 10 = 0) : Met l yX12_meetsBehind (.code yX12_meetsBehind cX12_meetsBehind 3 (some .boolean) :: zt) (z_rm 0) (va_Pc [.ref (b + 0), .int (iI k)] (zP D dA vwCl (z_tys dA) wR nR b M)) (va_Qi (zQi wR (zms wR []) M (fun z M1 => M1 = M ∧ (z = 1 ∧ True))) (zB D dA vwCl wR nR b) (zA nR b)) 0 0 (zA nR b) := by
  refine Met.ofW (cc := cX12_meetsBehind) (maxL := 3) (ret := (some .boolean)) (by decide) rfl ?_
  intro p e s m args below meth c s₁ B hml hv
  obtain ⟨hargs, hR0, hJ, hK⟩ := hv
  have hx := B.exec
  have hb := B.bytes
  have hr := B.returns
  have hts := atoms_spec (ws := .code yX12_meetsBehind cX12_meetsBehind 3 (some .boolean) :: zt) B.pre
  have hown : s.vm.findClass RX12 = some m.cls := findClass_of_methodNamed B.named
  have hlocks := B.notSynchronized
  have hS : zS D dA vwCl wR nR b (zms wR []) M M s.heap := ⟨hR0, hJ, zF_rf _ _⟩
  have hS0 : va_S (zA nR b) s.heap s.heap [] := va_S.rf
  have hl := lv_entry ([.ref (b + 0), .int (iI k)]) (n := 3) (Nat.le_of_ble_eq_true rfl)
  have hent : entryFrame m args 3 = F0 m 0 ((lg_sl ([.ref (b + 0), .int (iI k)]) ++ List.replicate (3 - (lg_sl ([.ref (b + 0), .int (iI k)])).length) Slot.unset).toArray) [] := by rw [hargs]; exact lg_entry_eq m ([.ref (b + 0), .int (iI k)]) 3
  rw [hent]
  generalize (lg_sl ([.ref (b + 0), .int (iI k)]) ++ List.replicate (3 - (lg_sl ([.ref (b + 0), .int (iI k)])).length) Slot.unset).toArray = ls at hl ⊢
  have hl : lv_has ls 3 [(0, .ref (b + 0)), (1, .int (iI k))] := hl
  refine z_iconst hx hb dX12_meetsBehind_0 ?_
  refine lv_istore_n (lv' := [(2, .int (iI 0)), (0, .ref (b + 0)), (1, .int (iI k))]) hx hb dX12_meetsBehind_1 rfl hl (by decide) rfl (fun ls hl => ?_)
  refine lv_iload_n hx hb dX12_meetsBehind_2 rfl (lv_at hl 0 rfl) ?_
  refine lv_aload_n hx hb dX12_meetsBehind_3 rfl (lv_at hl 1 rfl) ?_
  refine z_geti hx hb hts (z_memU u12) hown hK.1 hS f12_10 (by decide) (zkd_of (rfl : zcd wR 0 = 50) rfl) (Or.inl (hts _ (z_mem k954))) dX12_meetsBehind_4 ?_
  refine z_top (show M 0 10 = 0 from by rw [g0]) ?_
  refine z_icmp_ge (tgt := 38) hx hb (by decide) (by decide) dX12_meetsBehind_7 (by decide) (fun c1 => ?_) (fun c1 => absurd c1 (by decide))
  refine z_iconst hx hb dX12_meetsBehind_38 ?_
  exact z_zret hx hb hr hlocks hS hS0 (by first | decide | omega) (⟨rfl, by first | exact trivial | exact ⟨rfl, trivial⟩ | omega | (refine ⟨by omega, trivial⟩)⟩) dX12_meetsBehind_39

set_option maxHeartbeats 4000000 in
set_option maxRecDepth 100000 in
theorem m_meets (l : Launch) (D : va_G) (dA : Nat → ClassId) (b : Nat) (M : zM) (t : Int) (r_t : R64 t) (g0 : M 0 10 = 0) (a0 : ∀ k : Nat, k < 2 → M 11 k = 0) : Met l yX12_meets (.code yX12_meets cX12_meets 7 (some .long) :: zt) (z_rm 2) (va_Pc [.ref (b + 0), .long (iL t)] (zP D dA vwCl (z_tys dA) wR nR b M)) (va_Ql (zQl wR (zms wR [3235]) M (fun z M1 => (0 ≤ t ∧ t ≤ 1152921504606846976 ∧ z = t) ∨ ((t < 0 ∨ 1152921504606846976 < t) ∧ z = -1))) (zB D dA vwCl wR nR b) (zA nR b)) 0 0 (zA nR b) := by
  refine Met.ofW (cc := cX12_meets) (maxL := 7) (ret := (some .long)) (by decide) rfl ?_
  intro p e s m args below meth c s₁ B hml hv
  obtain ⟨hargs, hR0, hJ, hK⟩ := hv
  have hx := B.exec
  have hb := B.bytes
  have hr := B.returns
  have hts := atoms_spec (ws := .code yX12_meets cX12_meets 7 (some .long) :: zt) B.pre
  have hown : s.vm.findClass RX12 = some m.cls := findClass_of_methodNamed B.named
  have hlocks := B.notSynchronized
  have hS : zS D dA vwCl wR nR b (zms wR [3235]) M M s.heap := ⟨hR0, hJ, zF_rf _ _⟩
  have hS0 : va_S (zA nR b) s.heap s.heap [] := va_S.rf
  have hl := lv_entry ([.ref (b + 0), .long (iL t)]) (n := 7) (Nat.le_of_ble_eq_true rfl)
  have hent : entryFrame m args 7 = F0 m 0 ((lg_sl ([.ref (b + 0), .long (iL t)]) ++ List.replicate (7 - (lg_sl ([.ref (b + 0), .long (iL t)])).length) Slot.unset).toArray) [] := by rw [hargs]; exact lg_entry_eq m ([.ref (b + 0), .long (iL t)]) 7
  rw [hent]
  generalize (lg_sl ([.ref (b + 0), .long (iL t)]) ++ List.replicate (7 - (lg_sl ([.ref (b + 0), .long (iL t)])).length) Slot.unset).toArray = ls at hl ⊢
  have hl : lv_has ls 7 [(0, .ref (b + 0)), (1, .long (iL t))] := hl
  refine lv_aload_n hx hb dX12_meets_0 rfl (lv_at hl 0 rfl) ?_
  refine z_iconst hx hb dX12_meets_1 ?_
  refine z_puti hx hb hts (z_memU u12) tyX12 tyX12_ok nmX12 hown hK.1 hS hS0 f12_35 (by decide) (zkd_of (rfl : zcd wR 0 = 50) rfl) (Or.inl (hts _ (z_mem k979))) rfl (z := 0) (by decide +kernel) (zbd_in (rfl : zcd wR 0 = 50) rfl (by decide)) (zms_of (rfl : zcd wR 0 = 50) rfl) dX12_meets_2 (fun H locs hS hS0 => ?_)
  obtain ⟨M1, e2⟩ : ∃ M1 : zM, M1 = zup M 0 35 0 := ⟨_, rfl⟩
  rw [← e2] at hS
  have J3 := hS.2.1
  refine lv_lload_n hx hb dX12_meets_5 rfl (lv_at hl 1 rfl) ?_
  refine z_lconst0 hx hb dX12_meets_6 ?_
  refine z_lcmp_lt hx hb r_t (by decide) dX12_meets_7 dX12_meets_8 (tgt := 19) (by decide) (fun c4 => ?_) (fun c4 => ?_)
  · skip
    refine z_ldc2 (n := -1) hx hb hown (hts _ (z_mem k1192)) (by decide) dX12_meets_19 ?_
    exact z_lret hx hb hr hlocks hS hS0 (by decide) (by first | exact trivial | exact ⟨rfl, trivial⟩ | omega | (refine ⟨by omega, trivial⟩)) dX12_meets_22
  · skip
    refine lv_lload_n hx hb dX12_meets_11 rfl (lv_at hl 1 rfl) ?_
    refine z_ldc2 (n := 1152921504606846976) hx hb hown (hts _ (z_mem k1191)) (by decide) dX12_meets_12 ?_
    refine z_lcmp_le hx hb r_t (by decide) dX12_meets_15 dX12_meets_16 (tgt := 23) (by decide) (fun c5 => ?_) (fun c5 => ?_)
    · skip
      refine lv_lload_n hx hb dX12_meets_23 rfl (lv_at hl 1 rfl) ?_
      refine lv_lstore_n (lv' := [(3, .long (iL t)), (0, .ref (b + 0)), (1, .long (iL t))]) hx hb dX12_meets_24 rfl hl (by decide) rfl (fun ls hl => ?_)
      refine lv_lload_n hx hb dX12_meets_25 rfl (lv_at hl 0 rfl) ?_
      refine lv_aload_n hx hb dX12_meets_26 rfl (lv_at hl 1 rfl) ?_
      refine z_calli (va_runV (As := []) (rest := [.long (iL t)]) ⟨hx, hb, hml, hown, hts⟩ (m_steadyAll l D dA b M1 (fun k hk => by rw [e2, zup_n _ _ (by omega), a0 k hk])) (cwV 0 hts (z_gV k1193 k1194 k1411 k14 k1195) rfl rfl rfl dm_X12_steadyAll ⟨Nat.le_of_ble_eq_true rfl, Nat.le_of_ble_eq_true rfl⟩) ⟨zP_blind, (z_recv hS hK.1 (by decide) (zkd_of (rfl : zcd wR 0 = 50) rfl) (by decide) (rfl : vwCl[12]? = some (RX12, TX12, 50))), z_pre hS hK⟩ rfl rfl hl.1 rfl (lv_room (Nat.le_of_ble_eq_true rfl)) dX12_meets_27 ⟨Nat.le_refl _, Nat.le_refl _⟩) hS hS0 (zms_sub rfl) (fun z10 M6 H locs r11 h7 F8 hS hS0 => ?_)
      obtain ⟨h12, h7⟩ := h7
      rw [h12] at hS
      have h13 := h7
      obtain ⟨z10e, h13⟩ := h13
      subst z10e
      refine z_i2l hx hb (by decide) dX12_meets_30 ?_
      refine z_lcmp_ge hx hb r_t (by decide) dX12_meets_31 dX12_meets_32 (tgt := 52) (by decide) (fun c14 => ?_) (fun c14 => absurd c14 (by omega))
      refine lv_aload_n hx hb dX12_meets_52 rfl (lv_at hl 1 rfl) ?_
      refine lv_lload_n hx hb dX12_meets_53 rfl (lv_at hl 0 rfl) ?_
      refine z_callv (va_runV (As := [.long (iL t)]) (rest := []) ⟨hx, hb, hml, hown, hts⟩ (m_findHeard l D dA b M1 t r_t (by rw [e2, zup_n _ _ (by omega), g0])) (cwV 1 hts (z_gV k1200 k1201 k1413 k14 k1202) rfl rfl rfl dm_X12_findHeard ⟨Nat.le_of_ble_eq_true rfl, Nat.le_of_ble_eq_true rfl⟩) ⟨zP_blind, (z_recv hS hK.1 (by decide) (zkd_of (rfl : zcd wR 0 = 50) rfl) (by decide) (rfl : vwCl[12]? = some (RX12, TX12, 50))), z_pre hS hK⟩ rfl rfl hl.1 rfl (lv_room (Nat.le_of_ble_eq_true rfl)) dX12_meets_54 ⟨Nat.le_refl _, Nat.le_refl _⟩) hS hS0 (zms_sub rfl) (fun M15 H locs h16 F17 hS hS0 => ?_)
      obtain ⟨h19, h16⟩ := h16
      rw [h19] at hS
      refine lv_aload_n hx hb dX12_meets_57 rfl (lv_at hl 1 rfl) ?_
      refine z_calll (va_runV (As := []) (rest := []) ⟨hx, hb, hml, hown, hts⟩ (m_allRounds l D dA b M1 (by rw [e2, zup_n _ _ (by omega), g0])) (cwV 0 hts (z_gV k1177 k1178 k1410 k14 k1179) rfl rfl rfl dm_X12_allRounds ⟨Nat.le_of_ble_eq_true rfl, Nat.le_of_ble_eq_true rfl⟩) ⟨zP_blind, (z_recv hS hK.1 (by decide) (zkd_of (rfl : zcd wR 0 = 50) rfl) (by decide) (rfl : vwCl[12]? = some (RX12, TX12, 50))), z_pre hS hK⟩ rfl rfl hl.1 rfl (lv_room (Nat.le_of_ble_eq_true rfl)) dX12_meets_58 ⟨Nat.le_refl _, Nat.le_refl _⟩) hS hS0 (zms_sub rfl) (fun z24 M20 H locs r25 h21 F22 hS hS0 => ?_)
      obtain ⟨h26, h21⟩ := h21
      rw [h26] at hS
      have h27 := h21
      obtain ⟨z24e, h27⟩ := h27
      subst z24e
      refine z_l2i hx hb dX12_meets_61 ?_
      refine lv_istore (lv' := [(5, .int (iI 1)), (3, .long (iL t)), (0, .ref (b + 0)), (1, .long (iL t))]) hx hb dX12_meets_62 hl (by decide) rfl (fun ls hl => ?_)
      refine z_iconst hx hb dX12_meets_64 ?_
      refine lv_istore (lv' := [(6, .int (iI 0)), (5, .int (iI 1)), (3, .long (iL t)), (0, .ref (b + 0)), (1, .long (iL t))]) hx hb dX12_meets_65 hl (by decide) rfl (fun ls hl => ?_)
      refine lv_iload hx hb dX12_meets_67 (lv_at hl 0 rfl) ?_
      refine lv_iload hx hb dX12_meets_69 (lv_at hl 1 rfl) ?_
      refine z_icmp_ge (tgt := 95) hx hb (by decide) (by decide) dX12_meets_71 (by decide) (fun c28 => absurd c28 (by decide)) (fun c28 => ?_)
      refine lv_aload_n hx hb dX12_meets_74 rfl (lv_at hl 3 rfl) ?_
      refine lv_iload hx hb dX12_meets_75 (lv_at hl 0 rfl) ?_
      refine z_calli (va_runV (As := [.int (iI 0)]) (rest := []) ⟨hx, hb, hml, hown, hts⟩ (m_meetsBehind l D dA b M1 0 (by decide) (by rw [e2, zup_n _ _ (by omega), g0])) (cwV 1 hts (z_gV k1203 k1204 k1414 k14 k1205) rfl rfl rfl dm_X12_meetsBehind ⟨Nat.le_of_ble_eq_true rfl, Nat.le_of_ble_eq_true rfl⟩) ⟨zP_blind, (z_recv hS hK.1 (by decide) (zkd_of (rfl : zcd wR 0 = 50) rfl) (by decide) (rfl : vwCl[12]? = some (RX12, TX12, 50))), z_pre hS hK⟩ rfl rfl hl.1 rfl (lv_room (Nat.le_of_ble_eq_true rfl)) dX12_meets_77 ⟨Nat.le_refl _, Nat.le_refl _⟩) hS hS0 (zms_sub rfl) (fun z33 M29 H locs r34 h30 F31 hS hS0 => ?_)
      obtain ⟨h35, h30⟩ := h30
      rw [h35] at hS
      have h36 := h30
      obtain ⟨z33e, h36⟩ := h36
      subst z33e
      refine z_if_eq (tgt := 89) hx hb (by decide) dX12_meets_80 (by decide) (fun c37 => absurd c37 (by decide)) (fun c37 => ?_)
      refine lv_lload_n hx hb dX12_meets_83 rfl (lv_at hl 2 rfl) ?_
      refine lv_iload hx hb dX12_meets_84 (lv_at hl 0 rfl) ?_
      refine z_i2l hx hb (by decide) dX12_meets_86 ?_
      refine z_ladd hx hb dX12_meets_87 ?_
      exact z_lret hx hb hr hlocks hS hS0 ⟨by omega, by omega⟩ (by first | exact trivial | exact ⟨rfl, trivial⟩ | omega | (refine ⟨by omega, trivial⟩)) dX12_meets_88
    · skip
      refine z_ldc2 (n := -1) hx hb hown (hts _ (z_mem k1192)) (by decide) dX12_meets_19 ?_
      exact z_lret hx hb hr hlocks hS hS0 (by decide) (by first | exact trivial | exact ⟨rfl, trivial⟩ | omega | (refine ⟨by omega, trivial⟩)) dX12_meets_22

set_option maxHeartbeats 4000000 in
set_option maxRecDepth 100000 in
theorem m_often (l : Launch) (D : va_G) (dA : Nat → ClassId) (b : Nat) (M : zM) (g0 : M 0 10 = 0) (a0 : ∀ k : Nat, k < 2 → M 11 k = 0) : Met l yX12_often (.code yX12_often cX12_often 5 (some .long) :: zt) (z_rm 2) (va_Pc [.ref (b + 0)] (zP D dA vwCl (z_tys dA) wR nR b M)) (va_Ql (zQl wR (zms wR [3235]) M (fun z M1 => z = 1 ∧ True)) (zB D dA vwCl wR nR b) (zA nR b)) 0 0 (zA nR b) := by
  refine Met.ofW (cc := cX12_often) (maxL := 5) (ret := (some .long)) (by decide) rfl ?_
  intro p e s m args below meth c s₁ B hml hv
  obtain ⟨hargs, hR0, hJ, hK⟩ := hv
  have hx := B.exec
  have hb := B.bytes
  have hr := B.returns
  have hts := atoms_spec (ws := .code yX12_often cX12_often 5 (some .long) :: zt) B.pre
  have hown : s.vm.findClass RX12 = some m.cls := findClass_of_methodNamed B.named
  have hlocks := B.notSynchronized
  have hS : zS D dA vwCl wR nR b (zms wR [3235]) M M s.heap := ⟨hR0, hJ, zF_rf _ _⟩
  have hS0 : va_S (zA nR b) s.heap s.heap [] := va_S.rf
  have hl := lv_entry ([.ref (b + 0)]) (n := 5) (Nat.le_of_ble_eq_true rfl)
  have hent : entryFrame m args 5 = F0 m 0 ((lg_sl ([.ref (b + 0)]) ++ List.replicate (5 - (lg_sl ([.ref (b + 0)])).length) Slot.unset).toArray) [] := by rw [hargs]; exact lg_entry_eq m ([.ref (b + 0)]) 5
  rw [hent]
  generalize (lg_sl ([.ref (b + 0)]) ++ List.replicate (5 - (lg_sl ([.ref (b + 0)])).length) Slot.unset).toArray = ls at hl ⊢
  have hl : lv_has ls 5 [(0, .ref (b + 0))] := hl
  refine lv_aload_n hx hb dX12_often_0 rfl (lv_at hl 0 rfl) ?_
  refine z_iconst hx hb dX12_often_1 ?_
  refine z_puti hx hb hts (z_memU u12) tyX12 tyX12_ok nmX12 hown hK.1 hS hS0 f12_35 (by decide) (zkd_of (rfl : zcd wR 0 = 50) rfl) (Or.inl (hts _ (z_mem k979))) rfl (z := 0) (by decide +kernel) (zbd_in (rfl : zcd wR 0 = 50) rfl (by decide)) (zms_of (rfl : zcd wR 0 = 50) rfl) dX12_often_2 (fun H locs hS hS0 => ?_)
  obtain ⟨M1, e2⟩ : ∃ M1 : zM, M1 = zup M 0 35 0 := ⟨_, rfl⟩
  rw [← e2] at hS
  have J3 := hS.2.1
  refine lv_aload_n hx hb dX12_often_5 rfl (lv_at hl 0 rfl) ?_
  refine lv_aload_n hx hb dX12_often_6 rfl (lv_at hl 0 rfl) ?_
  refine z_calli (va_runV (As := []) (rest := [.ref (b + 0)]) ⟨hx, hb, hml, hown, hts⟩ (m_steadyAll l D dA b M1 (fun k hk => by rw [e2, zup_n _ _ (by omega), a0 k hk])) (cwV 0 hts (z_gV k1193 k1194 k1411 k14 k1195) rfl rfl rfl dm_X12_steadyAll ⟨Nat.le_of_ble_eq_true rfl, Nat.le_of_ble_eq_true rfl⟩) ⟨zP_blind, (z_recv hS hK.1 (by decide) (zkd_of (rfl : zcd wR 0 = 50) rfl) (by decide) (rfl : vwCl[12]? = some (RX12, TX12, 50))), z_pre hS hK⟩ rfl rfl hl.1 rfl (lv_room (Nat.le_of_ble_eq_true rfl)) dX12_often_7 ⟨Nat.le_refl _, Nat.le_refl _⟩) hS hS0 (zms_sub rfl) (fun z8 M4 H locs r9 h5 F6 hS hS0 => ?_)
  obtain ⟨h10, h5⟩ := h5
  rw [h10] at hS
  have h11 := h5
  obtain ⟨z8e, h11⟩ := h11
  subst z8e
  refine z_i2l hx hb (by decide) dX12_often_10 ?_
  refine z_callv (va_runV (As := [.long (iL 0)]) (rest := []) ⟨hx, hb, hml, hown, hts⟩ (m_findHeard l D dA b M1 0 (by decide) (by rw [e2, zup_n _ _ (by omega), g0])) (cwV 1 hts (z_gV k1200 k1201 k1413 k14 k1202) rfl rfl rfl dm_X12_findHeard ⟨Nat.le_of_ble_eq_true rfl, Nat.le_of_ble_eq_true rfl⟩) ⟨zP_blind, (z_recv hS hK.1 (by decide) (zkd_of (rfl : zcd wR 0 = 50) rfl) (by decide) (rfl : vwCl[12]? = some (RX12, TX12, 50))), z_pre hS hK⟩ rfl rfl hl.1 rfl (lv_room (Nat.le_of_ble_eq_true rfl)) dX12_often_11 ⟨Nat.le_refl _, Nat.le_refl _⟩) hS hS0 (zms_sub rfl) (fun M12 H locs h13 F14 hS hS0 => ?_)
  obtain ⟨h16, h13⟩ := h13
  rw [h16] at hS
  refine lv_aload_n hx hb dX12_often_14 rfl (lv_at hl 0 rfl) ?_
  refine z_calll (va_runV (As := []) (rest := []) ⟨hx, hb, hml, hown, hts⟩ (m_allRounds l D dA b M1 (by rw [e2, zup_n _ _ (by omega), g0])) (cwV 0 hts (z_gV k1177 k1178 k1410 k14 k1179) rfl rfl rfl dm_X12_allRounds ⟨Nat.le_of_ble_eq_true rfl, Nat.le_of_ble_eq_true rfl⟩) ⟨zP_blind, (z_recv hS hK.1 (by decide) (zkd_of (rfl : zcd wR 0 = 50) rfl) (by decide) (rfl : vwCl[12]? = some (RX12, TX12, 50))), z_pre hS hK⟩ rfl rfl hl.1 rfl (lv_room (Nat.le_of_ble_eq_true rfl)) dX12_often_15 ⟨Nat.le_refl _, Nat.le_refl _⟩) hS hS0 (zms_sub rfl) (fun z21 M17 H locs r22 h18 F19 hS hS0 => ?_)
  obtain ⟨h23, h18⟩ := h18
  rw [h23] at hS
  have h24 := h18
  obtain ⟨z21e, h24⟩ := h24
  subst z21e
  refine z_l2i hx hb dX12_often_18 ?_
  refine lv_istore_n (lv' := [(1, .int (iI 1)), (0, .ref (b + 0))]) hx hb dX12_often_19 rfl hl (by decide) rfl (fun ls hl => ?_)
  refine z_lconst0 hx hb dX12_often_20 ?_
  refine lv_lstore_n (lv' := [(2, .long (iL 0)), (1, .int (iI 1)), (0, .ref (b + 0))]) hx hb dX12_often_21 rfl hl (by decide) rfl (fun ls hl => ?_)
  refine z_iconst hx hb dX12_often_22 ?_
  refine lv_istore (lv' := [(4, .int (iI 0)), (2, .long (iL 0)), (1, .int (iI 1)), (0, .ref (b + 0))]) hx hb dX12_often_23 hl (by decide) rfl (fun ls hl => ?_)
  refine lv_iload hx hb dX12_often_25 (lv_at hl 0 rfl) ?_
  refine lv_iload_n hx hb dX12_often_27 rfl (lv_at hl 2 rfl) ?_
  refine z_icmp_ge (tgt := 50) hx hb (by decide) (by decide) dX12_often_28 (by decide) (fun c25 => absurd c25 (by decide)) (fun c25 => ?_)
  refine lv_aload_n hx hb dX12_often_31 rfl (lv_at hl 3 rfl) ?_
  refine lv_iload hx hb dX12_often_32 (lv_at hl 0 rfl) ?_
  refine z_calli (va_runV (As := [.int (iI 0)]) (rest := []) ⟨hx, hb, hml, hown, hts⟩ (m_meetsBehind l D dA b M1 0 (by decide) (by rw [e2, zup_n _ _ (by omega), g0])) (cwV 1 hts (z_gV k1203 k1204 k1414 k14 k1205) rfl rfl rfl dm_X12_meetsBehind ⟨Nat.le_of_ble_eq_true rfl, Nat.le_of_ble_eq_true rfl⟩) ⟨zP_blind, (z_recv hS hK.1 (by decide) (zkd_of (rfl : zcd wR 0 = 50) rfl) (by decide) (rfl : vwCl[12]? = some (RX12, TX12, 50))), z_pre hS hK⟩ rfl rfl hl.1 rfl (lv_room (Nat.le_of_ble_eq_true rfl)) dX12_often_34 ⟨Nat.le_refl _, Nat.le_refl _⟩) hS hS0 (zms_sub rfl) (fun z30 M26 H locs r31 h27 F28 hS hS0 => ?_)
  obtain ⟨h32, h27⟩ := h27
  rw [h32] at hS
  have h33 := h27
  obtain ⟨z30e, h33⟩ := h33
  subst z30e
  refine z_if_eq (tgt := 44) hx hb (by decide) dX12_often_37 (by decide) (fun c34 => absurd c34 (by decide)) (fun c34 => ?_)
  refine lv_lload_n hx hb dX12_often_40 rfl (lv_at hl 1 rfl) ?_
  refine z_lconst1 hx hb dX12_often_41 ?_
  refine z_ladd hx hb dX12_often_42 ?_
  refine z_topl (show ((0 + 1) : Int) = 1 from (by decide)) ?_
  refine lv_lstore_n (lv' := [(2, .long (iL 1)), (4, .int (iI 0)), (1, .int (iI 1)), (0, .ref (b + 0))]) hx hb dX12_often_43 rfl hl (by decide) rfl (fun ls hl => ?_)
  refine z_iinc (lv' := [(4, .int (iI (0 + 1))), (2, .long (iL 1)), (1, .int (iI 1)), (0, .ref (b + 0))]) hx hb dX12_often_44 hl (k := 1) rfl (by decide) rfl (fun ls hl => ?_)
  rw [show ((0 + 1) : Int) = 1 from by decide] at hl
  refine lv_goto (tgt := 25) hx hb dX12_often_47 (by decide) ?_
  refine lv_iload hx hb dX12_often_25 (lv_at hl 0 rfl) ?_
  refine lv_iload_n hx hb dX12_often_27 rfl (lv_at hl 2 rfl) ?_
  refine z_icmp_ge (tgt := 50) hx hb (by decide) (by decide) dX12_often_28 (by decide) (fun c35 => ?_) (fun c35 => absurd c35 (by decide))
  refine lv_lload_n hx hb dX12_often_50 rfl (lv_at hl 1 rfl) ?_
  exact z_lret hx hb hr hlocks hS hS0 (by decide) (by first | exact trivial | exact ⟨rfl, trivial⟩ | omega | (refine ⟨by omega, trivial⟩)) dX12_often_51

set_option maxHeartbeats 4000000 in
set_option maxRecDepth 100000 in
theorem m_mark (l : Launch) (D : va_G) (dA : Nat → ClassId) (b : Nat) (M : zM) (tk : Int) (sd : Int) (r_tk : R32 tk) (r_sd : R32 sd) (g0 : M 0 16 = 0) : Met l yX12_mark (.code yX12_mark cX12_mark 3 (some .int) :: zt) (z_rm 1) (va_Pc [.ref (b + 0), .int (iI tk), .int (iI sd)] (zP D dA vwCl (z_tys dA) wR nR b M)) (va_Qi (zQi wR (zms wR [3235, 3216, 4031, 4095]) M (fun z M1 => ((0 ≤ tk ∧ tk ≤ 100000) ∧ (1 ≤ sd ∧ sd ≤ 9) ∧ z = 1) ∨ (¬ ((0 ≤ tk ∧ tk ≤ 100000) ∧ 1 ≤ sd ∧ sd ≤ 9) ∧ z = -1))) (zB D dA vwCl wR nR b) (zA nR b)) 0 0 (zA nR b) := by
  refine Met.ofW (cc := cX12_mark) (maxL := 3) (ret := (some .int)) (by decide) rfl ?_
  intro p e s m args below meth c s₁ B hml hv
  obtain ⟨hargs, hR0, hJ, hK⟩ := hv
  have hx := B.exec
  have hb := B.bytes
  have hr := B.returns
  have hts := atoms_spec (ws := .code yX12_mark cX12_mark 3 (some .int) :: zt) B.pre
  have hown : s.vm.findClass RX12 = some m.cls := findClass_of_methodNamed B.named
  have hlocks := B.notSynchronized
  have hS : zS D dA vwCl wR nR b (zms wR [3235, 3216, 4031, 4095]) M M s.heap := ⟨hR0, hJ, zF_rf _ _⟩
  have hS0 : va_S (zA nR b) s.heap s.heap [] := va_S.rf
  have hl := lv_entry ([.ref (b + 0), .int (iI tk), .int (iI sd)]) (n := 3) (Nat.le_of_ble_eq_true rfl)
  have hent : entryFrame m args 3 = F0 m 0 ((lg_sl ([.ref (b + 0), .int (iI tk), .int (iI sd)]) ++ List.replicate (3 - (lg_sl ([.ref (b + 0), .int (iI tk), .int (iI sd)])).length) Slot.unset).toArray) [] := by rw [hargs]; exact lg_entry_eq m ([.ref (b + 0), .int (iI tk), .int (iI sd)]) 3
  rw [hent]
  generalize (lg_sl ([.ref (b + 0), .int (iI tk), .int (iI sd)]) ++ List.replicate (3 - (lg_sl ([.ref (b + 0), .int (iI tk), .int (iI sd)])).length) Slot.unset).toArray = ls at hl ⊢
  have hl : lv_has ls 3 [(0, .ref (b + 0)), (1, .int (iI tk)), (2, .int (iI sd))] := hl
  refine lv_aload_n hx hb dX12_mark_0 rfl (lv_at hl 0 rfl) ?_
  refine z_iconst hx hb dX12_mark_1 ?_
  refine z_puti hx hb hts (z_memU u12) tyX12 tyX12_ok nmX12 hown hK.1 hS hS0 f12_35 (by decide) (zkd_of (rfl : zcd wR 0 = 50) rfl) (Or.inl (hts _ (z_mem k979))) rfl (z := 0) (by decide +kernel) (zbd_in (rfl : zcd wR 0 = 50) rfl (by decide)) (zms_of (rfl : zcd wR 0 = 50) rfl) dX12_mark_2 (fun H locs hS hS0 => ?_)
  obtain ⟨M1, e2⟩ : ∃ M1 : zM, M1 = zup M 0 35 0 := ⟨_, rfl⟩
  rw [← e2] at hS
  have J3 := hS.2.1
  refine lv_iload_n hx hb dX12_mark_5 rfl (lv_at hl 1 rfl) ?_
  refine z_iconst hx hb dX12_mark_6 ?_
  refine z_ldcw (n := 100000) hx hb hown (hts _ (z_mem k1214)) (by decide) dX12_mark_7 ?_
  refine z_calli (va_runS (As := [.int (iI tk), .int (iI 0), .int (iI 100000)]) (rest := []) ⟨hx, hb, hml, hown, hts⟩ (m_in l D dA b M1 tk 0 100000 r_tk (by decide) (by decide)) (va_cwS 3 hts (z_gS k1087 k1088 k14 k1089) rfl rfl rfl dm_X12_in.2 ⟨Nat.le_of_ble_eq_true rfl, Nat.le_of_ble_eq_true rfl⟩) ⟨zP_blind, z_pre hS hK⟩ rfl rfl hl.1 rfl (lv_room (Nat.le_of_ble_eq_true rfl)) dX12_mark_10 ⟨Nat.le_refl _, Nat.le_refl _⟩) hS hS0 (zms_sub rfl) (fun z8 M4 H locs r9 h5 F6 hS hS0 => ?_)
  obtain ⟨h10, h5⟩ := h5
  rw [h10] at hS
  rcases h5 with h11 | h12
  · skip
    obtain ⟨z8e, h11⟩ := h11
    subst z8e
    refine z_if_eq (tgt := 35) hx hb (by decide) dX12_mark_13 (by decide) (fun c13 => absurd c13 (by decide)) (fun c13 => ?_)
    refine lv_iload_n hx hb dX12_mark_16 rfl (lv_at hl 2 rfl) ?_
    refine z_iconst hx hb dX12_mark_17 ?_
    refine z_bipush hx hb (by decide) dX12_mark_18 ?_
    refine z_calli (va_runS (As := [.int (iI sd), .int (iI 1), .int (iI 9)]) (rest := []) ⟨hx, hb, hml, hown, hts⟩ (m_in l D dA b M1 sd 1 9 r_sd (by decide) (by decide)) (va_cwS 3 hts (z_gS k1087 k1088 k14 k1089) rfl rfl rfl dm_X12_in.2 ⟨Nat.le_of_ble_eq_true rfl, Nat.le_of_ble_eq_true rfl⟩) ⟨zP_blind, z_pre hS hK⟩ rfl rfl hl.1 rfl (lv_room (Nat.le_of_ble_eq_true rfl)) dX12_mark_20 ⟨Nat.le_refl _, Nat.le_refl _⟩) hS hS0 (zms_sub rfl) (fun z18 M14 H locs r19 h15 F16 hS hS0 => ?_)
    obtain ⟨h20, h15⟩ := h15
    rw [h20] at hS
    rcases h15 with h21 | h22
    · skip
      obtain ⟨z18e, h21⟩ := h21
      subst z18e
      refine z_if_eq (tgt := 35) hx hb (by decide) dX12_mark_23 (by decide) (fun c23 => absurd c23 (by decide)) (fun c23 => ?_)
      refine lv_aload_n hx hb dX12_mark_26 rfl (lv_at hl 0 rfl) ?_
      refine z_geti hx hb hts (z_memU u12) hown hK.1 hS f12_16 (by decide) (zkd_of (rfl : zcd wR 0 = 50) rfl) (Or.inl (hts _ (z_mem k960))) dX12_mark_27 ?_
      refine z_top (show M1 0 16 = 0 from by rw [e2, zup_n _ _ (by omega), g0]) ?_
      refine z_bipush hx hb (by decide) dX12_mark_30 ?_
      refine z_icmp_ne (tgt := 37) hx hb (by decide) (by decide) dX12_mark_32 (by decide) (fun c24 => ?_) (fun c24 => absurd c24 (by decide))
      refine lv_aload_n hx hb dX12_mark_37 rfl (lv_at hl 0 rfl) ?_
      refine z_getr (j2 := 12) hx hb hts (z_memU u12) hown hK.1 hS f12_14 (by decide) (zkd_of (rfl : zcd wR 0 = 50) rfl) (zrf_of (rfl : zcd wR 0 = 50) rfl) (Or.inl (hts _ (z_mem k958))) dX12_mark_38 ?_
      refine lv_aload_n hx hb dX12_mark_41 rfl (lv_at hl 0 rfl) ?_
      refine z_geti hx hb hts (z_memU u12) hown hK.1 hS f12_16 (by decide) (zkd_of (rfl : zcd wR 0 = 50) rfl) (Or.inl (hts _ (z_mem k960))) dX12_mark_42 ?_
      refine z_top (show M1 0 16 = 0 from by rw [e2, zup_n _ _ (by omega), g0]) ?_
      refine lv_iload_n hx hb dX12_mark_45 rfl (lv_at hl 1 rfl) ?_
      refine z_iast (n := 6) hx hb hK.1 (t0 := 0) rfl hS hS0 (by decide) (zkd_of (rfl : zcd wR 12 = 62) rfl) (zln_of (rfl : zcd wR 12 = 62) rfl) (by decide) (by decide) (by decide) (zbd_in (rfl : zcd wR 12 = 62) rfl ⟨by omega, by omega⟩) (zms_of (rfl : zcd wR 12 = 62) rfl) dX12_mark_46 (fun H locs hS hS0 => ?_)
      obtain ⟨M25, e26⟩ : ∃ M25 : zM, M25 = zup M1 12 ((0 : Int).toNat) tk := ⟨_, rfl⟩
      rw [← e26] at hS
      have J27 := hS.2.1
      refine lv_aload_n hx hb dX12_mark_47 rfl (lv_at hl 0 rfl) ?_
      refine z_getr (j2 := 13) hx hb hts (z_memU u12) hown hK.1 hS f12_15 (by decide) (zkd_of (rfl : zcd wR 0 = 50) rfl) (zrf_of (rfl : zcd wR 0 = 50) rfl) (Or.inl (hts _ (z_mem k959))) dX12_mark_48 ?_
      refine lv_aload_n hx hb dX12_mark_51 rfl (lv_at hl 0 rfl) ?_
      refine z_geti hx hb hts (z_memU u12) hown hK.1 hS f12_16 (by decide) (zkd_of (rfl : zcd wR 0 = 50) rfl) (Or.inl (hts _ (z_mem k960))) dX12_mark_52 ?_
      refine z_top (show M25 0 16 = 0 from by rw [e26, zup_n _ _ (by omega), e2, zup_n _ _ (by omega), g0]) ?_
      refine lv_iload_n hx hb dX12_mark_55 rfl (lv_at hl 2 rfl) ?_
      refine z_iast (n := 6) hx hb hK.1 (t0 := 0) rfl hS hS0 (by decide) (zkd_of (rfl : zcd wR 13 = 63) rfl) (zln_of (rfl : zcd wR 13 = 63) rfl) (by decide) (by decide) (by decide) (zbd_in (rfl : zcd wR 13 = 63) rfl ⟨by omega, by omega⟩) (zms_of (rfl : zcd wR 13 = 63) rfl) dX12_mark_56 (fun H locs hS hS0 => ?_)
      obtain ⟨M28, e29⟩ : ∃ M28 : zM, M28 = zup M25 13 ((0 : Int).toNat) sd := ⟨_, rfl⟩
      rw [← e29] at hS
      have J30 := hS.2.1
      refine lv_aload_n hx hb dX12_mark_57 rfl (lv_at hl 0 rfl) ?_
      refine lv_dup hx hb dX12_mark_58 rfl ?_
      refine z_geti hx hb hts (z_memU u12) hown hK.1 hS f12_16 (by decide) (zkd_of (rfl : zcd wR 0 = 50) rfl) (Or.inl (hts _ (z_mem k960))) dX12_mark_59 ?_
      refine z_top (show M28 0 16 = 0 from by rw [e29, zup_n _ _ (by omega), e26, zup_n _ _ (by omega), e2, zup_n _ _ (by omega), g0]) ?_
      refine z_iconst hx hb dX12_mark_62 ?_
      refine z_iadd hx hb dX12_mark_63 ?_
      refine z_top (show ((0 + 1) : Int) = 1 from (by decide)) ?_
      refine z_puti hx hb hts (z_memU u12) tyX12 tyX12_ok nmX12 hown hK.1 hS hS0 f12_16 (by decide) (zkd_of (rfl : zcd wR 0 = 50) rfl) (Or.inl (hts _ (z_mem k960))) rfl (z := 1) (by decide +kernel) (zbd_in (rfl : zcd wR 0 = 50) rfl (by decide)) (zms_of (rfl : zcd wR 0 = 50) rfl) dX12_mark_64 (fun H locs hS hS0 => ?_)
      obtain ⟨M31, e32⟩ : ∃ M31 : zM, M31 = zup M28 0 16 1 := ⟨_, rfl⟩
      rw [← e32] at hS
      have J33 := hS.2.1
      refine lv_aload_n hx hb dX12_mark_67 rfl (lv_at hl 0 rfl) ?_
      refine z_geti hx hb hts (z_memU u12) hown hK.1 hS f12_16 (by decide) (zkd_of (rfl : zcd wR 0 = 50) rfl) (Or.inl (hts _ (z_mem k960))) dX12_mark_68 ?_
      refine z_top (show M31 0 16 = 1 from by rw [e32, zup_s]) ?_
      exact z_iret hx hb hr hlocks hS hS0 (by decide) (by first | exact trivial | exact ⟨rfl, trivial⟩ | omega | (refine ⟨by omega, trivial⟩)) dX12_mark_71
    · skip
      obtain ⟨z18e, h22⟩ := h22
      subst z18e
      refine z_if_eq (tgt := 35) hx hb (by decide) dX12_mark_23 (by decide) (fun c34 => ?_) (fun c34 => absurd c34 (by decide))
      refine z_iconst hx hb dX12_mark_35 ?_
      exact z_iret hx hb hr hlocks hS hS0 (by decide) (by first | exact trivial | exact ⟨rfl, trivial⟩ | omega | (refine ⟨by omega, trivial⟩)) dX12_mark_36
  · skip
    obtain ⟨z8e, h12⟩ := h12
    subst z8e
    refine z_if_eq (tgt := 35) hx hb (by decide) dX12_mark_13 (by decide) (fun c35 => ?_) (fun c35 => absurd c35 (by decide))
    refine z_iconst hx hb dX12_mark_35 ?_
    exact z_iret hx hb hr hlocks hS hS0 (by decide) (by first | exact trivial | exact ⟨rfl, trivial⟩ | omega | (refine ⟨by omega, trivial⟩)) dX12_mark_36

set_option maxHeartbeats 4000000 in
set_option maxRecDepth 100000 in
theorem m_kept (l : Launch) (D : va_G) (dA : Nat → ClassId) (b : Nat) (M : zM) (g0 : M 0 10 = 0) : Met l yX12_kept (.code yX12_kept cX12_kept 3 (some .int) :: zt) (z_rm 0) (va_Pc [.ref (b + 0)] (zP D dA vwCl (z_tys dA) wR nR b M)) (va_Qi (zQi wR (zms wR [3235]) M (fun z M1 => z = 0 ∧ True)) (zB D dA vwCl wR nR b) (zA nR b)) 0 0 (zA nR b) := by
  refine Met.ofW (cc := cX12_kept) (maxL := 3) (ret := (some .int)) (by decide) rfl ?_
  intro p e s m args below meth c s₁ B hml hv
  obtain ⟨hargs, hR0, hJ, hK⟩ := hv
  have hx := B.exec
  have hb := B.bytes
  have hr := B.returns
  have hts := atoms_spec (ws := .code yX12_kept cX12_kept 3 (some .int) :: zt) B.pre
  have hown : s.vm.findClass RX12 = some m.cls := findClass_of_methodNamed B.named
  have hlocks := B.notSynchronized
  have hS : zS D dA vwCl wR nR b (zms wR [3235]) M M s.heap := ⟨hR0, hJ, zF_rf _ _⟩
  have hS0 : va_S (zA nR b) s.heap s.heap [] := va_S.rf
  have hl := lv_entry ([.ref (b + 0)]) (n := 3) (Nat.le_of_ble_eq_true rfl)
  have hent : entryFrame m args 3 = F0 m 0 ((lg_sl ([.ref (b + 0)]) ++ List.replicate (3 - (lg_sl ([.ref (b + 0)])).length) Slot.unset).toArray) [] := by rw [hargs]; exact lg_entry_eq m ([.ref (b + 0)]) 3
  rw [hent]
  generalize (lg_sl ([.ref (b + 0)]) ++ List.replicate (3 - (lg_sl ([.ref (b + 0)])).length) Slot.unset).toArray = ls at hl ⊢
  have hl : lv_has ls 3 [(0, .ref (b + 0))] := hl
  refine lv_aload_n hx hb dX12_kept_0 rfl (lv_at hl 0 rfl) ?_
  refine z_iconst hx hb dX12_kept_1 ?_
  refine z_puti hx hb hts (z_memU u12) tyX12 tyX12_ok nmX12 hown hK.1 hS hS0 f12_35 (by decide) (zkd_of (rfl : zcd wR 0 = 50) rfl) (Or.inl (hts _ (z_mem k979))) rfl (z := 0) (by decide +kernel) (zbd_in (rfl : zcd wR 0 = 50) rfl (by decide)) (zms_of (rfl : zcd wR 0 = 50) rfl) dX12_kept_2 (fun H locs hS hS0 => ?_)
  obtain ⟨M1, e2⟩ : ∃ M1 : zM, M1 = zup M 0 35 0 := ⟨_, rfl⟩
  rw [← e2] at hS
  have J3 := hS.2.1
  refine z_iconst hx hb dX12_kept_5 ?_
  refine lv_istore_n (lv' := [(1, .int (iI 0)), (0, .ref (b + 0))]) hx hb dX12_kept_6 rfl hl (by decide) rfl (fun ls hl => ?_)
  refine z_iconst hx hb dX12_kept_7 ?_
  refine lv_istore_n (lv' := [(2, .int (iI 0)), (1, .int (iI 0)), (0, .ref (b + 0))]) hx hb dX12_kept_8 rfl hl (by decide) rfl (fun ls hl => ?_)
  refine lv_iload_n hx hb dX12_kept_9 rfl (lv_at hl 0 rfl) ?_
  refine lv_aload_n hx hb dX12_kept_10 rfl (lv_at hl 2 rfl) ?_
  refine z_geti hx hb hts (z_memU u12) hown hK.1 hS f12_10 (by decide) (zkd_of (rfl : zcd wR 0 = 50) rfl) (Or.inl (hts _ (z_mem k954))) dX12_kept_11 ?_
  refine z_top (show M1 0 10 = 0 from by rw [e2, zup_n _ _ (by omega), g0]) ?_
  refine z_icmp_ge (tgt := 38) hx hb (by decide) (by decide) dX12_kept_14 (by decide) (fun c4 => ?_) (fun c4 => absurd c4 (by decide))
  refine lv_iload_n hx hb dX12_kept_38 rfl (lv_at hl 1 rfl) ?_
  exact z_iret hx hb hr hlocks hS hS0 (by decide) (by first | exact trivial | exact ⟨rfl, trivial⟩ | omega | (refine ⟨by omega, trivial⟩)) dX12_kept_39

set_option maxHeartbeats 4000000 in
set_option maxRecDepth 100000 in
theorem m_findPlan (l : Launch) (D : va_G) (dA : Nat → ClassId) (b : Nat) (M : zM) (g0 : M 0 10 = 0) (g1 : M 0 16 = 0) : Met l yX12_findPlan (.code yX12_findPlan cX12_findPlan 9 (some .int) :: zt) (z_rm 0) (va_Pc [.ref (b + 0)] (zP D dA vwCl (z_tys dA) wR nR b M)) (va_Qi (zQi wR (zms wR [3234, 5055]) M (fun z M1 => z = 0 ∧ True)) (zB D dA vwCl wR nR b) (zA nR b)) 0 0 (zA nR b) := by
  refine Met.ofW (cc := cX12_findPlan) (maxL := 9) (ret := (some .int)) (by decide) rfl ?_
  intro p e s m args below meth c s₁ B hml hv
  obtain ⟨hargs, hR0, hJ, hK⟩ := hv
  have hx := B.exec
  have hb := B.bytes
  have hr := B.returns
  have hts := atoms_spec (ws := .code yX12_findPlan cX12_findPlan 9 (some .int) :: zt) B.pre
  have hown : s.vm.findClass RX12 = some m.cls := findClass_of_methodNamed B.named
  have hlocks := B.notSynchronized
  have hS : zS D dA vwCl wR nR b (zms wR [3234, 5055]) M M s.heap := ⟨hR0, hJ, zF_rf _ _⟩
  have hS0 : va_S (zA nR b) s.heap s.heap [] := va_S.rf
  have hl := lv_entry ([.ref (b + 0)]) (n := 9) (Nat.le_of_ble_eq_true rfl)
  have hent : entryFrame m args 9 = F0 m 0 ((lg_sl ([.ref (b + 0)]) ++ List.replicate (9 - (lg_sl ([.ref (b + 0)])).length) Slot.unset).toArray) [] := by rw [hargs]; exact lg_entry_eq m ([.ref (b + 0)]) 9
  rw [hent]
  generalize (lg_sl ([.ref (b + 0)]) ++ List.replicate (9 - (lg_sl ([.ref (b + 0)])).length) Slot.unset).toArray = ls at hl ⊢
  have hl : lv_has ls 9 [(0, .ref (b + 0))] := hl
  refine z_iconst hx hb dX12_findPlan_0 ?_
  refine lv_aload_n hx hb dX12_findPlan_1 rfl (lv_at hl 0 rfl) ?_
  refine z_geti hx hb hts (z_memU u12) hown hK.1 hS f12_16 (by decide) (zkd_of (rfl : zcd wR 0 = 50) rfl) (Or.inl (hts _ (z_mem k960))) dX12_findPlan_2 ?_
  refine z_top (show M 0 16 = 0 from by rw [g1]) ?_
  refine z_ishl hx hb dX12_findPlan_5 (fun z1 r2 e3 => ?_)
  obtain rfl : z1 = 1 := iI_inj r2 (by decide) (e3.trans (by decide))
  refine lv_istore_n (lv' := [(1, .int (iI 1)), (0, .ref (b + 0))]) hx hb dX12_findPlan_6 rfl hl (by decide) rfl (fun ls hl => ?_)
  refine z_iconst hx hb dX12_findPlan_7 ?_
  refine lv_istore_n (lv' := [(2, .int (iI 0)), (1, .int (iI 1)), (0, .ref (b + 0))]) hx hb dX12_findPlan_8 rfl hl (by decide) rfl (fun ls hl => ?_)
  refine lv_iload_n hx hb dX12_findPlan_9 rfl (lv_at hl 0 rfl) ?_
  refine lv_iload_n hx hb dX12_findPlan_10 rfl (lv_at hl 1 rfl) ?_
  refine z_icmp_ge (tgt := 45) hx hb (by decide) (by decide) dX12_findPlan_11 (by decide) (fun c4 => absurd c4 (by decide)) (fun c4 => ?_)
  refine lv_aload_n hx hb dX12_findPlan_14 rfl (lv_at hl 2 rfl) ?_
  refine z_getr (j2 := 28) hx hb hts (z_memU u12) hown hK.1 hS f12_43 (by decide) (zkd_of (rfl : zcd wR 0 = 50) rfl) (zrf_of (rfl : zcd wR 0 = 50) rfl) (Or.inl (hts _ (z_mem k987))) dX12_findPlan_15 ?_
  refine z_bipush hx hb (by decide) dX12_findPlan_18 ?_
  refine lv_aload_n hx hb dX12_findPlan_20 rfl (lv_at hl 2 rfl) ?_
  refine z_geti hx hb hts (z_memU u12) hown hK.1 hS f12_10 (by decide) (zkd_of (rfl : zcd wR 0 = 50) rfl) (Or.inl (hts _ (z_mem k954))) dX12_findPlan_21 ?_
  refine z_top (show M 0 10 = 0 from by rw [g0]) ?_
  refine z_imul hx hb dX12_findPlan_24 ?_
  refine z_top (show ((64 * 0) : Int) = 0 from (by decide)) ?_
  refine lv_iload_n hx hb dX12_findPlan_25 rfl (lv_at hl 0 rfl) ?_
  refine z_iadd hx hb dX12_findPlan_26 ?_
  refine z_top (show ((0 + 0) : Int) = 0 from (by decide)) ?_
  refine lv_iload_n hx hb dX12_findPlan_27 rfl (lv_at hl 0 rfl) ?_
  refine z_if_ne (tgt := 35) hx hb (by decide) dX12_findPlan_28 (by decide) (fun c5 => absurd c5 (by decide)) (fun c5 => ?_)
  refine z_iconst hx hb dX12_findPlan_31 ?_
  refine lv_goto (tgt := 38) hx hb dX12_findPlan_32 (by decide) ?_
  refine z_iast (n := 320) hx hb hK.1 (t0 := 0) rfl hS hS0 (by decide) (zkd_of (rfl : zcd wR 28 = 78) rfl) (zln_of (rfl : zcd wR 28 = 78) rfl) (by decide) (by decide) (by decide) (zbd_in (rfl : zcd wR 28 = 78) rfl (by decide)) (zms_of (rfl : zcd wR 28 = 78) rfl) dX12_findPlan_38 (fun H locs hS hS0 => ?_)
  obtain ⟨M6, e7⟩ : ∃ M6 : zM, M6 = zup M 28 ((0 : Int).toNat) 0 := ⟨_, rfl⟩
  rw [← e7] at hS
  have J8 := hS.2.1
  refine z_iinc (lv' := [(2, .int (iI (0 + 1))), (1, .int (iI 1)), (0, .ref (b + 0))]) hx hb dX12_findPlan_39 hl (k := 0) rfl (by decide) rfl (fun ls hl => ?_)
  rw [show ((0 + 1) : Int) = 1 from by decide] at hl
  refine lv_goto (tgt := 9) hx hb dX12_findPlan_42 (by decide) ?_
  refine lv_iload_n hx hb dX12_findPlan_9 rfl (lv_at hl 0 rfl) ?_
  refine lv_iload_n hx hb dX12_findPlan_10 rfl (lv_at hl 1 rfl) ?_
  refine z_icmp_ge (tgt := 45) hx hb (by decide) (by decide) dX12_findPlan_11 (by decide) (fun c9 => ?_) (fun c9 => absurd c9 (by decide))
  refine lv_aload_n hx hb dX12_findPlan_45 rfl (lv_at hl 2 rfl) ?_
  refine z_geti hx hb hts (z_memU u12) hown hK.1 hS f12_10 (by decide) (zkd_of (rfl : zcd wR 0 = 50) rfl) (Or.inl (hts _ (z_mem k954))) dX12_findPlan_46 ?_
  refine z_top (show M6 0 10 = 0 from by rw [e7, zup_n _ _ (by omega), g0]) ?_
  refine z_iconst hx hb dX12_findPlan_49 ?_
  refine z_isub hx hb dX12_findPlan_50 ?_
  refine z_top (show ((0 - 1) : Int) = (-1) from (by decide)) ?_
  refine lv_istore_n (lv' := [(2, .int (iI (-1))), (1, .int (iI 1)), (0, .ref (b + 0))]) hx hb dX12_findPlan_51 rfl hl (by decide) rfl (fun ls hl => ?_)
  refine lv_iload_n hx hb dX12_findPlan_52 rfl (lv_at hl 0 rfl) ?_
  refine z_if_lt (tgt := 232) hx hb (by decide) dX12_findPlan_53 (by decide) (fun c10 => ?_) (fun c10 => absurd c10 (by decide))
  refine lv_aload_n hx hb dX12_findPlan_232 rfl (lv_at hl 2 rfl) ?_
  refine z_getr (j2 := 28) hx hb hts (z_memU u12) hown hK.1 hS f12_43 (by decide) (zkd_of (rfl : zcd wR 0 = 50) rfl) (zrf_of (rfl : zcd wR 0 = 50) rfl) (Or.inl (hts _ (z_mem k987))) dX12_findPlan_233 ?_
  refine lv_iload_n hx hb dX12_findPlan_236 rfl (lv_at hl 1 rfl) ?_
  refine z_iconst hx hb dX12_findPlan_237 ?_
  refine z_isub hx hb dX12_findPlan_238 ?_
  refine z_top (show ((1 - 1) : Int) = 0 from (by decide)) ?_
  refine z_iald (n := 320) hx hb hK.1 (t0 := 0) rfl hS (by decide) (zkd_of (rfl : zcd wR 28 = 78) rfl) (zln_of (rfl : zcd wR 28 = 78) rfl) (by decide) (by decide) (by decide) dX12_findPlan_239 ?_
  refine z_top (show M6 28 ((0 : Int).toNat) = 0 from by rw [e7, zup_s]) ?_
  refine lv_istore_n (lv' := [(2, .int (iI 0)), (1, .int (iI 1)), (0, .ref (b + 0))]) hx hb dX12_findPlan_240 rfl hl (by decide) rfl (fun ls hl => ?_)
  refine lv_iload_n hx hb dX12_findPlan_241 rfl (lv_at hl 0 rfl) ?_
  refine z_ldcw (n := 268435456) hx hb hown (hts _ (z_mem k1229)) (by decide) dX12_findPlan_242 ?_
  refine z_icmp_lt (tgt := 250) hx hb (by decide) (by decide) dX12_findPlan_245 (by decide) (fun c11 => ?_) (fun c11 => absurd c11 (by decide))
  refine lv_iload_n hx hb dX12_findPlan_250 rfl (lv_at hl 1 rfl) ?_
  refine z_iconst hx hb dX12_findPlan_251 ?_
  refine z_isub hx hb dX12_findPlan_252 ?_
  refine z_top (show ((1 - 1) : Int) = 0 from (by decide)) ?_
  refine lv_istore_n (lv' := [(3, .int (iI 0)), (2, .int (iI 0)), (1, .int (iI 1)), (0, .ref (b + 0))]) hx hb dX12_findPlan_253 rfl hl (by decide) rfl (fun ls hl => ?_)
  refine z_iconst hx hb dX12_findPlan_254 ?_
  refine lv_istore (lv' := [(4, .int (iI 0)), (3, .int (iI 0)), (2, .int (iI 0)), (1, .int (iI 1)), (0, .ref (b + 0))]) hx hb dX12_findPlan_255 hl (by decide) rfl (fun ls hl => ?_)
  refine lv_iload hx hb dX12_findPlan_257 (lv_at hl 0 rfl) ?_
  refine lv_aload_n hx hb dX12_findPlan_259 rfl (lv_at hl 4 rfl) ?_
  refine z_geti hx hb hts (z_memU u12) hown hK.1 hS f12_10 (by decide) (zkd_of (rfl : zcd wR 0 = 50) rfl) (Or.inl (hts _ (z_mem k954))) dX12_findPlan_260 ?_
  refine z_top (show M6 0 10 = 0 from by rw [e7, zup_n _ _ (by omega), g0]) ?_
  refine z_icmp_ge (tgt := 429) hx hb (by decide) (by decide) dX12_findPlan_263 (by decide) (fun c12 => ?_) (fun c12 => absurd c12 (by decide))
  refine lv_aload_n hx hb dX12_findPlan_429 rfl (lv_at hl 4 rfl) ?_
  refine z_iconst hx hb dX12_findPlan_430 ?_
  refine lv_aload_n hx hb dX12_findPlan_431 rfl (lv_at hl 4 rfl) ?_
  refine z_geti hx hb hts (z_memU u12) hown hK.1 hS f12_10 (by decide) (zkd_of (rfl : zcd wR 0 = 50) rfl) (Or.inl (hts _ (z_mem k954))) dX12_findPlan_432 ?_
  refine z_top (show M6 0 10 = 0 from by rw [e7, zup_n _ _ (by omega), g0]) ?_
  refine z_imul hx hb dX12_findPlan_435 ?_
  refine z_top (show ((2 * 0) : Int) = 0 from (by decide)) ?_
  refine z_puti hx hb hts (z_memU u12) tyX12 tyX12_ok nmX12 hown hK.1 hS hS0 f12_34 (by decide) (zkd_of (rfl : zcd wR 0 = 50) rfl) (Or.inl (hts _ (z_mem k978))) rfl (z := 0) (by decide +kernel) (zbd_in (rfl : zcd wR 0 = 50) rfl (by decide)) (zms_of (rfl : zcd wR 0 = 50) rfl) dX12_findPlan_436 (fun H locs hS hS0 => ?_)
  obtain ⟨M13, e14⟩ : ∃ M13 : zM, M13 = zup M6 0 34 0 := ⟨_, rfl⟩
  rw [← e14] at hS
  have J15 := hS.2.1
  refine lv_iload_n hx hb dX12_findPlan_439 rfl (lv_at hl 2 rfl) ?_
  exact z_iret hx hb hr hlocks hS hS0 (by decide) (by first | exact trivial | exact ⟨rfl, trivial⟩ | omega | (refine ⟨by omega, trivial⟩)) dX12_findPlan_440

set_option maxHeartbeats 4000000 in
set_option maxRecDepth 100000 in
theorem m_plan (l : Launch) (D : va_G) (dA : Nat → ClassId) (b : Nat) (M : zM) (g0 : M 0 10 = 0) (g1 : M 0 16 = 0) : Met l yX12_plan (.code yX12_plan cX12_plan 1 (some .int) :: zt) (z_rm 1) (va_Pc [.ref (b + 0)] (zP D dA vwCl (z_tys dA) wR nR b M)) (va_Qi (zQi wR (zms wR [3235, 3234, 5055]) M (fun z M1 => z = 0 ∧ True)) (zB D dA vwCl wR nR b) (zA nR b)) 0 0 (zA nR b) := by
  refine Met.ofW (cc := cX12_plan) (maxL := 1) (ret := (some .int)) (by decide) rfl ?_
  intro p e s m args below meth c s₁ B hml hv
  obtain ⟨hargs, hR0, hJ, hK⟩ := hv
  have hx := B.exec
  have hb := B.bytes
  have hr := B.returns
  have hts := atoms_spec (ws := .code yX12_plan cX12_plan 1 (some .int) :: zt) B.pre
  have hown : s.vm.findClass RX12 = some m.cls := findClass_of_methodNamed B.named
  have hlocks := B.notSynchronized
  have hS : zS D dA vwCl wR nR b (zms wR [3235, 3234, 5055]) M M s.heap := ⟨hR0, hJ, zF_rf _ _⟩
  have hS0 : va_S (zA nR b) s.heap s.heap [] := va_S.rf
  have hl := lv_entry ([.ref (b + 0)]) (n := 1) (Nat.le_of_ble_eq_true rfl)
  have hent : entryFrame m args 1 = F0 m 0 ((lg_sl ([.ref (b + 0)]) ++ List.replicate (1 - (lg_sl ([.ref (b + 0)])).length) Slot.unset).toArray) [] := by rw [hargs]; exact lg_entry_eq m ([.ref (b + 0)]) 1
  rw [hent]
  generalize (lg_sl ([.ref (b + 0)]) ++ List.replicate (1 - (lg_sl ([.ref (b + 0)])).length) Slot.unset).toArray = ls at hl ⊢
  have hl : lv_has ls 1 [(0, .ref (b + 0))] := hl
  refine lv_aload_n hx hb dX12_plan_0 rfl (lv_at hl 0 rfl) ?_
  refine z_iconst hx hb dX12_plan_1 ?_
  refine z_puti hx hb hts (z_memU u12) tyX12 tyX12_ok nmX12 hown hK.1 hS hS0 f12_35 (by decide) (zkd_of (rfl : zcd wR 0 = 50) rfl) (Or.inl (hts _ (z_mem k979))) rfl (z := 0) (by decide +kernel) (zbd_in (rfl : zcd wR 0 = 50) rfl (by decide)) (zms_of (rfl : zcd wR 0 = 50) rfl) dX12_plan_2 (fun H locs hS hS0 => ?_)
  obtain ⟨M1, e2⟩ : ∃ M1 : zM, M1 = zup M 0 35 0 := ⟨_, rfl⟩
  rw [← e2] at hS
  have J3 := hS.2.1
  refine lv_aload_n hx hb dX12_plan_5 rfl (lv_at hl 0 rfl) ?_
  refine z_calli (va_runV (As := []) (rest := []) ⟨hx, hb, hml, hown, hts⟩ (m_findPlan l D dA b M1 (by rw [e2, zup_n _ _ (by omega), g0]) (by rw [e2, zup_n _ _ (by omega), g1])) (cwV 0 hts (z_gV k1226 k1227 k1416 k14 k1228) rfl rfl rfl dm_X12_findPlan ⟨Nat.le_of_ble_eq_true rfl, Nat.le_of_ble_eq_true rfl⟩) ⟨zP_blind, (z_recv hS hK.1 (by decide) (zkd_of (rfl : zcd wR 0 = 50) rfl) (by decide) (rfl : vwCl[12]? = some (RX12, TX12, 50))), z_pre hS hK⟩ rfl rfl hl.1 rfl (lv_room (Nat.le_of_ble_eq_true rfl)) dX12_plan_6 ⟨Nat.le_refl _, Nat.le_refl _⟩) hS hS0 (zms_sub rfl) (fun z8 M4 H locs r9 h5 F6 hS hS0 => ?_)
  have J7 := hS.2.1
  have h10 := h5
  obtain ⟨z8e, h10⟩ := h10
  subst z8e
  exact z_iret hx hb hr hlocks hS hS0 (by decide) (by first | exact trivial | exact ⟨rfl, trivial⟩ | omega | (refine ⟨by omega, trivial⟩)) dX12_plan_9

set_option maxHeartbeats 4000000 in
set_option maxRecDepth 100000 in
theorem m_make (l : Launch) (D : va_G) (dA : Nat → ClassId) (b : Nat) (M : zM) (g0 : M 0 10 = 0) (g1 : M 0 16 = 0) : Met l yX12_make (.code yX12_make cX12_make 3 (some .int) :: zt) (z_rm 1) (va_Pc [.ref (b + 0)] (zP D dA vwCl (z_tys dA) wR nR b M)) (va_Qi (zQi wR (zms wR [3235, 3234, 5055]) M (fun z M1 => z = 0 ∧ True)) (zB D dA vwCl wR nR b) (zA nR b)) 0 0 (zA nR b) := by
  refine Met.ofW (cc := cX12_make) (maxL := 3) (ret := (some .int)) (by decide) rfl ?_
  intro p e s m args below meth c s₁ B hml hv
  obtain ⟨hargs, hR0, hJ, hK⟩ := hv
  have hx := B.exec
  have hb := B.bytes
  have hr := B.returns
  have hts := atoms_spec (ws := .code yX12_make cX12_make 3 (some .int) :: zt) B.pre
  have hown : s.vm.findClass RX12 = some m.cls := findClass_of_methodNamed B.named
  have hlocks := B.notSynchronized
  have hS : zS D dA vwCl wR nR b (zms wR [3235, 3234, 5055]) M M s.heap := ⟨hR0, hJ, zF_rf _ _⟩
  have hS0 : va_S (zA nR b) s.heap s.heap [] := va_S.rf
  have hl := lv_entry ([.ref (b + 0)]) (n := 3) (Nat.le_of_ble_eq_true rfl)
  have hent : entryFrame m args 3 = F0 m 0 ((lg_sl ([.ref (b + 0)]) ++ List.replicate (3 - (lg_sl ([.ref (b + 0)])).length) Slot.unset).toArray) [] := by rw [hargs]; exact lg_entry_eq m ([.ref (b + 0)]) 3
  rw [hent]
  generalize (lg_sl ([.ref (b + 0)]) ++ List.replicate (3 - (lg_sl ([.ref (b + 0)])).length) Slot.unset).toArray = ls at hl ⊢
  have hl : lv_has ls 3 [(0, .ref (b + 0))] := hl
  refine lv_aload_n hx hb dX12_make_0 rfl (lv_at hl 0 rfl) ?_
  refine z_iconst hx hb dX12_make_1 ?_
  refine z_puti hx hb hts (z_memU u12) tyX12 tyX12_ok nmX12 hown hK.1 hS hS0 f12_35 (by decide) (zkd_of (rfl : zcd wR 0 = 50) rfl) (Or.inl (hts _ (z_mem k979))) rfl (z := 0) (by decide +kernel) (zbd_in (rfl : zcd wR 0 = 50) rfl (by decide)) (zms_of (rfl : zcd wR 0 = 50) rfl) dX12_make_2 (fun H locs hS hS0 => ?_)
  obtain ⟨M1, e2⟩ : ∃ M1 : zM, M1 = zup M 0 35 0 := ⟨_, rfl⟩
  rw [← e2] at hS
  have J3 := hS.2.1
  refine lv_aload_n hx hb dX12_make_5 rfl (lv_at hl 0 rfl) ?_
  refine z_calli (va_runV (As := []) (rest := []) ⟨hx, hb, hml, hown, hts⟩ (m_findPlan l D dA b M1 (by rw [e2, zup_n _ _ (by omega), g0]) (by rw [e2, zup_n _ _ (by omega), g1])) (cwV 0 hts (z_gV k1226 k1227 k1416 k14 k1228) rfl rfl rfl dm_X12_findPlan ⟨Nat.le_of_ble_eq_true rfl, Nat.le_of_ble_eq_true rfl⟩) ⟨zP_blind, (z_recv hS hK.1 (by decide) (zkd_of (rfl : zcd wR 0 = 50) rfl) (by decide) (rfl : vwCl[12]? = some (RX12, TX12, 50))), z_pre hS hK⟩ rfl rfl hl.1 rfl (lv_room (Nat.le_of_ble_eq_true rfl)) dX12_make_6 ⟨Nat.le_refl _, Nat.le_refl _⟩) hS hS0 (zms_sub rfl) (fun z8 M4 H locs r9 h5 F6 hS hS0 => ?_)
  have J7 := hS.2.1
  have h10 := h5
  obtain ⟨z8e, h10⟩ := h10
  subst z8e
  refine lv_istore_n (lv' := [(1, .int (iI 0)), (0, .ref (b + 0))]) hx hb dX12_make_9 rfl hl (by decide) rfl (fun ls hl => ?_)
  refine z_iconst hx hb dX12_make_10 ?_
  refine lv_istore_n (lv' := [(2, .int (iI 0)), (1, .int (iI 0)), (0, .ref (b + 0))]) hx hb dX12_make_11 rfl hl (by decide) rfl (fun ls hl => ?_)
  refine lv_iload_n hx hb dX12_make_12 rfl (lv_at hl 0 rfl) ?_
  refine lv_aload_n hx hb dX12_make_13 rfl (lv_at hl 2 rfl) ?_
  refine z_geti hx hb hts (z_memU u12) hown hK.1 hS f12_10 (by decide) (zkd_of (rfl : zcd wR 0 = 50) rfl) (Or.inl (hts _ (z_mem k954))) dX12_make_14 ?_
  refine z_top (show M4 0 10 = 0 from by rw [F6 _ _ (zms_not (rfl : zcd wR 0 = 50) rfl), e2, zup_n _ _ (by omega), g0]) ?_
  refine z_icmp_ge (tgt := 64) hx hb (by decide) (by decide) dX12_make_17 (by decide) (fun c11 => ?_) (fun c11 => absurd c11 (by decide))
  refine lv_iload_n hx hb dX12_make_64 rfl (lv_at hl 1 rfl) ?_
  exact z_iret hx hb hr hlocks hS hS0 (by decide) (by first | exact trivial | exact ⟨rfl, trivial⟩ | omega | (refine ⟨by omega, trivial⟩)) dX12_make_65

set_option maxHeartbeats 4000000 in
set_option maxRecDepth 100000 in
theorem m_cut (l : Launch) (D : va_G) (dA : Nat → ClassId) (b : Nat) (M : zM) (rg : Int) (cu : Int) (r_rg : R32 rg) (r_cu : R32 cu) (g0 : M 0 10 = 0) : Met l yX12_cut (.code yX12_cut cX12_cut 3 (some .int) :: zt) (z_rm 2) (va_Pc [.ref (b + 0), .int (iI rg), .int (iI cu)] (zP D dA vwCl (z_tys dA) wR nR b M)) (va_Qi (zQi wR (zms wR [3235]) M (fun z M1 => z = -1 ∧ True)) (zB D dA vwCl wR nR b) (zA nR b)) 0 0 (zA nR b) := by
  refine Met.ofW (cc := cX12_cut) (maxL := 3) (ret := (some .int)) (by decide) rfl ?_
  intro p e s m args below meth c s₁ B hml hv
  obtain ⟨hargs, hR0, hJ, hK⟩ := hv
  have hx := B.exec
  have hb := B.bytes
  have hr := B.returns
  have hts := atoms_spec (ws := .code yX12_cut cX12_cut 3 (some .int) :: zt) B.pre
  have hown : s.vm.findClass RX12 = some m.cls := findClass_of_methodNamed B.named
  have hlocks := B.notSynchronized
  have hS : zS D dA vwCl wR nR b (zms wR [3235]) M M s.heap := ⟨hR0, hJ, zF_rf _ _⟩
  have hS0 : va_S (zA nR b) s.heap s.heap [] := va_S.rf
  have hl := lv_entry ([.ref (b + 0), .int (iI rg), .int (iI cu)]) (n := 3) (Nat.le_of_ble_eq_true rfl)
  have hent : entryFrame m args 3 = F0 m 0 ((lg_sl ([.ref (b + 0), .int (iI rg), .int (iI cu)]) ++ List.replicate (3 - (lg_sl ([.ref (b + 0), .int (iI rg), .int (iI cu)])).length) Slot.unset).toArray) [] := by rw [hargs]; exact lg_entry_eq m ([.ref (b + 0), .int (iI rg), .int (iI cu)]) 3
  rw [hent]
  generalize (lg_sl ([.ref (b + 0), .int (iI rg), .int (iI cu)]) ++ List.replicate (3 - (lg_sl ([.ref (b + 0), .int (iI rg), .int (iI cu)])).length) Slot.unset).toArray = ls at hl ⊢
  have hl : lv_has ls 3 [(0, .ref (b + 0)), (1, .int (iI rg)), (2, .int (iI cu))] := hl
  refine lv_aload_n hx hb dX12_cut_0 rfl (lv_at hl 0 rfl) ?_
  refine z_iconst hx hb dX12_cut_1 ?_
  refine z_puti hx hb hts (z_memU u12) tyX12 tyX12_ok nmX12 hown hK.1 hS hS0 f12_35 (by decide) (zkd_of (rfl : zcd wR 0 = 50) rfl) (Or.inl (hts _ (z_mem k979))) rfl (z := 0) (by decide +kernel) (zbd_in (rfl : zcd wR 0 = 50) rfl (by decide)) (zms_of (rfl : zcd wR 0 = 50) rfl) dX12_cut_2 (fun H locs hS hS0 => ?_)
  obtain ⟨M1, e2⟩ : ∃ M1 : zM, M1 = zup M 0 35 0 := ⟨_, rfl⟩
  rw [← e2] at hS
  have J3 := hS.2.1
  refine lv_aload_n hx hb dX12_cut_5 rfl (lv_at hl 0 rfl) ?_
  refine lv_iload_n hx hb dX12_cut_6 rfl (lv_at hl 1 rfl) ?_
  refine z_calli (va_runV (As := [.int (iI rg)]) (rest := []) ⟨hx, hb, hml, hown, hts⟩ (m_isRing l D dA b M1 rg r_rg (by rw [e2, zup_n _ _ (by omega), g0])) (cwV 1 hts (z_gV k1101 k1102 k1401 k14 k1103) rfl rfl rfl dm_X12_isRing ⟨Nat.le_of_ble_eq_true rfl, Nat.le_of_ble_eq_true rfl⟩) ⟨zP_blind, (z_recv hS hK.1 (by decide) (zkd_of (rfl : zcd wR 0 = 50) rfl) (by decide) (rfl : vwCl[12]? = some (RX12, TX12, 50))), z_pre hS hK⟩ rfl rfl hl.1 rfl (lv_room (Nat.le_of_ble_eq_true rfl)) dX12_cut_7 ⟨Nat.le_refl _, Nat.le_refl _⟩) hS hS0 (zms_sub rfl) (fun z8 M4 H locs r9 h5 F6 hS hS0 => ?_)
  obtain ⟨h10, h5⟩ := h5
  rw [h10] at hS
  have h11 := h5
  obtain ⟨z8e, h11⟩ := h11
  subst z8e
  refine z_if_eq (tgt := 29) hx hb (by decide) dX12_cut_10 (by decide) (fun c12 => ?_) (fun c12 => absurd c12 (by decide))
  refine z_iconst hx hb dX12_cut_29 ?_
  exact z_iret hx hb hr hlocks hS hS0 (by decide) (by first | exact trivial | exact ⟨rfl, trivial⟩ | omega | (refine ⟨by omega, trivial⟩)) dX12_cut_30

set_option maxHeartbeats 4000000 in
set_option maxRecDepth 100000 in
theorem m_weight (l : Launch) (D : va_G) (dA : Nat → ClassId) (b : Nat) (M : zM) (sd : Int) (v : Int) (r_sd : R32 sd) (r_v : R32 v) (a0 : ∀ k : Nat, 1 ≤ k → k < 10 → M 14 k = 100) : Met l yX12_weight (.code yX12_weight cX12_weight 4 (some .int) :: zt) (z_rm 1) (va_Pc [.ref (b + 0), .int (iI sd), .int (iI v)] (zP D dA vwCl (z_tys dA) wR nR b M)) (va_Qi (zQi wR (zms wR [3235, 4159]) M (fun z M1 => ((1 ≤ sd ∧ sd ≤ 9) ∧ (0 ≤ v ∧ v ≤ 200) ∧ z = 100) ∨ (¬ ((1 ≤ sd ∧ sd ≤ 9) ∧ 0 ≤ v ∧ v ≤ 200) ∧ z = -1))) (zB D dA vwCl wR nR b) (zA nR b)) 0 0 (zA nR b) := by
  refine Met.ofW (cc := cX12_weight) (maxL := 4) (ret := (some .int)) (by decide) rfl ?_
  intro p e s m args below meth c s₁ B hml hv
  obtain ⟨hargs, hR0, hJ, hK⟩ := hv
  have hx := B.exec
  have hb := B.bytes
  have hr := B.returns
  have hts := atoms_spec (ws := .code yX12_weight cX12_weight 4 (some .int) :: zt) B.pre
  have hown : s.vm.findClass RX12 = some m.cls := findClass_of_methodNamed B.named
  have hlocks := B.notSynchronized
  have hS : zS D dA vwCl wR nR b (zms wR [3235, 4159]) M M s.heap := ⟨hR0, hJ, zF_rf _ _⟩
  have hS0 : va_S (zA nR b) s.heap s.heap [] := va_S.rf
  have hl := lv_entry ([.ref (b + 0), .int (iI sd), .int (iI v)]) (n := 4) (Nat.le_of_ble_eq_true rfl)
  have hent : entryFrame m args 4 = F0 m 0 ((lg_sl ([.ref (b + 0), .int (iI sd), .int (iI v)]) ++ List.replicate (4 - (lg_sl ([.ref (b + 0), .int (iI sd), .int (iI v)])).length) Slot.unset).toArray) [] := by rw [hargs]; exact lg_entry_eq m ([.ref (b + 0), .int (iI sd), .int (iI v)]) 4
  rw [hent]
  generalize (lg_sl ([.ref (b + 0), .int (iI sd), .int (iI v)]) ++ List.replicate (4 - (lg_sl ([.ref (b + 0), .int (iI sd), .int (iI v)])).length) Slot.unset).toArray = ls at hl ⊢
  have hl : lv_has ls 4 [(0, .ref (b + 0)), (1, .int (iI sd)), (2, .int (iI v))] := hl
  refine lv_aload_n hx hb dX12_weight_0 rfl (lv_at hl 0 rfl) ?_
  refine z_iconst hx hb dX12_weight_1 ?_
  refine z_puti hx hb hts (z_memU u12) tyX12 tyX12_ok nmX12 hown hK.1 hS hS0 f12_35 (by decide) (zkd_of (rfl : zcd wR 0 = 50) rfl) (Or.inl (hts _ (z_mem k979))) rfl (z := 0) (by decide +kernel) (zbd_in (rfl : zcd wR 0 = 50) rfl (by decide)) (zms_of (rfl : zcd wR 0 = 50) rfl) dX12_weight_2 (fun H locs hS hS0 => ?_)
  obtain ⟨M1, e2⟩ : ∃ M1 : zM, M1 = zup M 0 35 0 := ⟨_, rfl⟩
  rw [← e2] at hS
  have J3 := hS.2.1
  refine lv_iload_n hx hb dX12_weight_5 rfl (lv_at hl 1 rfl) ?_
  refine z_iconst hx hb dX12_weight_6 ?_
  refine z_bipush hx hb (by decide) dX12_weight_7 ?_
  refine z_calli (va_runS (As := [.int (iI sd), .int (iI 1), .int (iI 9)]) (rest := []) ⟨hx, hb, hml, hown, hts⟩ (m_in l D dA b M1 sd 1 9 r_sd (by decide) (by decide)) (va_cwS 3 hts (z_gS k1087 k1088 k14 k1089) rfl rfl rfl dm_X12_in.2 ⟨Nat.le_of_ble_eq_true rfl, Nat.le_of_ble_eq_true rfl⟩) ⟨zP_blind, z_pre hS hK⟩ rfl rfl hl.1 rfl (lv_room (Nat.le_of_ble_eq_true rfl)) dX12_weight_9 ⟨Nat.le_refl _, Nat.le_refl _⟩) hS hS0 (zms_sub rfl) (fun z8 M4 H locs r9 h5 F6 hS hS0 => ?_)
  obtain ⟨h10, h5⟩ := h5
  rw [h10] at hS
  rcases h5 with h11 | h12
  · skip
    obtain ⟨z8e, h11⟩ := h11
    subst z8e
    refine z_if_eq (tgt := 26) hx hb (by decide) dX12_weight_12 (by decide) (fun c13 => absurd c13 (by decide)) (fun c13 => ?_)
    refine lv_iload_n hx hb dX12_weight_15 rfl (lv_at hl 2 rfl) ?_
    refine z_iconst hx hb dX12_weight_16 ?_
    refine z_sipush hx hb (by decide) dX12_weight_17 ?_
    refine z_calli (va_runS (As := [.int (iI v), .int (iI 0), .int (iI 200)]) (rest := []) ⟨hx, hb, hml, hown, hts⟩ (m_in l D dA b M1 v 0 200 r_v (by decide) (by decide)) (va_cwS 3 hts (z_gS k1087 k1088 k14 k1089) rfl rfl rfl dm_X12_in.2 ⟨Nat.le_of_ble_eq_true rfl, Nat.le_of_ble_eq_true rfl⟩) ⟨zP_blind, z_pre hS hK⟩ rfl rfl hl.1 rfl (lv_room (Nat.le_of_ble_eq_true rfl)) dX12_weight_20 ⟨Nat.le_refl _, Nat.le_refl _⟩) hS hS0 (zms_sub rfl) (fun z18 M14 H locs r19 h15 F16 hS hS0 => ?_)
    obtain ⟨h20, h15⟩ := h15
    rw [h20] at hS
    rcases h15 with h21 | h22
    · skip
      obtain ⟨z18e, h21⟩ := h21
      subst z18e
      refine z_if_ne (tgt := 28) hx hb (by decide) dX12_weight_23 (by decide) (fun c23 => ?_) (fun c23 => absurd c23 (by decide))
      refine lv_aload_n hx hb dX12_weight_28 rfl (lv_at hl 0 rfl) ?_
      refine z_getr (j2 := 14) hx hb hts (z_memU u12) hown hK.1 hS f12_17 (by decide) (zkd_of (rfl : zcd wR 0 = 50) rfl) (zrf_of (rfl : zcd wR 0 = 50) rfl) (Or.inl (hts _ (z_mem k961))) dX12_weight_29 ?_
      refine lv_iload_n hx hb dX12_weight_32 rfl (lv_at hl 1 rfl) ?_
      refine z_iald (n := 10) hx hb hK.1 (t0 := 0) rfl hS (by decide) (zkd_of (rfl : zcd wR 14 = 64) rfl) (zln_of (rfl : zcd wR 14 = 64) rfl) (by omega) (by omega) (by decide) dX12_weight_33 ?_
      refine z_top (show M1 14 (sd.toNat) = 100 from by rw [e2, zup_n _ _ (by omega), a0 _ (by omega) (by omega)]) ?_
      refine lv_istore_n (lv' := [(3, .int (iI 100)), (0, .ref (b + 0)), (1, .int (iI sd)), (2, .int (iI v))]) hx hb dX12_weight_34 rfl hl (by decide) rfl (fun ls hl => ?_)
      refine lv_aload_n hx hb dX12_weight_35 rfl (lv_at hl 1 rfl) ?_
      refine z_getr (j2 := 14) hx hb hts (z_memU u12) hown hK.1 hS f12_17 (by decide) (zkd_of (rfl : zcd wR 0 = 50) rfl) (zrf_of (rfl : zcd wR 0 = 50) rfl) (Or.inl (hts _ (z_mem k961))) dX12_weight_36 ?_
      refine lv_iload_n hx hb dX12_weight_39 rfl (lv_at hl 2 rfl) ?_
      refine lv_iload_n hx hb dX12_weight_40 rfl (lv_at hl 3 rfl) ?_
      refine z_iast (n := 10) hx hb hK.1 (t0 := 0) rfl hS hS0 (by decide) (zkd_of (rfl : zcd wR 14 = 64) rfl) (zln_of (rfl : zcd wR 14 = 64) rfl) (by omega) (by omega) (by decide) (zbd_in (rfl : zcd wR 14 = 64) rfl ⟨by omega, by omega⟩) (zms_of (rfl : zcd wR 14 = 64) rfl) dX12_weight_41 (fun H locs hS hS0 => ?_)
      obtain ⟨M24, e25⟩ : ∃ M24 : zM, M24 = zup M1 14 (sd.toNat) v := ⟨_, rfl⟩
      rw [← e25] at hS
      have J26 := hS.2.1
      refine lv_iload_n hx hb dX12_weight_42 rfl (lv_at hl 0 rfl) ?_
      exact z_iret hx hb hr hlocks hS hS0 (by decide) (by first | exact trivial | exact ⟨rfl, trivial⟩ | omega | (refine ⟨by omega, trivial⟩)) dX12_weight_43
    · skip
      obtain ⟨z18e, h22⟩ := h22
      subst z18e
      refine z_if_ne (tgt := 28) hx hb (by decide) dX12_weight_23 (by decide) (fun c27 => absurd c27 (by decide)) (fun c27 => ?_)
      refine z_iconst hx hb dX12_weight_26 ?_
      exact z_iret hx hb hr hlocks hS hS0 (by decide) (by first | exact trivial | exact ⟨rfl, trivial⟩ | omega | (refine ⟨by omega, trivial⟩)) dX12_weight_27
  · skip
    obtain ⟨z8e, h12⟩ := h12
    subst z8e
    refine z_if_eq (tgt := 26) hx hb (by decide) dX12_weight_12 (by decide) (fun c28 => ?_) (fun c28 => absurd c28 (by decide))
    refine z_iconst hx hb dX12_weight_26 ?_
    exact z_iret hx hb hr hlocks hS hS0 (by decide) (by first | exact trivial | exact ⟨rfl, trivial⟩ | omega | (refine ⟨by omega, trivial⟩)) dX12_weight_27

set_option maxHeartbeats 4000000 in
set_option maxRecDepth 100000 in
theorem m_heads (l : Launch) (D : va_G) (dA : Nat → ClassId) (b : Nat) (M : zM) (d : Int) (a : Int) (ed : Int) (bg : Int) (r_d : R32 d) (r_a : R32 a) (r_ed : R32 ed) (r_bg : R32 bg) : Met l yX12_heads (.code yX12_heads cX12_heads 5 (some .boolean) :: zt) (z_rm 1) (va_Pc [.ref (b + 0), .int (iI d), .int (iI a), .int (iI ed), .int (iI bg)] (zP D dA vwCl (z_tys dA) wR nR b M)) (va_Qi (zQi wR (zms wR [3235, 3218, 3219, 3220, 3221]) M (fun z M1 => ((1 ≤ d ∧ d ≤ 20 ∧ 0 ≤ a ∧ a ≤ 100 ∧ 1 ≤ ed ∧ ed ≤ 20 ∧ 0 ≤ bg ∧ bg ≤ 100) ∧ z = 1) ∨ (¬ (1 ≤ d ∧ d ≤ 20 ∧ 0 ≤ a ∧ a ≤ 100 ∧ 1 ≤ ed ∧ ed ≤ 20 ∧ 0 ≤ bg ∧ bg ≤ 100) ∧ z = 0))) (zB D dA vwCl wR nR b) (zA nR b)) 0 0 (zA nR b) := by
  refine Met.ofW (cc := cX12_heads) (maxL := 5) (ret := (some .boolean)) (by decide) rfl ?_
  intro p e s m args below meth c s₁ B hml hv
  obtain ⟨hargs, hR0, hJ, hK⟩ := hv
  have hx := B.exec
  have hb := B.bytes
  have hr := B.returns
  have hts := atoms_spec (ws := .code yX12_heads cX12_heads 5 (some .boolean) :: zt) B.pre
  have hown : s.vm.findClass RX12 = some m.cls := findClass_of_methodNamed B.named
  have hlocks := B.notSynchronized
  have hS : zS D dA vwCl wR nR b (zms wR [3235, 3218, 3219, 3220, 3221]) M M s.heap := ⟨hR0, hJ, zF_rf _ _⟩
  have hS0 : va_S (zA nR b) s.heap s.heap [] := va_S.rf
  have hl := lv_entry ([.ref (b + 0), .int (iI d), .int (iI a), .int (iI ed), .int (iI bg)]) (n := 5) (Nat.le_of_ble_eq_true rfl)
  have hent : entryFrame m args 5 = F0 m 0 ((lg_sl ([.ref (b + 0), .int (iI d), .int (iI a), .int (iI ed), .int (iI bg)]) ++ List.replicate (5 - (lg_sl ([.ref (b + 0), .int (iI d), .int (iI a), .int (iI ed), .int (iI bg)])).length) Slot.unset).toArray) [] := by rw [hargs]; exact lg_entry_eq m ([.ref (b + 0), .int (iI d), .int (iI a), .int (iI ed), .int (iI bg)]) 5
  rw [hent]
  generalize (lg_sl ([.ref (b + 0), .int (iI d), .int (iI a), .int (iI ed), .int (iI bg)]) ++ List.replicate (5 - (lg_sl ([.ref (b + 0), .int (iI d), .int (iI a), .int (iI ed), .int (iI bg)])).length) Slot.unset).toArray = ls at hl ⊢
  have hl : lv_has ls 5 [(0, .ref (b + 0)), (1, .int (iI d)), (2, .int (iI a)), (3, .int (iI ed)), (4, .int (iI bg))] := hl
  refine lv_aload_n hx hb dX12_heads_0 rfl (lv_at hl 0 rfl) ?_
  refine z_iconst hx hb dX12_heads_1 ?_
  refine z_puti hx hb hts (z_memU u12) tyX12 tyX12_ok nmX12 hown hK.1 hS hS0 f12_35 (by decide) (zkd_of (rfl : zcd wR 0 = 50) rfl) (Or.inl (hts _ (z_mem k979))) rfl (z := 0) (by decide +kernel) (zbd_in (rfl : zcd wR 0 = 50) rfl (by decide)) (zms_of (rfl : zcd wR 0 = 50) rfl) dX12_heads_2 (fun H locs hS hS0 => ?_)
  obtain ⟨M1, e2⟩ : ∃ M1 : zM, M1 = zup M 0 35 0 := ⟨_, rfl⟩
  rw [← e2] at hS
  have J3 := hS.2.1
  refine lv_iload_n hx hb dX12_heads_5 rfl (lv_at hl 1 rfl) ?_
  refine z_iconst hx hb dX12_heads_6 ?_
  refine z_bipush hx hb (by decide) dX12_heads_7 ?_
  refine z_calli (va_runS (As := [.int (iI d), .int (iI 1), .int (iI 20)]) (rest := []) ⟨hx, hb, hml, hown, hts⟩ (m_in l D dA b M1 d 1 20 r_d (by decide) (by decide)) (va_cwS 3 hts (z_gS k1087 k1088 k14 k1089) rfl rfl rfl dm_X12_in.2 ⟨Nat.le_of_ble_eq_true rfl, Nat.le_of_ble_eq_true rfl⟩) ⟨zP_blind, z_pre hS hK⟩ rfl rfl hl.1 rfl (lv_room (Nat.le_of_ble_eq_true rfl)) dX12_heads_9 ⟨Nat.le_refl _, Nat.le_refl _⟩) hS hS0 (zms_sub rfl) (fun z8 M4 H locs r9 h5 F6 hS hS0 => ?_)
  obtain ⟨h10, h5⟩ := h5
  rw [h10] at hS
  rcases h5 with h11 | h12
  · skip
    obtain ⟨z8e, h11⟩ := h11
    subst z8e
    refine z_if_eq (tgt := 46) hx hb (by decide) dX12_heads_12 (by decide) (fun c13 => absurd c13 (by decide)) (fun c13 => ?_)
    refine lv_iload_n hx hb dX12_heads_15 rfl (lv_at hl 2 rfl) ?_
    refine z_iconst hx hb dX12_heads_16 ?_
    refine z_bipush hx hb (by decide) dX12_heads_17 ?_
    refine z_calli (va_runS (As := [.int (iI a), .int (iI 0), .int (iI 100)]) (rest := []) ⟨hx, hb, hml, hown, hts⟩ (m_in l D dA b M1 a 0 100 r_a (by decide) (by decide)) (va_cwS 3 hts (z_gS k1087 k1088 k14 k1089) rfl rfl rfl dm_X12_in.2 ⟨Nat.le_of_ble_eq_true rfl, Nat.le_of_ble_eq_true rfl⟩) ⟨zP_blind, z_pre hS hK⟩ rfl rfl hl.1 rfl (lv_room (Nat.le_of_ble_eq_true rfl)) dX12_heads_19 ⟨Nat.le_refl _, Nat.le_refl _⟩) hS hS0 (zms_sub rfl) (fun z18 M14 H locs r19 h15 F16 hS hS0 => ?_)
    obtain ⟨h20, h15⟩ := h15
    rw [h20] at hS
    rcases h15 with h21 | h22
    · skip
      obtain ⟨z18e, h21⟩ := h21
      subst z18e
      refine z_if_eq (tgt := 46) hx hb (by decide) dX12_heads_22 (by decide) (fun c23 => absurd c23 (by decide)) (fun c23 => ?_)
      refine lv_iload_n hx hb dX12_heads_25 rfl (lv_at hl 3 rfl) ?_
      refine z_iconst hx hb dX12_heads_26 ?_
      refine z_bipush hx hb (by decide) dX12_heads_27 ?_
      refine z_calli (va_runS (As := [.int (iI ed), .int (iI 1), .int (iI 20)]) (rest := []) ⟨hx, hb, hml, hown, hts⟩ (m_in l D dA b M1 ed 1 20 r_ed (by decide) (by decide)) (va_cwS 3 hts (z_gS k1087 k1088 k14 k1089) rfl rfl rfl dm_X12_in.2 ⟨Nat.le_of_ble_eq_true rfl, Nat.le_of_ble_eq_true rfl⟩) ⟨zP_blind, z_pre hS hK⟩ rfl rfl hl.1 rfl (lv_room (Nat.le_of_ble_eq_true rfl)) dX12_heads_29 ⟨Nat.le_refl _, Nat.le_refl _⟩) hS hS0 (zms_sub rfl) (fun z28 M24 H locs r29 h25 F26 hS hS0 => ?_)
      obtain ⟨h30, h25⟩ := h25
      rw [h30] at hS
      rcases h25 with h31 | h32
      · skip
        obtain ⟨z28e, h31⟩ := h31
        subst z28e
        refine z_if_eq (tgt := 46) hx hb (by decide) dX12_heads_32 (by decide) (fun c33 => absurd c33 (by decide)) (fun c33 => ?_)
        refine lv_iload hx hb dX12_heads_35 (lv_at hl 4 rfl) ?_
        refine z_iconst hx hb dX12_heads_37 ?_
        refine z_bipush hx hb (by decide) dX12_heads_38 ?_
        refine z_calli (va_runS (As := [.int (iI bg), .int (iI 0), .int (iI 100)]) (rest := []) ⟨hx, hb, hml, hown, hts⟩ (m_in l D dA b M1 bg 0 100 r_bg (by decide) (by decide)) (va_cwS 3 hts (z_gS k1087 k1088 k14 k1089) rfl rfl rfl dm_X12_in.2 ⟨Nat.le_of_ble_eq_true rfl, Nat.le_of_ble_eq_true rfl⟩) ⟨zP_blind, z_pre hS hK⟩ rfl rfl hl.1 rfl (lv_room (Nat.le_of_ble_eq_true rfl)) dX12_heads_40 ⟨Nat.le_refl _, Nat.le_refl _⟩) hS hS0 (zms_sub rfl) (fun z38 M34 H locs r39 h35 F36 hS hS0 => ?_)
        obtain ⟨h40, h35⟩ := h35
        rw [h40] at hS
        rcases h35 with h41 | h42
        · skip
          obtain ⟨z38e, h41⟩ := h41
          subst z38e
          refine z_if_ne (tgt := 48) hx hb (by decide) dX12_heads_43 (by decide) (fun c43 => ?_) (fun c43 => absurd c43 (by decide))
          refine lv_aload_n hx hb dX12_heads_48 rfl (lv_at hl 0 rfl) ?_
          refine lv_iload_n hx hb dX12_heads_49 rfl (lv_at hl 1 rfl) ?_
          refine z_puti hx hb hts (z_memU u12) tyX12 tyX12_ok nmX12 hown hK.1 hS hS0 f12_18 (by decide) (zkd_of (rfl : zcd wR 0 = 50) rfl) (Or.inl (hts _ (z_mem k962))) rfl (z := d) (by decide +kernel) (zbd_in (rfl : zcd wR 0 = 50) rfl ⟨by omega, by omega⟩) (zms_of (rfl : zcd wR 0 = 50) rfl) dX12_heads_50 (fun H locs hS hS0 => ?_)
          obtain ⟨M44, e45⟩ : ∃ M44 : zM, M44 = zup M1 0 18 d := ⟨_, rfl⟩
          rw [← e45] at hS
          have J46 := hS.2.1
          refine lv_aload_n hx hb dX12_heads_53 rfl (lv_at hl 0 rfl) ?_
          refine lv_iload_n hx hb dX12_heads_54 rfl (lv_at hl 2 rfl) ?_
          refine z_puti hx hb hts (z_memU u12) tyX12 tyX12_ok nmX12 hown hK.1 hS hS0 f12_19 (by decide) (zkd_of (rfl : zcd wR 0 = 50) rfl) (Or.inl (hts _ (z_mem k963))) rfl (z := a) (by decide +kernel) (zbd_in (rfl : zcd wR 0 = 50) rfl ⟨by omega, by omega⟩) (zms_of (rfl : zcd wR 0 = 50) rfl) dX12_heads_55 (fun H locs hS hS0 => ?_)
          obtain ⟨M47, e48⟩ : ∃ M47 : zM, M47 = zup M44 0 19 a := ⟨_, rfl⟩
          rw [← e48] at hS
          have J49 := hS.2.1
          refine lv_aload_n hx hb dX12_heads_58 rfl (lv_at hl 0 rfl) ?_
          refine lv_iload_n hx hb dX12_heads_59 rfl (lv_at hl 3 rfl) ?_
          refine z_puti hx hb hts (z_memU u12) tyX12 tyX12_ok nmX12 hown hK.1 hS hS0 f12_20 (by decide) (zkd_of (rfl : zcd wR 0 = 50) rfl) (Or.inl (hts _ (z_mem k964))) rfl (z := ed) (by decide +kernel) (zbd_in (rfl : zcd wR 0 = 50) rfl ⟨by omega, by omega⟩) (zms_of (rfl : zcd wR 0 = 50) rfl) dX12_heads_60 (fun H locs hS hS0 => ?_)
          obtain ⟨M50, e51⟩ : ∃ M50 : zM, M50 = zup M47 0 20 ed := ⟨_, rfl⟩
          rw [← e51] at hS
          have J52 := hS.2.1
          refine lv_aload_n hx hb dX12_heads_63 rfl (lv_at hl 0 rfl) ?_
          refine lv_iload hx hb dX12_heads_64 (lv_at hl 4 rfl) ?_
          refine z_puti hx hb hts (z_memU u12) tyX12 tyX12_ok nmX12 hown hK.1 hS hS0 f12_21 (by decide) (zkd_of (rfl : zcd wR 0 = 50) rfl) (Or.inl (hts _ (z_mem k965))) rfl (z := bg) (by decide +kernel) (zbd_in (rfl : zcd wR 0 = 50) rfl ⟨by omega, by omega⟩) (zms_of (rfl : zcd wR 0 = 50) rfl) dX12_heads_66 (fun H locs hS hS0 => ?_)
          obtain ⟨M53, e54⟩ : ∃ M53 : zM, M53 = zup M50 0 21 bg := ⟨_, rfl⟩
          rw [← e54] at hS
          have J55 := hS.2.1
          refine z_iconst hx hb dX12_heads_69 ?_
          exact z_zret hx hb hr hlocks hS hS0 (by first | decide | omega) (by first | exact trivial | exact ⟨rfl, trivial⟩ | omega | (refine ⟨by omega, trivial⟩)) dX12_heads_70
        · skip
          obtain ⟨z38e, h42⟩ := h42
          subst z38e
          refine z_if_ne (tgt := 48) hx hb (by decide) dX12_heads_43 (by decide) (fun c56 => absurd c56 (by decide)) (fun c56 => ?_)
          refine z_iconst hx hb dX12_heads_46 ?_
          exact z_zret hx hb hr hlocks hS hS0 (by first | decide | omega) (by first | exact trivial | exact ⟨rfl, trivial⟩ | omega | (refine ⟨by omega, trivial⟩)) dX12_heads_47
      · skip
        obtain ⟨z28e, h32⟩ := h32
        subst z28e
        refine z_if_eq (tgt := 46) hx hb (by decide) dX12_heads_32 (by decide) (fun c57 => ?_) (fun c57 => absurd c57 (by decide))
        refine z_iconst hx hb dX12_heads_46 ?_
        exact z_zret hx hb hr hlocks hS hS0 (by first | decide | omega) (by first | exact trivial | exact ⟨rfl, trivial⟩ | omega | (refine ⟨by omega, trivial⟩)) dX12_heads_47
    · skip
      obtain ⟨z18e, h22⟩ := h22
      subst z18e
      refine z_if_eq (tgt := 46) hx hb (by decide) dX12_heads_22 (by decide) (fun c58 => ?_) (fun c58 => absurd c58 (by decide))
      refine z_iconst hx hb dX12_heads_46 ?_
      exact z_zret hx hb hr hlocks hS hS0 (by first | decide | omega) (by first | exact trivial | exact ⟨rfl, trivial⟩ | omega | (refine ⟨by omega, trivial⟩)) dX12_heads_47
  · skip
    obtain ⟨z8e, h12⟩ := h12
    subst z8e
    refine z_if_eq (tgt := 46) hx hb (by decide) dX12_heads_12 (by decide) (fun c59 => ?_) (fun c59 => absurd c59 (by decide))
    refine z_iconst hx hb dX12_heads_46 ?_
    exact z_zret hx hb hr hlocks hS hS0 (by first | decide | omega) (by first | exact trivial | exact ⟨rfl, trivial⟩ | omega | (refine ⟨by omega, trivial⟩)) dX12_heads_47

set_option maxHeartbeats 4000000 in
set_option maxRecDepth 100000 in
theorem m_stop (l : Launch) (D : va_G) (dA : Nat → ClassId) (b : Nat) (M : zM) (v : Int) (r_v : R32 v) (g0 : M 0 22 = 0) : Met l yX12_stop (.code yX12_stop cX12_stop 3 (some .int) :: zt) (z_rm 1) (va_Pc [.ref (b + 0), .int (iI v)] (zP D dA vwCl (z_tys dA) wR nR b M)) (va_Qi (zQi wR (zms wR [3235, 3222]) M (fun z M1 => (0 ≤ v ∧ v ≤ 2000 ∧ z = 0) ∨ ((v < 0 ∨ 2000 < v) ∧ z = -1))) (zB D dA vwCl wR nR b) (zA nR b)) 0 0 (zA nR b) := by
  refine Met.ofW (cc := cX12_stop) (maxL := 3) (ret := (some .int)) (by decide) rfl ?_
  intro p e s m args below meth c s₁ B hml hv
  obtain ⟨hargs, hR0, hJ, hK⟩ := hv
  have hx := B.exec
  have hb := B.bytes
  have hr := B.returns
  have hts := atoms_spec (ws := .code yX12_stop cX12_stop 3 (some .int) :: zt) B.pre
  have hown : s.vm.findClass RX12 = some m.cls := findClass_of_methodNamed B.named
  have hlocks := B.notSynchronized
  have hS : zS D dA vwCl wR nR b (zms wR [3235, 3222]) M M s.heap := ⟨hR0, hJ, zF_rf _ _⟩
  have hS0 : va_S (zA nR b) s.heap s.heap [] := va_S.rf
  have hl := lv_entry ([.ref (b + 0), .int (iI v)]) (n := 3) (Nat.le_of_ble_eq_true rfl)
  have hent : entryFrame m args 3 = F0 m 0 ((lg_sl ([.ref (b + 0), .int (iI v)]) ++ List.replicate (3 - (lg_sl ([.ref (b + 0), .int (iI v)])).length) Slot.unset).toArray) [] := by rw [hargs]; exact lg_entry_eq m ([.ref (b + 0), .int (iI v)]) 3
  rw [hent]
  generalize (lg_sl ([.ref (b + 0), .int (iI v)]) ++ List.replicate (3 - (lg_sl ([.ref (b + 0), .int (iI v)])).length) Slot.unset).toArray = ls at hl ⊢
  have hl : lv_has ls 3 [(0, .ref (b + 0)), (1, .int (iI v))] := hl
  refine lv_aload_n hx hb dX12_stop_0 rfl (lv_at hl 0 rfl) ?_
  refine z_iconst hx hb dX12_stop_1 ?_
  refine z_puti hx hb hts (z_memU u12) tyX12 tyX12_ok nmX12 hown hK.1 hS hS0 f12_35 (by decide) (zkd_of (rfl : zcd wR 0 = 50) rfl) (Or.inl (hts _ (z_mem k979))) rfl (z := 0) (by decide +kernel) (zbd_in (rfl : zcd wR 0 = 50) rfl (by decide)) (zms_of (rfl : zcd wR 0 = 50) rfl) dX12_stop_2 (fun H locs hS hS0 => ?_)
  obtain ⟨M1, e2⟩ : ∃ M1 : zM, M1 = zup M 0 35 0 := ⟨_, rfl⟩
  rw [← e2] at hS
  have J3 := hS.2.1
  refine lv_iload_n hx hb dX12_stop_5 rfl (lv_at hl 1 rfl) ?_
  refine z_iconst hx hb dX12_stop_6 ?_
  refine z_sipush hx hb (by decide) dX12_stop_7 ?_
  refine z_calli (va_runS (As := [.int (iI v), .int (iI 0), .int (iI 2000)]) (rest := []) ⟨hx, hb, hml, hown, hts⟩ (m_in l D dA b M1 v 0 2000 r_v (by decide) (by decide)) (va_cwS 3 hts (z_gS k1087 k1088 k14 k1089) rfl rfl rfl dm_X12_in.2 ⟨Nat.le_of_ble_eq_true rfl, Nat.le_of_ble_eq_true rfl⟩) ⟨zP_blind, z_pre hS hK⟩ rfl rfl hl.1 rfl (lv_room (Nat.le_of_ble_eq_true rfl)) dX12_stop_10 ⟨Nat.le_refl _, Nat.le_refl _⟩) hS hS0 (zms_sub rfl) (fun z8 M4 H locs r9 h5 F6 hS hS0 => ?_)
  obtain ⟨h10, h5⟩ := h5
  rw [h10] at hS
  rcases h5 with h11 | h12
  · skip
    obtain ⟨z8e, h11⟩ := h11
    subst z8e
    refine z_if_ne (tgt := 18) hx hb (by decide) dX12_stop_13 (by decide) (fun c13 => ?_) (fun c13 => absurd c13 (by decide))
    refine lv_aload_n hx hb dX12_stop_18 rfl (lv_at hl 0 rfl) ?_
    refine z_geti hx hb hts (z_memU u12) hown hK.1 hS f12_22 (by decide) (zkd_of (rfl : zcd wR 0 = 50) rfl) (Or.inl (hts _ (z_mem k966))) dX12_stop_19 ?_
    refine z_top (show M1 0 22 = 0 from by rw [e2, zup_n _ _ (by omega), g0]) ?_
    refine lv_istore_n (lv' := [(2, .int (iI 0)), (0, .ref (b + 0)), (1, .int (iI v))]) hx hb dX12_stop_22 rfl hl (by decide) rfl (fun ls hl => ?_)
    refine lv_aload_n hx hb dX12_stop_23 rfl (lv_at hl 1 rfl) ?_
    refine lv_iload_n hx hb dX12_stop_24 rfl (lv_at hl 2 rfl) ?_
    refine z_puti hx hb hts (z_memU u12) tyX12 tyX12_ok nmX12 hown hK.1 hS hS0 f12_22 (by decide) (zkd_of (rfl : zcd wR 0 = 50) rfl) (Or.inl (hts _ (z_mem k966))) rfl (z := v) (by decide +kernel) (zbd_in (rfl : zcd wR 0 = 50) rfl ⟨by omega, by omega⟩) (zms_of (rfl : zcd wR 0 = 50) rfl) dX12_stop_25 (fun H locs hS hS0 => ?_)
    obtain ⟨M14, e15⟩ : ∃ M14 : zM, M14 = zup M1 0 22 v := ⟨_, rfl⟩
    rw [← e15] at hS
    have J16 := hS.2.1
    refine lv_iload_n hx hb dX12_stop_28 rfl (lv_at hl 0 rfl) ?_
    exact z_iret hx hb hr hlocks hS hS0 (by decide) (by first | exact trivial | exact ⟨rfl, trivial⟩ | omega | (refine ⟨by omega, trivial⟩)) dX12_stop_29
  · skip
    obtain ⟨z8e, h12⟩ := h12
    subst z8e
    refine z_if_ne (tgt := 18) hx hb (by decide) dX12_stop_13 (by decide) (fun c17 => absurd c17 (by decide)) (fun c17 => ?_)
    refine z_iconst hx hb dX12_stop_16 ?_
    exact z_iret hx hb hr hlocks hS hS0 (by decide) (by first | exact trivial | exact ⟨rfl, trivial⟩ | omega | (refine ⟨by omega, trivial⟩)) dX12_stop_17

set_option maxHeartbeats 4000000 in
set_option maxRecDepth 100000 in
theorem m_findOuts (l : Launch) (D : va_G) (dA : Nat → ClassId) (b : Nat) (M : zM) (u : Int) (r_u : R32 u) (g0 : M 0 22 = 0) (g1 : M 0 18 = 1) (g2 : M 0 19 = 0) (g3 : M 0 20 = 1) (g4 : M 0 21 = 0) (g5 : M 0 10 = 0) (p0 : 0 ≤ u ∧ u ≤ 4000) : Met l yX12_findOuts (.code yX12_findOuts cX12_findOuts 6 none :: zt) (z_rm 1) (va_Pc [.ref (b + 0), .int (iI u)] (zP D dA vwCl (z_tys dA) wR nR b M)) (va_Qv (zQv wR (zms wR [5183]) M (fun M1 => ∀ k : Nat, (k : Int) ≤ u → M1 30 k = 0)) (zB D dA vwCl wR nR b) (zA nR b)) 0 0 (zA nR b) := by
  refine Met.ofW (cc := cX12_findOuts) (maxL := 6) (ret := none) (by decide) rfl ?_
  intro p e s m args below meth c s₁ B hml hv
  obtain ⟨hargs, hR0, hJ, hK⟩ := hv
  have hx := B.exec
  have hb := B.bytes
  have hr := B.returns
  have hts := atoms_spec (ws := .code yX12_findOuts cX12_findOuts 6 none :: zt) B.pre
  have hown : s.vm.findClass RX12 = some m.cls := findClass_of_methodNamed B.named
  have hlocks := B.notSynchronized
  have hS : zS D dA vwCl wR nR b (zms wR [5183]) M M s.heap := ⟨hR0, hJ, zF_rf _ _⟩
  have hS0 : va_S (zA nR b) s.heap s.heap [] := va_S.rf
  have hl := lv_entry ([.ref (b + 0), .int (iI u)]) (n := 6) (Nat.le_of_ble_eq_true rfl)
  have hent : entryFrame m args 6 = F0 m 0 ((lg_sl ([.ref (b + 0), .int (iI u)]) ++ List.replicate (6 - (lg_sl ([.ref (b + 0), .int (iI u)])).length) Slot.unset).toArray) [] := by rw [hargs]; exact lg_entry_eq m ([.ref (b + 0), .int (iI u)]) 6
  rw [hent]
  generalize (lg_sl ([.ref (b + 0), .int (iI u)]) ++ List.replicate (6 - (lg_sl ([.ref (b + 0), .int (iI u)])).length) Slot.unset).toArray = ls at hl ⊢
  have hl : lv_has ls 6 [(0, .ref (b + 0)), (1, .int (iI u))] := hl
  refine z_iconst hx hb dX12_findOuts_0 ?_
  refine lv_istore_n (lv' := [(2, .int (iI 0)), (0, .ref (b + 0)), (1, .int (iI u))]) hx hb dX12_findOuts_1 rfl hl (by decide) rfl (fun ls hl => ?_)
  have L4 : ∀ (n2 : Nat) (t1 : Int) (M5 : zM) (H : Heap) (locs : List Loc) (ls : Array Slot), (2147483648 - t1).toNat ≤ n2 → R32 t1 → (0 ≤ t1) → (∀ k : Nat, (k : Int) < t1 → M5 30 k = 0) → zS D dA vwCl wR nR b (zms wR [5183]) M M5 H → va_S (zA nR b) s.heap H locs → lv_has ls 6 [(0, .ref (b + 0)), (1, .int (iI u)), (2, .int (iI t1))] → W p l e (headSpec (.code yX12_findOuts cX12_findOuts 6 none :: zt) (z_rm 1)).room s m args below meth c H locs 0 0 (MQ below (va_Qv (zQv wR (zms wR [5183]) M (fun M1 => ∀ k : Nat, (k : Int) ≤ u → M1 30 k = 0)) (zB D dA vwCl wR nR b) (zA nR b)) args s 0 0 (zA nR b)) (F0 m 2 ls []) := by
    intro n2
    induction n2 with
    | zero =>
      intro t1 M5 H locs ls hm r_t1 i6 i7 hS hS0 hl
      exfalso
      omega
    | succ n2 ih3 =>
      intro t1 M5 H locs ls hm r_t1 i6 i7 hS hS0 hl
      have J8 := hS.2.1
      have F9 := hS.2.2
      refine lv_iload_n hx hb dX12_findOuts_2 rfl (lv_at hl 2 rfl) ?_
      refine lv_iload_n hx hb dX12_findOuts_3 rfl (lv_at hl 1 rfl) ?_
      refine z_icmp_gt (tgt := 141) hx hb r_t1 r_u dX12_findOuts_4 (by decide) (fun c10 => ?_) (fun c10 => ?_)
      · skip
        exact z_vret hx hb hr hlocks hS hS0 (fun k hk => i7 k (by omega)) dX12_findOuts_141
      · skip
        refine z_iconst hx hb dX12_findOuts_7 ?_
        refine lv_istore_n (lv' := [(3, .int (iI 0)), (0, .ref (b + 0)), (1, .int (iI u)), (2, .int (iI t1))]) hx hb dX12_findOuts_8 rfl hl (by decide) rfl (fun ls hl => ?_)
        refine lv_iload_n hx hb dX12_findOuts_9 rfl (lv_at hl 3 rfl) ?_
        refine lv_aload_n hx hb dX12_findOuts_10 rfl (lv_at hl 1 rfl) ?_
        refine z_geti hx hb hts (z_memU u12) hown hK.1 hS f12_22 (by decide) (zkd_of (rfl : zcd wR 0 = 50) rfl) (Or.inl (hts _ (z_mem k966))) dX12_findOuts_11 ?_
        refine z_top (show M5 0 22 = 0 from by rw [F9 _ _ (zms_not (rfl : zcd wR 0 = 50) rfl), g0]) ?_
        refine z_icmp_ge (tgt := 62) hx hb r_t1 (by decide) dX12_findOuts_14 (by decide) (fun c11 => ?_) (fun c11 => absurd c11 (by omega))
        refine lv_iload_n hx hb dX12_findOuts_62 rfl (lv_at hl 3 rfl) ?_
        refine lv_aload_n hx hb dX12_findOuts_63 rfl (lv_at hl 1 rfl) ?_
        refine z_geti hx hb hts (z_memU u12) hown hK.1 hS f12_18 (by decide) (zkd_of (rfl : zcd wR 0 = 50) rfl) (Or.inl (hts _ (z_mem k962))) dX12_findOuts_64 ?_
        refine z_top (show M5 0 18 = 1 from by rw [F9 _ _ (zms_not (rfl : zcd wR 0 = 50) rfl), g1]) ?_
        refine z_icmp_lt (tgt := 92) hx hb r_t1 (by decide) dX12_findOuts_67 (by decide) (fun c12 => ?_) (fun c12 => ?_)
        · skip
          refine lv_iload_n hx hb dX12_findOuts_92 rfl (lv_at hl 3 rfl) ?_
          refine lv_aload_n hx hb dX12_findOuts_93 rfl (lv_at hl 1 rfl) ?_
          refine z_geti hx hb hts (z_memU u12) hown hK.1 hS f12_20 (by decide) (zkd_of (rfl : zcd wR 0 = 50) rfl) (Or.inl (hts _ (z_mem k964))) dX12_findOuts_94 ?_
          refine z_top (show M5 0 20 = 1 from by rw [F9 _ _ (zms_not (rfl : zcd wR 0 = 50) rfl), g3]) ?_
          refine z_icmp_lt (tgt := 122) hx hb r_t1 (by decide) dX12_findOuts_97 (by decide) (fun c13 => ?_) (fun c13 => absurd c13 (by omega))
          refine lv_aload_n hx hb dX12_findOuts_122 rfl (lv_at hl 1 rfl) ?_
          refine z_getr (j2 := 30) hx hb hts (z_memU u12) hown hK.1 hS f12_45 (by decide) (zkd_of (rfl : zcd wR 0 = 50) rfl) (zrf_of (rfl : zcd wR 0 = 50) rfl) (Or.inl (hts _ (z_mem k989))) dX12_findOuts_123 ?_
          refine lv_iload_n hx hb dX12_findOuts_126 rfl (lv_at hl 3 rfl) ?_
          refine lv_iload_n hx hb dX12_findOuts_127 rfl (lv_at hl 0 rfl) ?_
          refine z_sipush hx hb (by decide) dX12_findOuts_128 ?_
          refine z_mmin hx hb (hml.trans hl.1.symm) hown (hts _ (z_mem k1233)) (hts _ (z_mem k320)) (hts _ (z_mem k15)) (hts _ (z_mem k321)) (by exact Nat.le_of_ble_eq_true rfl) (by exact Nat.le_of_ble_eq_true rfl) (by exact Nat.le_refl _) (by exact Nat.le_refl _) (by decide) (by decide) dX12_findOuts_131 ?_
          refine z_top (show ((min 0 5000) : Int) = 0 from by decide) ?_
          refine z_iast (n := 4001) hx hb hK.1 (t0 := 0) rfl hS hS0 (by decide) (zkd_of (rfl : zcd wR 30 = 80) rfl) (zln_of (rfl : zcd wR 30 = 80) rfl) (by omega) (by omega) (by decide) (zbd_in (rfl : zcd wR 30 = 80) rfl (by decide)) (zms_of (rfl : zcd wR 30 = 80) rfl) dX12_findOuts_134 (fun H locs hS hS0 => ?_)
          obtain ⟨M16, e17⟩ : ∃ M16 : zM, M16 = zup M5 30 (t1.toNat) 0 := ⟨_, rfl⟩
          rw [← e17] at hS
          have J18 := hS.2.1
          refine z_iinc (lv' := [(2, .int (iI (t1 + 1))), (3, .int (iI 0)), (0, .ref (b + 0)), (1, .int (iI u))]) hx hb dX12_findOuts_135 hl (k := 3) rfl (by decide) rfl (fun ls hl => ?_)
          refine lv_goto (tgt := 2) hx hb dX12_findOuts_138 (by decide) ?_
          exact ih3 (t1 + 1) M16 _ _ _ (by omega) ⟨by omega, by omega⟩ (by omega) (fun k hk => if h9 : k = t1.toNat then by rw [e17, h9]; exact zup_s _ _ _ _ else by rw [e17, zup_n _ _ (fun q => h9 q.2)]; exact i7 k (by omega)) hS hS0 (lv_sub hl [2, 3, 0] rfl)
        · skip
          refine lv_iload_n hx hb dX12_findOuts_70 rfl (lv_at hl 0 rfl) ?_
          refine lv_aload_n hx hb dX12_findOuts_71 rfl (lv_at hl 1 rfl) ?_
          refine z_geti hx hb hts (z_memU u12) hown hK.1 hS f12_19 (by decide) (zkd_of (rfl : zcd wR 0 = 50) rfl) (Or.inl (hts _ (z_mem k963))) dX12_findOuts_72 ?_
          refine z_top (show M5 0 19 = 0 from by rw [F9 _ _ (zms_not (rfl : zcd wR 0 = 50) rfl), g2]) ?_
          refine lv_aload_n hx hb dX12_findOuts_75 rfl (lv_at hl 1 rfl) ?_
          refine z_getr (j2 := 30) hx hb hts (z_memU u12) hown hK.1 hS f12_45 (by decide) (zkd_of (rfl : zcd wR 0 = 50) rfl) (zrf_of (rfl : zcd wR 0 = 50) rfl) (Or.inl (hts _ (z_mem k989))) dX12_findOuts_76 ?_
          refine lv_iload_n hx hb dX12_findOuts_79 rfl (lv_at hl 3 rfl) ?_
          refine lv_aload_n hx hb dX12_findOuts_80 rfl (lv_at hl 1 rfl) ?_
          refine z_geti hx hb hts (z_memU u12) hown hK.1 hS f12_18 (by decide) (zkd_of (rfl : zcd wR 0 = 50) rfl) (Or.inl (hts _ (z_mem k962))) dX12_findOuts_81 ?_
          refine z_top (show M5 0 18 = 1 from by rw [F9 _ _ (zms_not (rfl : zcd wR 0 = 50) rfl), g1]) ?_
          refine z_isub hx hb dX12_findOuts_84 ?_
          refine z_iald (n := 4001) hx hb hK.1 (t0 := 0) rfl hS (by decide) (zkd_of (rfl : zcd wR 30 = 80) rfl) (zln_of (rfl : zcd wR 30 = 80) rfl) (by omega) (by omega) (by decide) dX12_findOuts_85 ?_
          have q19 : (0 : Int) ≤ M5 30 ((t1 - 1).toNat) ∧ M5 30 ((t1 - 1).toNat) ≤ 5000 := zJ_at J8 (rfl : zcd wR 30 = 80) rfl
          refine z_imul hx hb dX12_findOuts_86 ?_
          refine z_top (show ((0 * (M5 30 ((t1 - 1).toNat))) : Int) = 0 from (by omega)) ?_
          refine z_bipush hx hb (by decide) dX12_findOuts_87 ?_
          refine z_idiv hx hb (by decide) (by decide) (by omega) dX12_findOuts_89 ?_
          refine z_top (show ((Int.tdiv 0 100) : Int) = 0 from by decide) ?_
          refine z_iadd hx hb dX12_findOuts_90 ?_
          refine z_top (show ((0 + 0) : Int) = 0 from (by decide)) ?_
          refine lv_istore_n (lv' := [(3, .int (iI 0)), (0, .ref (b + 0)), (1, .int (iI u)), (2, .int (iI t1))]) hx hb dX12_findOuts_91 rfl hl (by decide) rfl (fun ls hl => ?_)
          refine lv_iload_n hx hb dX12_findOuts_92 rfl (lv_at hl 3 rfl) ?_
          refine lv_aload_n hx hb dX12_findOuts_93 rfl (lv_at hl 1 rfl) ?_
          refine z_geti hx hb hts (z_memU u12) hown hK.1 hS f12_20 (by decide) (zkd_of (rfl : zcd wR 0 = 50) rfl) (Or.inl (hts _ (z_mem k964))) dX12_findOuts_94 ?_
          refine z_top (show M5 0 20 = 1 from by rw [F9 _ _ (zms_not (rfl : zcd wR 0 = 50) rfl), g3]) ?_
          refine z_icmp_lt (tgt := 122) hx hb r_t1 (by decide) dX12_findOuts_97 (by decide) (fun c20 => absurd c20 (by omega)) (fun c20 => ?_)
          refine lv_iload_n hx hb dX12_findOuts_100 rfl (lv_at hl 0 rfl) ?_
          refine lv_aload_n hx hb dX12_findOuts_101 rfl (lv_at hl 1 rfl) ?_
          refine z_geti hx hb hts (z_memU u12) hown hK.1 hS f12_21 (by decide) (zkd_of (rfl : zcd wR 0 = 50) rfl) (Or.inl (hts _ (z_mem k965))) dX12_findOuts_102 ?_
          refine z_top (show M5 0 21 = 0 from by rw [F9 _ _ (zms_not (rfl : zcd wR 0 = 50) rfl), g4]) ?_
          refine lv_aload_n hx hb dX12_findOuts_105 rfl (lv_at hl 1 rfl) ?_
          refine z_getr (j2 := 30) hx hb hts (z_memU u12) hown hK.1 hS f12_45 (by decide) (zkd_of (rfl : zcd wR 0 = 50) rfl) (zrf_of (rfl : zcd wR 0 = 50) rfl) (Or.inl (hts _ (z_mem k989))) dX12_findOuts_106 ?_
          refine lv_iload_n hx hb dX12_findOuts_109 rfl (lv_at hl 3 rfl) ?_
          refine lv_aload_n hx hb dX12_findOuts_110 rfl (lv_at hl 1 rfl) ?_
          refine z_geti hx hb hts (z_memU u12) hown hK.1 hS f12_20 (by decide) (zkd_of (rfl : zcd wR 0 = 50) rfl) (Or.inl (hts _ (z_mem k964))) dX12_findOuts_111 ?_
          refine z_top (show M5 0 20 = 1 from by rw [F9 _ _ (zms_not (rfl : zcd wR 0 = 50) rfl), g3]) ?_
          refine z_isub hx hb dX12_findOuts_114 ?_
          refine z_iald (n := 4001) hx hb hK.1 (t0 := 0) rfl hS (by decide) (zkd_of (rfl : zcd wR 30 = 80) rfl) (zln_of (rfl : zcd wR 30 = 80) rfl) (by omega) (by omega) (by decide) dX12_findOuts_115 ?_
          refine z_imul hx hb dX12_findOuts_116 ?_
          refine z_top (show ((0 * (M5 30 ((t1 - 1).toNat))) : Int) = 0 from (by omega)) ?_
          refine z_bipush hx hb (by decide) dX12_findOuts_117 ?_
          refine z_idiv hx hb (by decide) (by decide) (by omega) dX12_findOuts_119 ?_
          refine z_top (show ((Int.tdiv 0 100) : Int) = 0 from by decide) ?_
          refine z_iadd hx hb dX12_findOuts_120 ?_
          refine z_top (show ((0 + 0) : Int) = 0 from (by decide)) ?_
          refine lv_istore_n (lv' := [(3, .int (iI 0)), (0, .ref (b + 0)), (1, .int (iI u)), (2, .int (iI t1))]) hx hb dX12_findOuts_121 rfl hl (by decide) rfl (fun ls hl => ?_)
          refine lv_aload_n hx hb dX12_findOuts_122 rfl (lv_at hl 1 rfl) ?_
          refine z_getr (j2 := 30) hx hb hts (z_memU u12) hown hK.1 hS f12_45 (by decide) (zkd_of (rfl : zcd wR 0 = 50) rfl) (zrf_of (rfl : zcd wR 0 = 50) rfl) (Or.inl (hts _ (z_mem k989))) dX12_findOuts_123 ?_
          refine lv_iload_n hx hb dX12_findOuts_126 rfl (lv_at hl 3 rfl) ?_
          refine lv_iload_n hx hb dX12_findOuts_127 rfl (lv_at hl 0 rfl) ?_
          refine z_sipush hx hb (by decide) dX12_findOuts_128 ?_
          refine z_mmin hx hb (hml.trans hl.1.symm) hown (hts _ (z_mem k1233)) (hts _ (z_mem k320)) (hts _ (z_mem k15)) (hts _ (z_mem k321)) (by exact Nat.le_of_ble_eq_true rfl) (by exact Nat.le_of_ble_eq_true rfl) (by exact Nat.le_refl _) (by exact Nat.le_refl _) (by decide) (by decide) dX12_findOuts_131 ?_
          refine z_top (show ((min 0 5000) : Int) = 0 from by decide) ?_
          refine z_iast (n := 4001) hx hb hK.1 (t0 := 0) rfl hS hS0 (by decide) (zkd_of (rfl : zcd wR 30 = 80) rfl) (zln_of (rfl : zcd wR 30 = 80) rfl) (by omega) (by omega) (by decide) (zbd_in (rfl : zcd wR 30 = 80) rfl (by decide)) (zms_of (rfl : zcd wR 30 = 80) rfl) dX12_findOuts_134 (fun H locs hS hS0 => ?_)
          obtain ⟨M23, e24⟩ : ∃ M23 : zM, M23 = zup M5 30 (t1.toNat) 0 := ⟨_, rfl⟩
          rw [← e24] at hS
          have J25 := hS.2.1
          refine z_iinc (lv' := [(2, .int (iI (t1 + 1))), (3, .int (iI 0)), (0, .ref (b + 0)), (1, .int (iI u))]) hx hb dX12_findOuts_135 hl (k := 3) rfl (by decide) rfl (fun ls hl => ?_)
          refine lv_goto (tgt := 2) hx hb dX12_findOuts_138 (by decide) ?_
          exact ih3 (t1 + 1) M23 _ _ _ (by omega) ⟨by omega, by omega⟩ (by omega) (fun k hk => if h9 : k = t1.toNat then by rw [e24, h9]; exact zup_s _ _ _ _ else by rw [e24, zup_n _ _ (fun q => h9 q.2)]; exact i7 k (by omega)) hS hS0 (lv_sub hl [2, 3, 0] rfl)
  exact L4 _ 0 M _ _ _ (Nat.le_refl _) (by decide) (by omega) (fun k hk => absurd hk (by omega)) hS hS0 (lv_sub hl [1, 2, 0] rfl)

set_option maxHeartbeats 4000000 in
set_option maxRecDepth 100000 in
theorem m_out (l : Launch) (D : va_G) (dA : Nat → ClassId) (b : Nat) (M : zM) (t : Int) (r_t : R32 t) (g0 : M 0 22 = 0) (g1 : M 0 18 = 1) (g2 : M 0 19 = 0) (g3 : M 0 20 = 1) (g4 : M 0 21 = 0) (g5 : M 0 10 = 0) : Met l yX12_out (.code yX12_out cX12_out 2 (some .int) :: zt) (z_rm 2) (va_Pc [.ref (b + 0), .int (iI t)] (zP D dA vwCl (z_tys dA) wR nR b M)) (va_Qi (zQi wR (zms wR [3235, 5183]) M (fun z M1 => (0 ≤ t ∧ t ≤ 4000 ∧ z = 0) ∨ ((t < 0 ∨ 4000 < t) ∧ z = -1))) (zB D dA vwCl wR nR b) (zA nR b)) 0 0 (zA nR b) := by
  refine Met.ofW (cc := cX12_out) (maxL := 2) (ret := (some .int)) (by decide) rfl ?_
  intro p e s m args below meth c s₁ B hml hv
  obtain ⟨hargs, hR0, hJ, hK⟩ := hv
  have hx := B.exec
  have hb := B.bytes
  have hr := B.returns
  have hts := atoms_spec (ws := .code yX12_out cX12_out 2 (some .int) :: zt) B.pre
  have hown : s.vm.findClass RX12 = some m.cls := findClass_of_methodNamed B.named
  have hlocks := B.notSynchronized
  have hS : zS D dA vwCl wR nR b (zms wR [3235, 5183]) M M s.heap := ⟨hR0, hJ, zF_rf _ _⟩
  have hS0 : va_S (zA nR b) s.heap s.heap [] := va_S.rf
  have hl := lv_entry ([.ref (b + 0), .int (iI t)]) (n := 2) (Nat.le_of_ble_eq_true rfl)
  have hent : entryFrame m args 2 = F0 m 0 ((lg_sl ([.ref (b + 0), .int (iI t)]) ++ List.replicate (2 - (lg_sl ([.ref (b + 0), .int (iI t)])).length) Slot.unset).toArray) [] := by rw [hargs]; exact lg_entry_eq m ([.ref (b + 0), .int (iI t)]) 2
  rw [hent]
  generalize (lg_sl ([.ref (b + 0), .int (iI t)]) ++ List.replicate (2 - (lg_sl ([.ref (b + 0), .int (iI t)])).length) Slot.unset).toArray = ls at hl ⊢
  have hl : lv_has ls 2 [(0, .ref (b + 0)), (1, .int (iI t))] := hl
  refine lv_aload_n hx hb dX12_out_0 rfl (lv_at hl 0 rfl) ?_
  refine z_iconst hx hb dX12_out_1 ?_
  refine z_puti hx hb hts (z_memU u12) tyX12 tyX12_ok nmX12 hown hK.1 hS hS0 f12_35 (by decide) (zkd_of (rfl : zcd wR 0 = 50) rfl) (Or.inl (hts _ (z_mem k979))) rfl (z := 0) (by decide +kernel) (zbd_in (rfl : zcd wR 0 = 50) rfl (by decide)) (zms_of (rfl : zcd wR 0 = 50) rfl) dX12_out_2 (fun H locs hS hS0 => ?_)
  obtain ⟨M1, e2⟩ : ∃ M1 : zM, M1 = zup M 0 35 0 := ⟨_, rfl⟩
  rw [← e2] at hS
  have J3 := hS.2.1
  refine lv_iload_n hx hb dX12_out_5 rfl (lv_at hl 1 rfl) ?_
  refine z_iconst hx hb dX12_out_6 ?_
  refine z_sipush hx hb (by decide) dX12_out_7 ?_
  refine z_calli (va_runS (As := [.int (iI t), .int (iI 0), .int (iI 4000)]) (rest := []) ⟨hx, hb, hml, hown, hts⟩ (m_in l D dA b M1 t 0 4000 r_t (by decide) (by decide)) (va_cwS 3 hts (z_gS k1087 k1088 k14 k1089) rfl rfl rfl dm_X12_in.2 ⟨Nat.le_of_ble_eq_true rfl, Nat.le_of_ble_eq_true rfl⟩) ⟨zP_blind, z_pre hS hK⟩ rfl rfl hl.1 rfl (lv_room (Nat.le_of_ble_eq_true rfl)) dX12_out_10 ⟨Nat.le_refl _, Nat.le_refl _⟩) hS hS0 (zms_sub rfl) (fun z8 M4 H locs r9 h5 F6 hS hS0 => ?_)
  obtain ⟨h10, h5⟩ := h5
  rw [h10] at hS
  rcases h5 with h11 | h12
  · skip
    obtain ⟨z8e, h11⟩ := h11
    subst z8e
    refine z_if_ne (tgt := 18) hx hb (by decide) dX12_out_13 (by decide) (fun c13 => ?_) (fun c13 => absurd c13 (by decide))
    refine lv_aload_n hx hb dX12_out_18 rfl (lv_at hl 0 rfl) ?_
    refine lv_iload_n hx hb dX12_out_19 rfl (lv_at hl 1 rfl) ?_
    refine z_callv (va_runV (As := [.int (iI t)]) (rest := []) ⟨hx, hb, hml, hown, hts⟩ (m_findOuts l D dA b M1 t r_t (by rw [e2, zup_n _ _ (by omega), g0]) (by rw [e2, zup_n _ _ (by omega), g1]) (by rw [e2, zup_n _ _ (by omega), g2]) (by rw [e2, zup_n _ _ (by omega), g3]) (by rw [e2, zup_n _ _ (by omega), g4]) (by rw [e2, zup_n _ _ (by omega), g5]) (by omega)) (cwV 1 hts (z_gV k1258 k1259 k1418 k14 k1260) rfl rfl rfl dm_X12_findOuts ⟨Nat.le_of_ble_eq_true rfl, Nat.le_of_ble_eq_true rfl⟩) ⟨zP_blind, (z_recv hS hK.1 (by decide) (zkd_of (rfl : zcd wR 0 = 50) rfl) (by decide) (rfl : vwCl[12]? = some (RX12, TX12, 50))), z_pre hS hK⟩ rfl rfl hl.1 rfl (lv_room (Nat.le_of_ble_eq_true rfl)) dX12_out_20 ⟨Nat.le_refl _, Nat.le_refl _⟩) hS hS0 (zms_sub rfl) (fun M14 H locs h15 F16 hS hS0 => ?_)
    have J17 := hS.2.1
    have ar18 := h15 t.toNat (by omega)
    refine lv_aload_n hx hb dX12_out_23 rfl (lv_at hl 0 rfl) ?_
    refine z_getr (j2 := 30) hx hb hts (z_memU u12) hown hK.1 hS f12_45 (by decide) (zkd_of (rfl : zcd wR 0 = 50) rfl) (zrf_of (rfl : zcd wR 0 = 50) rfl) (Or.inl (hts _ (z_mem k989))) dX12_out_24 ?_
    refine lv_iload_n hx hb dX12_out_27 rfl (lv_at hl 1 rfl) ?_
    refine z_iald (n := 4001) hx hb hK.1 (t0 := 0) rfl hS (by decide) (zkd_of (rfl : zcd wR 30 = 80) rfl) (zln_of (rfl : zcd wR 30 = 80) rfl) (by omega) (by omega) (by decide) dX12_out_28 ?_
    refine z_top (show M14 30 (t.toNat) = 0 from by rw [ar18]) ?_
    exact z_iret hx hb hr hlocks hS hS0 (by decide) (by first | exact trivial | exact ⟨rfl, trivial⟩ | omega | (refine ⟨by omega, trivial⟩)) dX12_out_29
  · skip
    obtain ⟨z8e, h12⟩ := h12
    subst z8e
    refine z_if_ne (tgt := 18) hx hb (by decide) dX12_out_13 (by decide) (fun c19 => absurd c19 (by decide)) (fun c19 => ?_)
    refine z_iconst hx hb dX12_out_16 ?_
    exact z_iret hx hb hr hlocks hS hS0 (by decide) (by first | exact trivial | exact ⟨rfl, trivial⟩ | omega | (refine ⟨by omega, trivial⟩)) dX12_out_17

set_option maxHeartbeats 4000000 in
set_option maxRecDepth 100000 in
theorem m_dies (l : Launch) (D : va_G) (dA : Nat → ClassId) (b : Nat) (M : zM) (g0 : M 0 22 = 0) (g1 : M 0 18 = 1) (g2 : M 0 19 = 0) (g3 : M 0 20 = 1) (g4 : M 0 21 = 0) (g5 : M 0 10 = 0) : Met l yX12_dies (.code yX12_dies cX12_dies 6 (some .int) :: zt) (z_rm 2) (va_Pc [.ref (b + 0)] (zP D dA vwCl (z_tys dA) wR nR b M)) (va_Qi (zQi wR (zms wR [3235, 5183]) M (fun z M1 => z = 0 ∧ True)) (zB D dA vwCl wR nR b) (zA nR b)) 0 0 (zA nR b) := by
  refine Met.ofW (cc := cX12_dies) (maxL := 6) (ret := (some .int)) (by decide) rfl ?_
  intro p e s m args below meth c s₁ B hml hv
  obtain ⟨hargs, hR0, hJ, hK⟩ := hv
  have hx := B.exec
  have hb := B.bytes
  have hr := B.returns
  have hts := atoms_spec (ws := .code yX12_dies cX12_dies 6 (some .int) :: zt) B.pre
  have hown : s.vm.findClass RX12 = some m.cls := findClass_of_methodNamed B.named
  have hlocks := B.notSynchronized
  have hS : zS D dA vwCl wR nR b (zms wR [3235, 5183]) M M s.heap := ⟨hR0, hJ, zF_rf _ _⟩
  have hS0 : va_S (zA nR b) s.heap s.heap [] := va_S.rf
  have hl := lv_entry ([.ref (b + 0)]) (n := 6) (Nat.le_of_ble_eq_true rfl)
  have hent : entryFrame m args 6 = F0 m 0 ((lg_sl ([.ref (b + 0)]) ++ List.replicate (6 - (lg_sl ([.ref (b + 0)])).length) Slot.unset).toArray) [] := by rw [hargs]; exact lg_entry_eq m ([.ref (b + 0)]) 6
  rw [hent]
  generalize (lg_sl ([.ref (b + 0)]) ++ List.replicate (6 - (lg_sl ([.ref (b + 0)])).length) Slot.unset).toArray = ls at hl ⊢
  have hl : lv_has ls 6 [(0, .ref (b + 0))] := hl
  refine lv_aload_n hx hb dX12_dies_0 rfl (lv_at hl 0 rfl) ?_
  refine z_iconst hx hb dX12_dies_1 ?_
  refine z_puti hx hb hts (z_memU u12) tyX12 tyX12_ok nmX12 hown hK.1 hS hS0 f12_35 (by decide) (zkd_of (rfl : zcd wR 0 = 50) rfl) (Or.inl (hts _ (z_mem k979))) rfl (z := 0) (by decide +kernel) (zbd_in (rfl : zcd wR 0 = 50) rfl (by decide)) (zms_of (rfl : zcd wR 0 = 50) rfl) dX12_dies_2 (fun H locs hS hS0 => ?_)
  obtain ⟨M1, e2⟩ : ∃ M1 : zM, M1 = zup M 0 35 0 := ⟨_, rfl⟩
  rw [← e2] at hS
  have J3 := hS.2.1
  refine lv_aload_n hx hb dX12_dies_5 rfl (lv_at hl 0 rfl) ?_
  refine z_sipush hx hb (by decide) dX12_dies_6 ?_
  refine z_callv (va_runV (As := [.int (iI 4000)]) (rest := []) ⟨hx, hb, hml, hown, hts⟩ (m_findOuts l D dA b M1 4000 (by decide) (by rw [e2, zup_n _ _ (by omega), g0]) (by rw [e2, zup_n _ _ (by omega), g1]) (by rw [e2, zup_n _ _ (by omega), g2]) (by rw [e2, zup_n _ _ (by omega), g3]) (by rw [e2, zup_n _ _ (by omega), g4]) (by rw [e2, zup_n _ _ (by omega), g5]) (by omega)) (cwV 1 hts (z_gV k1258 k1259 k1418 k14 k1260) rfl rfl rfl dm_X12_findOuts ⟨Nat.le_of_ble_eq_true rfl, Nat.le_of_ble_eq_true rfl⟩) ⟨zP_blind, (z_recv hS hK.1 (by decide) (zkd_of (rfl : zcd wR 0 = 50) rfl) (by decide) (rfl : vwCl[12]? = some (RX12, TX12, 50))), z_pre hS hK⟩ rfl rfl hl.1 rfl (lv_room (Nat.le_of_ble_eq_true rfl)) dX12_dies_9 ⟨Nat.le_refl _, Nat.le_refl _⟩) hS hS0 (zms_sub rfl) (fun M4 H locs h5 F6 hS hS0 => ?_)
  have J7 := hS.2.1
  have ar8 : ∀ k : Nat, k < 4001 → M4 30 k = 0 := fun k hk => h5 k (by omega)
  refine z_iconst hx hb dX12_dies_12 ?_
  refine lv_istore_n (lv' := [(1, .int (iI 0)), (0, .ref (b + 0))]) hx hb dX12_dies_13 rfl hl (by decide) rfl (fun ls hl => ?_)
  refine lv_aload_n hx hb dX12_dies_14 rfl (lv_at hl 1 rfl) ?_
  refine z_geti hx hb hts (z_memU u12) hown hK.1 hS f12_22 (by decide) (zkd_of (rfl : zcd wR 0 = 50) rfl) (Or.inl (hts _ (z_mem k966))) dX12_dies_15 ?_
  refine z_top (show M4 0 22 = 0 from by rw [F6 _ _ (zms_not (rfl : zcd wR 0 = 50) rfl), e2, zup_n _ _ (by omega), g0]) ?_
  refine lv_istore_n (lv' := [(2, .int (iI 0)), (1, .int (iI 0)), (0, .ref (b + 0))]) hx hb dX12_dies_18 rfl hl (by decide) rfl (fun ls hl => ?_)
  refine lv_iload_n hx hb dX12_dies_19 rfl (lv_at hl 0 rfl) ?_
  refine z_sipush hx hb (by decide) dX12_dies_20 ?_
  refine z_icmp_gt (tgt := 62) hx hb (by decide) (by decide) dX12_dies_23 (by decide) (fun c9 => absurd c9 (by decide)) (fun c9 => ?_)
  refine lv_aload_n hx hb dX12_dies_26 rfl (lv_at hl 2 rfl) ?_
  refine z_getr (j2 := 30) hx hb hts (z_memU u12) hown hK.1 hS f12_45 (by decide) (zkd_of (rfl : zcd wR 0 = 50) rfl) (zrf_of (rfl : zcd wR 0 = 50) rfl) (Or.inl (hts _ (z_mem k989))) dX12_dies_27 ?_
  refine lv_iload_n hx hb dX12_dies_30 rfl (lv_at hl 0 rfl) ?_
  refine z_iald (n := 4001) hx hb hK.1 (t0 := 0) rfl hS (by decide) (zkd_of (rfl : zcd wR 30 = 80) rfl) (zln_of (rfl : zcd wR 30 = 80) rfl) (by decide) (by decide) (by decide) dX12_dies_31 ?_
  refine z_top (show M4 30 ((0 : Int).toNat) = 0 from by rw [ar8 _ (by omega)]) ?_
  refine z_if_ne (tgt := 41) hx hb (by decide) dX12_dies_32 (by decide) (fun c10 => absurd c10 (by decide)) (fun c10 => ?_)
  refine lv_iload_n hx hb dX12_dies_35 rfl (lv_at hl 1 rfl) ?_
  refine z_iconst hx hb dX12_dies_36 ?_
  refine z_iadd hx hb dX12_dies_37 ?_
  refine z_top (show ((0 + 1) : Int) = 1 from (by decide)) ?_
  refine lv_goto (tgt := 42) hx hb dX12_dies_38 (by decide) ?_
  refine lv_istore_n (lv' := [(1, .int (iI 1)), (2, .int (iI 0)), (0, .ref (b + 0))]) hx hb dX12_dies_42 rfl hl (by decide) rfl (fun ls hl => ?_)
  refine lv_iload_n hx hb dX12_dies_43 rfl (lv_at hl 0 rfl) ?_
  refine z_bipush hx hb (by decide) dX12_dies_44 ?_
  refine z_icmp_ne (tgt := 56) hx hb (by decide) (by decide) dX12_dies_46 (by decide) (fun c11 => ?_) (fun c11 => absurd c11 (by decide))
  refine z_iinc (lv' := [(2, .int (iI (0 + 1))), (1, .int (iI 1)), (0, .ref (b + 0))]) hx hb dX12_dies_56 hl (k := 1) rfl (by decide) rfl (fun ls hl => ?_)
  rw [show ((0 + 1) : Int) = 1 from by decide] at hl
  refine lv_goto (tgt := 19) hx hb dX12_dies_59 (by decide) ?_
  refine lv_iload_n hx hb dX12_dies_19 rfl (lv_at hl 0 rfl) ?_
  refine z_sipush hx hb (by decide) dX12_dies_20 ?_
  refine z_icmp_gt (tgt := 62) hx hb (by decide) (by decide) dX12_dies_23 (by decide) (fun c12 => absurd c12 (by decide)) (fun c12 => ?_)
  refine lv_aload_n hx hb dX12_dies_26 rfl (lv_at hl 2 rfl) ?_
  refine z_getr (j2 := 30) hx hb hts (z_memU u12) hown hK.1 hS f12_45 (by decide) (zkd_of (rfl : zcd wR 0 = 50) rfl) (zrf_of (rfl : zcd wR 0 = 50) rfl) (Or.inl (hts _ (z_mem k989))) dX12_dies_27 ?_
  refine lv_iload_n hx hb dX12_dies_30 rfl (lv_at hl 0 rfl) ?_
  refine z_iald (n := 4001) hx hb hK.1 (t0 := 0) rfl hS (by decide) (zkd_of (rfl : zcd wR 30 = 80) rfl) (zln_of (rfl : zcd wR 30 = 80) rfl) (by decide) (by decide) (by decide) dX12_dies_31 ?_
  refine z_top (show M4 30 ((1 : Int).toNat) = 0 from by rw [ar8 _ (by omega)]) ?_
  refine z_if_ne (tgt := 41) hx hb (by decide) dX12_dies_32 (by decide) (fun c13 => absurd c13 (by decide)) (fun c13 => ?_)
  refine lv_iload_n hx hb dX12_dies_35 rfl (lv_at hl 1 rfl) ?_
  refine z_iconst hx hb dX12_dies_36 ?_
  refine z_iadd hx hb dX12_dies_37 ?_
  refine z_top (show ((1 + 1) : Int) = 2 from (by decide)) ?_
  refine lv_goto (tgt := 42) hx hb dX12_dies_38 (by decide) ?_
  refine lv_istore_n (lv' := [(1, .int (iI 2)), (2, .int (iI 1)), (0, .ref (b + 0))]) hx hb dX12_dies_42 rfl hl (by decide) rfl (fun ls hl => ?_)
  refine lv_iload_n hx hb dX12_dies_43 rfl (lv_at hl 0 rfl) ?_
  refine z_bipush hx hb (by decide) dX12_dies_44 ?_
  refine z_icmp_ne (tgt := 56) hx hb (by decide) (by decide) dX12_dies_46 (by decide) (fun c14 => ?_) (fun c14 => absurd c14 (by decide))
  refine z_iinc (lv' := [(2, .int (iI (1 + 1))), (1, .int (iI 2)), (0, .ref (b + 0))]) hx hb dX12_dies_56 hl (k := 1) rfl (by decide) rfl (fun ls hl => ?_)
  rw [show ((1 + 1) : Int) = 2 from by decide] at hl
  refine lv_goto (tgt := 19) hx hb dX12_dies_59 (by decide) ?_
  refine lv_iload_n hx hb dX12_dies_19 rfl (lv_at hl 0 rfl) ?_
  refine z_sipush hx hb (by decide) dX12_dies_20 ?_
  refine z_icmp_gt (tgt := 62) hx hb (by decide) (by decide) dX12_dies_23 (by decide) (fun c15 => absurd c15 (by decide)) (fun c15 => ?_)
  refine lv_aload_n hx hb dX12_dies_26 rfl (lv_at hl 2 rfl) ?_
  refine z_getr (j2 := 30) hx hb hts (z_memU u12) hown hK.1 hS f12_45 (by decide) (zkd_of (rfl : zcd wR 0 = 50) rfl) (zrf_of (rfl : zcd wR 0 = 50) rfl) (Or.inl (hts _ (z_mem k989))) dX12_dies_27 ?_
  refine lv_iload_n hx hb dX12_dies_30 rfl (lv_at hl 0 rfl) ?_
  refine z_iald (n := 4001) hx hb hK.1 (t0 := 0) rfl hS (by decide) (zkd_of (rfl : zcd wR 30 = 80) rfl) (zln_of (rfl : zcd wR 30 = 80) rfl) (by decide) (by decide) (by decide) dX12_dies_31 ?_
  refine z_top (show M4 30 ((2 : Int).toNat) = 0 from by rw [ar8 _ (by omega)]) ?_
  refine z_if_ne (tgt := 41) hx hb (by decide) dX12_dies_32 (by decide) (fun c16 => absurd c16 (by decide)) (fun c16 => ?_)
  refine lv_iload_n hx hb dX12_dies_35 rfl (lv_at hl 1 rfl) ?_
  refine z_iconst hx hb dX12_dies_36 ?_
  refine z_iadd hx hb dX12_dies_37 ?_
  refine z_top (show ((2 + 1) : Int) = 3 from (by decide)) ?_
  refine lv_goto (tgt := 42) hx hb dX12_dies_38 (by decide) ?_
  refine lv_istore_n (lv' := [(1, .int (iI 3)), (2, .int (iI 2)), (0, .ref (b + 0))]) hx hb dX12_dies_42 rfl hl (by decide) rfl (fun ls hl => ?_)
  refine lv_iload_n hx hb dX12_dies_43 rfl (lv_at hl 0 rfl) ?_
  refine z_bipush hx hb (by decide) dX12_dies_44 ?_
  refine z_icmp_ne (tgt := 56) hx hb (by decide) (by decide) dX12_dies_46 (by decide) (fun c17 => ?_) (fun c17 => absurd c17 (by decide))
  refine z_iinc (lv' := [(2, .int (iI (2 + 1))), (1, .int (iI 3)), (0, .ref (b + 0))]) hx hb dX12_dies_56 hl (k := 1) rfl (by decide) rfl (fun ls hl => ?_)
  rw [show ((2 + 1) : Int) = 3 from by decide] at hl
  refine lv_goto (tgt := 19) hx hb dX12_dies_59 (by decide) ?_
  refine lv_iload_n hx hb dX12_dies_19 rfl (lv_at hl 0 rfl) ?_
  refine z_sipush hx hb (by decide) dX12_dies_20 ?_
  refine z_icmp_gt (tgt := 62) hx hb (by decide) (by decide) dX12_dies_23 (by decide) (fun c18 => absurd c18 (by decide)) (fun c18 => ?_)
  refine lv_aload_n hx hb dX12_dies_26 rfl (lv_at hl 2 rfl) ?_
  refine z_getr (j2 := 30) hx hb hts (z_memU u12) hown hK.1 hS f12_45 (by decide) (zkd_of (rfl : zcd wR 0 = 50) rfl) (zrf_of (rfl : zcd wR 0 = 50) rfl) (Or.inl (hts _ (z_mem k989))) dX12_dies_27 ?_
  refine lv_iload_n hx hb dX12_dies_30 rfl (lv_at hl 0 rfl) ?_
  refine z_iald (n := 4001) hx hb hK.1 (t0 := 0) rfl hS (by decide) (zkd_of (rfl : zcd wR 30 = 80) rfl) (zln_of (rfl : zcd wR 30 = 80) rfl) (by decide) (by decide) (by decide) dX12_dies_31 ?_
  refine z_top (show M4 30 ((3 : Int).toNat) = 0 from by rw [ar8 _ (by omega)]) ?_
  refine z_if_ne (tgt := 41) hx hb (by decide) dX12_dies_32 (by decide) (fun c19 => absurd c19 (by decide)) (fun c19 => ?_)
  refine lv_iload_n hx hb dX12_dies_35 rfl (lv_at hl 1 rfl) ?_
  refine z_iconst hx hb dX12_dies_36 ?_
  refine z_iadd hx hb dX12_dies_37 ?_
  refine z_top (show ((3 + 1) : Int) = 4 from (by decide)) ?_
  refine lv_goto (tgt := 42) hx hb dX12_dies_38 (by decide) ?_
  refine lv_istore_n (lv' := [(1, .int (iI 4)), (2, .int (iI 3)), (0, .ref (b + 0))]) hx hb dX12_dies_42 rfl hl (by decide) rfl (fun ls hl => ?_)
  refine lv_iload_n hx hb dX12_dies_43 rfl (lv_at hl 0 rfl) ?_
  refine z_bipush hx hb (by decide) dX12_dies_44 ?_
  refine z_icmp_ne (tgt := 56) hx hb (by decide) (by decide) dX12_dies_46 (by decide) (fun c20 => ?_) (fun c20 => absurd c20 (by decide))
  refine z_iinc (lv' := [(2, .int (iI (3 + 1))), (1, .int (iI 4)), (0, .ref (b + 0))]) hx hb dX12_dies_56 hl (k := 1) rfl (by decide) rfl (fun ls hl => ?_)
  rw [show ((3 + 1) : Int) = 4 from by decide] at hl
  refine lv_goto (tgt := 19) hx hb dX12_dies_59 (by decide) ?_
  refine lv_iload_n hx hb dX12_dies_19 rfl (lv_at hl 0 rfl) ?_
  refine z_sipush hx hb (by decide) dX12_dies_20 ?_
  refine z_icmp_gt (tgt := 62) hx hb (by decide) (by decide) dX12_dies_23 (by decide) (fun c21 => absurd c21 (by decide)) (fun c21 => ?_)
  refine lv_aload_n hx hb dX12_dies_26 rfl (lv_at hl 2 rfl) ?_
  refine z_getr (j2 := 30) hx hb hts (z_memU u12) hown hK.1 hS f12_45 (by decide) (zkd_of (rfl : zcd wR 0 = 50) rfl) (zrf_of (rfl : zcd wR 0 = 50) rfl) (Or.inl (hts _ (z_mem k989))) dX12_dies_27 ?_
  refine lv_iload_n hx hb dX12_dies_30 rfl (lv_at hl 0 rfl) ?_
  refine z_iald (n := 4001) hx hb hK.1 (t0 := 0) rfl hS (by decide) (zkd_of (rfl : zcd wR 30 = 80) rfl) (zln_of (rfl : zcd wR 30 = 80) rfl) (by decide) (by decide) (by decide) dX12_dies_31 ?_
  refine z_top (show M4 30 ((4 : Int).toNat) = 0 from by rw [ar8 _ (by omega)]) ?_
  refine z_if_ne (tgt := 41) hx hb (by decide) dX12_dies_32 (by decide) (fun c22 => absurd c22 (by decide)) (fun c22 => ?_)
  refine lv_iload_n hx hb dX12_dies_35 rfl (lv_at hl 1 rfl) ?_
  refine z_iconst hx hb dX12_dies_36 ?_
  refine z_iadd hx hb dX12_dies_37 ?_
  refine z_top (show ((4 + 1) : Int) = 5 from (by decide)) ?_
  refine lv_goto (tgt := 42) hx hb dX12_dies_38 (by decide) ?_
  refine lv_istore_n (lv' := [(1, .int (iI 5)), (2, .int (iI 4)), (0, .ref (b + 0))]) hx hb dX12_dies_42 rfl hl (by decide) rfl (fun ls hl => ?_)
  refine lv_iload_n hx hb dX12_dies_43 rfl (lv_at hl 0 rfl) ?_
  refine z_bipush hx hb (by decide) dX12_dies_44 ?_
  refine z_icmp_ne (tgt := 56) hx hb (by decide) (by decide) dX12_dies_46 (by decide) (fun c23 => ?_) (fun c23 => absurd c23 (by decide))
  refine z_iinc (lv' := [(2, .int (iI (4 + 1))), (1, .int (iI 5)), (0, .ref (b + 0))]) hx hb dX12_dies_56 hl (k := 1) rfl (by decide) rfl (fun ls hl => ?_)
  rw [show ((4 + 1) : Int) = 5 from by decide] at hl
  refine lv_goto (tgt := 19) hx hb dX12_dies_59 (by decide) ?_
  refine lv_iload_n hx hb dX12_dies_19 rfl (lv_at hl 0 rfl) ?_
  refine z_sipush hx hb (by decide) dX12_dies_20 ?_
  refine z_icmp_gt (tgt := 62) hx hb (by decide) (by decide) dX12_dies_23 (by decide) (fun c24 => absurd c24 (by decide)) (fun c24 => ?_)
  refine lv_aload_n hx hb dX12_dies_26 rfl (lv_at hl 2 rfl) ?_
  refine z_getr (j2 := 30) hx hb hts (z_memU u12) hown hK.1 hS f12_45 (by decide) (zkd_of (rfl : zcd wR 0 = 50) rfl) (zrf_of (rfl : zcd wR 0 = 50) rfl) (Or.inl (hts _ (z_mem k989))) dX12_dies_27 ?_
  refine lv_iload_n hx hb dX12_dies_30 rfl (lv_at hl 0 rfl) ?_
  refine z_iald (n := 4001) hx hb hK.1 (t0 := 0) rfl hS (by decide) (zkd_of (rfl : zcd wR 30 = 80) rfl) (zln_of (rfl : zcd wR 30 = 80) rfl) (by decide) (by decide) (by decide) dX12_dies_31 ?_
  refine z_top (show M4 30 ((5 : Int).toNat) = 0 from by rw [ar8 _ (by omega)]) ?_
  refine z_if_ne (tgt := 41) hx hb (by decide) dX12_dies_32 (by decide) (fun c25 => absurd c25 (by decide)) (fun c25 => ?_)
  refine lv_iload_n hx hb dX12_dies_35 rfl (lv_at hl 1 rfl) ?_
  refine z_iconst hx hb dX12_dies_36 ?_
  refine z_iadd hx hb dX12_dies_37 ?_
  refine z_top (show ((5 + 1) : Int) = 6 from (by decide)) ?_
  refine lv_goto (tgt := 42) hx hb dX12_dies_38 (by decide) ?_
  refine lv_istore_n (lv' := [(1, .int (iI 6)), (2, .int (iI 5)), (0, .ref (b + 0))]) hx hb dX12_dies_42 rfl hl (by decide) rfl (fun ls hl => ?_)
  refine lv_iload_n hx hb dX12_dies_43 rfl (lv_at hl 0 rfl) ?_
  refine z_bipush hx hb (by decide) dX12_dies_44 ?_
  refine z_icmp_ne (tgt := 56) hx hb (by decide) (by decide) dX12_dies_46 (by decide) (fun c26 => ?_) (fun c26 => absurd c26 (by decide))
  refine z_iinc (lv' := [(2, .int (iI (5 + 1))), (1, .int (iI 6)), (0, .ref (b + 0))]) hx hb dX12_dies_56 hl (k := 1) rfl (by decide) rfl (fun ls hl => ?_)
  rw [show ((5 + 1) : Int) = 6 from by decide] at hl
  refine lv_goto (tgt := 19) hx hb dX12_dies_59 (by decide) ?_
  refine lv_iload_n hx hb dX12_dies_19 rfl (lv_at hl 0 rfl) ?_
  refine z_sipush hx hb (by decide) dX12_dies_20 ?_
  refine z_icmp_gt (tgt := 62) hx hb (by decide) (by decide) dX12_dies_23 (by decide) (fun c27 => absurd c27 (by decide)) (fun c27 => ?_)
  refine lv_aload_n hx hb dX12_dies_26 rfl (lv_at hl 2 rfl) ?_
  refine z_getr (j2 := 30) hx hb hts (z_memU u12) hown hK.1 hS f12_45 (by decide) (zkd_of (rfl : zcd wR 0 = 50) rfl) (zrf_of (rfl : zcd wR 0 = 50) rfl) (Or.inl (hts _ (z_mem k989))) dX12_dies_27 ?_
  refine lv_iload_n hx hb dX12_dies_30 rfl (lv_at hl 0 rfl) ?_
  refine z_iald (n := 4001) hx hb hK.1 (t0 := 0) rfl hS (by decide) (zkd_of (rfl : zcd wR 30 = 80) rfl) (zln_of (rfl : zcd wR 30 = 80) rfl) (by decide) (by decide) (by decide) dX12_dies_31 ?_
  refine z_top (show M4 30 ((6 : Int).toNat) = 0 from by rw [ar8 _ (by omega)]) ?_
  refine z_if_ne (tgt := 41) hx hb (by decide) dX12_dies_32 (by decide) (fun c28 => absurd c28 (by decide)) (fun c28 => ?_)
  refine lv_iload_n hx hb dX12_dies_35 rfl (lv_at hl 1 rfl) ?_
  refine z_iconst hx hb dX12_dies_36 ?_
  refine z_iadd hx hb dX12_dies_37 ?_
  refine z_top (show ((6 + 1) : Int) = 7 from (by decide)) ?_
  refine lv_goto (tgt := 42) hx hb dX12_dies_38 (by decide) ?_
  refine lv_istore_n (lv' := [(1, .int (iI 7)), (2, .int (iI 6)), (0, .ref (b + 0))]) hx hb dX12_dies_42 rfl hl (by decide) rfl (fun ls hl => ?_)
  refine lv_iload_n hx hb dX12_dies_43 rfl (lv_at hl 0 rfl) ?_
  refine z_bipush hx hb (by decide) dX12_dies_44 ?_
  refine z_icmp_ne (tgt := 56) hx hb (by decide) (by decide) dX12_dies_46 (by decide) (fun c29 => ?_) (fun c29 => absurd c29 (by decide))
  refine z_iinc (lv' := [(2, .int (iI (6 + 1))), (1, .int (iI 7)), (0, .ref (b + 0))]) hx hb dX12_dies_56 hl (k := 1) rfl (by decide) rfl (fun ls hl => ?_)
  rw [show ((6 + 1) : Int) = 7 from by decide] at hl
  refine lv_goto (tgt := 19) hx hb dX12_dies_59 (by decide) ?_
  refine lv_iload_n hx hb dX12_dies_19 rfl (lv_at hl 0 rfl) ?_
  refine z_sipush hx hb (by decide) dX12_dies_20 ?_
  refine z_icmp_gt (tgt := 62) hx hb (by decide) (by decide) dX12_dies_23 (by decide) (fun c30 => absurd c30 (by decide)) (fun c30 => ?_)
  refine lv_aload_n hx hb dX12_dies_26 rfl (lv_at hl 2 rfl) ?_
  refine z_getr (j2 := 30) hx hb hts (z_memU u12) hown hK.1 hS f12_45 (by decide) (zkd_of (rfl : zcd wR 0 = 50) rfl) (zrf_of (rfl : zcd wR 0 = 50) rfl) (Or.inl (hts _ (z_mem k989))) dX12_dies_27 ?_
  refine lv_iload_n hx hb dX12_dies_30 rfl (lv_at hl 0 rfl) ?_
  refine z_iald (n := 4001) hx hb hK.1 (t0 := 0) rfl hS (by decide) (zkd_of (rfl : zcd wR 30 = 80) rfl) (zln_of (rfl : zcd wR 30 = 80) rfl) (by decide) (by decide) (by decide) dX12_dies_31 ?_
  refine z_top (show M4 30 ((7 : Int).toNat) = 0 from by rw [ar8 _ (by omega)]) ?_
  refine z_if_ne (tgt := 41) hx hb (by decide) dX12_dies_32 (by decide) (fun c31 => absurd c31 (by decide)) (fun c31 => ?_)
  refine lv_iload_n hx hb dX12_dies_35 rfl (lv_at hl 1 rfl) ?_
  refine z_iconst hx hb dX12_dies_36 ?_
  refine z_iadd hx hb dX12_dies_37 ?_
  refine z_top (show ((7 + 1) : Int) = 8 from (by decide)) ?_
  refine lv_goto (tgt := 42) hx hb dX12_dies_38 (by decide) ?_
  refine lv_istore_n (lv' := [(1, .int (iI 8)), (2, .int (iI 7)), (0, .ref (b + 0))]) hx hb dX12_dies_42 rfl hl (by decide) rfl (fun ls hl => ?_)
  refine lv_iload_n hx hb dX12_dies_43 rfl (lv_at hl 0 rfl) ?_
  refine z_bipush hx hb (by decide) dX12_dies_44 ?_
  refine z_icmp_ne (tgt := 56) hx hb (by decide) (by decide) dX12_dies_46 (by decide) (fun c32 => ?_) (fun c32 => absurd c32 (by decide))
  refine z_iinc (lv' := [(2, .int (iI (7 + 1))), (1, .int (iI 8)), (0, .ref (b + 0))]) hx hb dX12_dies_56 hl (k := 1) rfl (by decide) rfl (fun ls hl => ?_)
  rw [show ((7 + 1) : Int) = 8 from by decide] at hl
  refine lv_goto (tgt := 19) hx hb dX12_dies_59 (by decide) ?_
  refine lv_iload_n hx hb dX12_dies_19 rfl (lv_at hl 0 rfl) ?_
  refine z_sipush hx hb (by decide) dX12_dies_20 ?_
  refine z_icmp_gt (tgt := 62) hx hb (by decide) (by decide) dX12_dies_23 (by decide) (fun c33 => absurd c33 (by decide)) (fun c33 => ?_)
  refine lv_aload_n hx hb dX12_dies_26 rfl (lv_at hl 2 rfl) ?_
  refine z_getr (j2 := 30) hx hb hts (z_memU u12) hown hK.1 hS f12_45 (by decide) (zkd_of (rfl : zcd wR 0 = 50) rfl) (zrf_of (rfl : zcd wR 0 = 50) rfl) (Or.inl (hts _ (z_mem k989))) dX12_dies_27 ?_
  refine lv_iload_n hx hb dX12_dies_30 rfl (lv_at hl 0 rfl) ?_
  refine z_iald (n := 4001) hx hb hK.1 (t0 := 0) rfl hS (by decide) (zkd_of (rfl : zcd wR 30 = 80) rfl) (zln_of (rfl : zcd wR 30 = 80) rfl) (by decide) (by decide) (by decide) dX12_dies_31 ?_
  refine z_top (show M4 30 ((8 : Int).toNat) = 0 from by rw [ar8 _ (by omega)]) ?_
  refine z_if_ne (tgt := 41) hx hb (by decide) dX12_dies_32 (by decide) (fun c34 => absurd c34 (by decide)) (fun c34 => ?_)
  refine lv_iload_n hx hb dX12_dies_35 rfl (lv_at hl 1 rfl) ?_
  refine z_iconst hx hb dX12_dies_36 ?_
  refine z_iadd hx hb dX12_dies_37 ?_
  refine z_top (show ((8 + 1) : Int) = 9 from (by decide)) ?_
  refine lv_goto (tgt := 42) hx hb dX12_dies_38 (by decide) ?_
  refine lv_istore_n (lv' := [(1, .int (iI 9)), (2, .int (iI 8)), (0, .ref (b + 0))]) hx hb dX12_dies_42 rfl hl (by decide) rfl (fun ls hl => ?_)
  refine lv_iload_n hx hb dX12_dies_43 rfl (lv_at hl 0 rfl) ?_
  refine z_bipush hx hb (by decide) dX12_dies_44 ?_
  refine z_icmp_ne (tgt := 56) hx hb (by decide) (by decide) dX12_dies_46 (by decide) (fun c35 => ?_) (fun c35 => absurd c35 (by decide))
  refine z_iinc (lv' := [(2, .int (iI (8 + 1))), (1, .int (iI 9)), (0, .ref (b + 0))]) hx hb dX12_dies_56 hl (k := 1) rfl (by decide) rfl (fun ls hl => ?_)
  rw [show ((8 + 1) : Int) = 9 from by decide] at hl
  refine lv_goto (tgt := 19) hx hb dX12_dies_59 (by decide) ?_
  refine lv_iload_n hx hb dX12_dies_19 rfl (lv_at hl 0 rfl) ?_
  refine z_sipush hx hb (by decide) dX12_dies_20 ?_
  refine z_icmp_gt (tgt := 62) hx hb (by decide) (by decide) dX12_dies_23 (by decide) (fun c36 => absurd c36 (by decide)) (fun c36 => ?_)
  refine lv_aload_n hx hb dX12_dies_26 rfl (lv_at hl 2 rfl) ?_
  refine z_getr (j2 := 30) hx hb hts (z_memU u12) hown hK.1 hS f12_45 (by decide) (zkd_of (rfl : zcd wR 0 = 50) rfl) (zrf_of (rfl : zcd wR 0 = 50) rfl) (Or.inl (hts _ (z_mem k989))) dX12_dies_27 ?_
  refine lv_iload_n hx hb dX12_dies_30 rfl (lv_at hl 0 rfl) ?_
  refine z_iald (n := 4001) hx hb hK.1 (t0 := 0) rfl hS (by decide) (zkd_of (rfl : zcd wR 30 = 80) rfl) (zln_of (rfl : zcd wR 30 = 80) rfl) (by decide) (by decide) (by decide) dX12_dies_31 ?_
  refine z_top (show M4 30 ((9 : Int).toNat) = 0 from by rw [ar8 _ (by omega)]) ?_
  refine z_if_ne (tgt := 41) hx hb (by decide) dX12_dies_32 (by decide) (fun c37 => absurd c37 (by decide)) (fun c37 => ?_)
  refine lv_iload_n hx hb dX12_dies_35 rfl (lv_at hl 1 rfl) ?_
  refine z_iconst hx hb dX12_dies_36 ?_
  refine z_iadd hx hb dX12_dies_37 ?_
  refine z_top (show ((9 + 1) : Int) = 10 from (by decide)) ?_
  refine lv_goto (tgt := 42) hx hb dX12_dies_38 (by decide) ?_
  refine lv_istore_n (lv' := [(1, .int (iI 10)), (2, .int (iI 9)), (0, .ref (b + 0))]) hx hb dX12_dies_42 rfl hl (by decide) rfl (fun ls hl => ?_)
  refine lv_iload_n hx hb dX12_dies_43 rfl (lv_at hl 0 rfl) ?_
  refine z_bipush hx hb (by decide) dX12_dies_44 ?_
  refine z_icmp_ne (tgt := 56) hx hb (by decide) (by decide) dX12_dies_46 (by decide) (fun c38 => ?_) (fun c38 => absurd c38 (by decide))
  refine z_iinc (lv' := [(2, .int (iI (9 + 1))), (1, .int (iI 10)), (0, .ref (b + 0))]) hx hb dX12_dies_56 hl (k := 1) rfl (by decide) rfl (fun ls hl => ?_)
  rw [show ((9 + 1) : Int) = 10 from by decide] at hl
  refine lv_goto (tgt := 19) hx hb dX12_dies_59 (by decide) ?_
  refine lv_iload_n hx hb dX12_dies_19 rfl (lv_at hl 0 rfl) ?_
  refine z_sipush hx hb (by decide) dX12_dies_20 ?_
  refine z_icmp_gt (tgt := 62) hx hb (by decide) (by decide) dX12_dies_23 (by decide) (fun c39 => absurd c39 (by decide)) (fun c39 => ?_)
  refine lv_aload_n hx hb dX12_dies_26 rfl (lv_at hl 2 rfl) ?_
  refine z_getr (j2 := 30) hx hb hts (z_memU u12) hown hK.1 hS f12_45 (by decide) (zkd_of (rfl : zcd wR 0 = 50) rfl) (zrf_of (rfl : zcd wR 0 = 50) rfl) (Or.inl (hts _ (z_mem k989))) dX12_dies_27 ?_
  refine lv_iload_n hx hb dX12_dies_30 rfl (lv_at hl 0 rfl) ?_
  refine z_iald (n := 4001) hx hb hK.1 (t0 := 0) rfl hS (by decide) (zkd_of (rfl : zcd wR 30 = 80) rfl) (zln_of (rfl : zcd wR 30 = 80) rfl) (by decide) (by decide) (by decide) dX12_dies_31 ?_
  refine z_top (show M4 30 ((10 : Int).toNat) = 0 from by rw [ar8 _ (by omega)]) ?_
  refine z_if_ne (tgt := 41) hx hb (by decide) dX12_dies_32 (by decide) (fun c40 => absurd c40 (by decide)) (fun c40 => ?_)
  refine lv_iload_n hx hb dX12_dies_35 rfl (lv_at hl 1 rfl) ?_
  refine z_iconst hx hb dX12_dies_36 ?_
  refine z_iadd hx hb dX12_dies_37 ?_
  refine z_top (show ((10 + 1) : Int) = 11 from (by decide)) ?_
  refine lv_goto (tgt := 42) hx hb dX12_dies_38 (by decide) ?_
  refine lv_istore_n (lv' := [(1, .int (iI 11)), (2, .int (iI 10)), (0, .ref (b + 0))]) hx hb dX12_dies_42 rfl hl (by decide) rfl (fun ls hl => ?_)
  refine lv_iload_n hx hb dX12_dies_43 rfl (lv_at hl 0 rfl) ?_
  refine z_bipush hx hb (by decide) dX12_dies_44 ?_
  refine z_icmp_ne (tgt := 56) hx hb (by decide) (by decide) dX12_dies_46 (by decide) (fun c41 => ?_) (fun c41 => absurd c41 (by decide))
  refine z_iinc (lv' := [(2, .int (iI (10 + 1))), (1, .int (iI 11)), (0, .ref (b + 0))]) hx hb dX12_dies_56 hl (k := 1) rfl (by decide) rfl (fun ls hl => ?_)
  rw [show ((10 + 1) : Int) = 11 from by decide] at hl
  refine lv_goto (tgt := 19) hx hb dX12_dies_59 (by decide) ?_
  refine lv_iload_n hx hb dX12_dies_19 rfl (lv_at hl 0 rfl) ?_
  refine z_sipush hx hb (by decide) dX12_dies_20 ?_
  refine z_icmp_gt (tgt := 62) hx hb (by decide) (by decide) dX12_dies_23 (by decide) (fun c42 => absurd c42 (by decide)) (fun c42 => ?_)
  refine lv_aload_n hx hb dX12_dies_26 rfl (lv_at hl 2 rfl) ?_
  refine z_getr (j2 := 30) hx hb hts (z_memU u12) hown hK.1 hS f12_45 (by decide) (zkd_of (rfl : zcd wR 0 = 50) rfl) (zrf_of (rfl : zcd wR 0 = 50) rfl) (Or.inl (hts _ (z_mem k989))) dX12_dies_27 ?_
  refine lv_iload_n hx hb dX12_dies_30 rfl (lv_at hl 0 rfl) ?_
  refine z_iald (n := 4001) hx hb hK.1 (t0 := 0) rfl hS (by decide) (zkd_of (rfl : zcd wR 30 = 80) rfl) (zln_of (rfl : zcd wR 30 = 80) rfl) (by decide) (by decide) (by decide) dX12_dies_31 ?_
  refine z_top (show M4 30 ((11 : Int).toNat) = 0 from by rw [ar8 _ (by omega)]) ?_
  refine z_if_ne (tgt := 41) hx hb (by decide) dX12_dies_32 (by decide) (fun c43 => absurd c43 (by decide)) (fun c43 => ?_)
  refine lv_iload_n hx hb dX12_dies_35 rfl (lv_at hl 1 rfl) ?_
  refine z_iconst hx hb dX12_dies_36 ?_
  refine z_iadd hx hb dX12_dies_37 ?_
  refine z_top (show ((11 + 1) : Int) = 12 from (by decide)) ?_
  refine lv_goto (tgt := 42) hx hb dX12_dies_38 (by decide) ?_
  refine lv_istore_n (lv' := [(1, .int (iI 12)), (2, .int (iI 11)), (0, .ref (b + 0))]) hx hb dX12_dies_42 rfl hl (by decide) rfl (fun ls hl => ?_)
  refine lv_iload_n hx hb dX12_dies_43 rfl (lv_at hl 0 rfl) ?_
  refine z_bipush hx hb (by decide) dX12_dies_44 ?_
  refine z_icmp_ne (tgt := 56) hx hb (by decide) (by decide) dX12_dies_46 (by decide) (fun c44 => ?_) (fun c44 => absurd c44 (by decide))
  refine z_iinc (lv' := [(2, .int (iI (11 + 1))), (1, .int (iI 12)), (0, .ref (b + 0))]) hx hb dX12_dies_56 hl (k := 1) rfl (by decide) rfl (fun ls hl => ?_)
  rw [show ((11 + 1) : Int) = 12 from by decide] at hl
  refine lv_goto (tgt := 19) hx hb dX12_dies_59 (by decide) ?_
  refine lv_iload_n hx hb dX12_dies_19 rfl (lv_at hl 0 rfl) ?_
  refine z_sipush hx hb (by decide) dX12_dies_20 ?_
  refine z_icmp_gt (tgt := 62) hx hb (by decide) (by decide) dX12_dies_23 (by decide) (fun c45 => absurd c45 (by decide)) (fun c45 => ?_)
  refine lv_aload_n hx hb dX12_dies_26 rfl (lv_at hl 2 rfl) ?_
  refine z_getr (j2 := 30) hx hb hts (z_memU u12) hown hK.1 hS f12_45 (by decide) (zkd_of (rfl : zcd wR 0 = 50) rfl) (zrf_of (rfl : zcd wR 0 = 50) rfl) (Or.inl (hts _ (z_mem k989))) dX12_dies_27 ?_
  refine lv_iload_n hx hb dX12_dies_30 rfl (lv_at hl 0 rfl) ?_
  refine z_iald (n := 4001) hx hb hK.1 (t0 := 0) rfl hS (by decide) (zkd_of (rfl : zcd wR 30 = 80) rfl) (zln_of (rfl : zcd wR 30 = 80) rfl) (by decide) (by decide) (by decide) dX12_dies_31 ?_
  refine z_top (show M4 30 ((12 : Int).toNat) = 0 from by rw [ar8 _ (by omega)]) ?_
  refine z_if_ne (tgt := 41) hx hb (by decide) dX12_dies_32 (by decide) (fun c46 => absurd c46 (by decide)) (fun c46 => ?_)
  refine lv_iload_n hx hb dX12_dies_35 rfl (lv_at hl 1 rfl) ?_
  refine z_iconst hx hb dX12_dies_36 ?_
  refine z_iadd hx hb dX12_dies_37 ?_
  refine z_top (show ((12 + 1) : Int) = 13 from (by decide)) ?_
  refine lv_goto (tgt := 42) hx hb dX12_dies_38 (by decide) ?_
  refine lv_istore_n (lv' := [(1, .int (iI 13)), (2, .int (iI 12)), (0, .ref (b + 0))]) hx hb dX12_dies_42 rfl hl (by decide) rfl (fun ls hl => ?_)
  refine lv_iload_n hx hb dX12_dies_43 rfl (lv_at hl 0 rfl) ?_
  refine z_bipush hx hb (by decide) dX12_dies_44 ?_
  refine z_icmp_ne (tgt := 56) hx hb (by decide) (by decide) dX12_dies_46 (by decide) (fun c47 => ?_) (fun c47 => absurd c47 (by decide))
  refine z_iinc (lv' := [(2, .int (iI (12 + 1))), (1, .int (iI 13)), (0, .ref (b + 0))]) hx hb dX12_dies_56 hl (k := 1) rfl (by decide) rfl (fun ls hl => ?_)
  rw [show ((12 + 1) : Int) = 13 from by decide] at hl
  refine lv_goto (tgt := 19) hx hb dX12_dies_59 (by decide) ?_
  refine lv_iload_n hx hb dX12_dies_19 rfl (lv_at hl 0 rfl) ?_
  refine z_sipush hx hb (by decide) dX12_dies_20 ?_
  refine z_icmp_gt (tgt := 62) hx hb (by decide) (by decide) dX12_dies_23 (by decide) (fun c48 => absurd c48 (by decide)) (fun c48 => ?_)
  refine lv_aload_n hx hb dX12_dies_26 rfl (lv_at hl 2 rfl) ?_
  refine z_getr (j2 := 30) hx hb hts (z_memU u12) hown hK.1 hS f12_45 (by decide) (zkd_of (rfl : zcd wR 0 = 50) rfl) (zrf_of (rfl : zcd wR 0 = 50) rfl) (Or.inl (hts _ (z_mem k989))) dX12_dies_27 ?_
  refine lv_iload_n hx hb dX12_dies_30 rfl (lv_at hl 0 rfl) ?_
  refine z_iald (n := 4001) hx hb hK.1 (t0 := 0) rfl hS (by decide) (zkd_of (rfl : zcd wR 30 = 80) rfl) (zln_of (rfl : zcd wR 30 = 80) rfl) (by decide) (by decide) (by decide) dX12_dies_31 ?_
  refine z_top (show M4 30 ((13 : Int).toNat) = 0 from by rw [ar8 _ (by omega)]) ?_
  refine z_if_ne (tgt := 41) hx hb (by decide) dX12_dies_32 (by decide) (fun c49 => absurd c49 (by decide)) (fun c49 => ?_)
  refine lv_iload_n hx hb dX12_dies_35 rfl (lv_at hl 1 rfl) ?_
  refine z_iconst hx hb dX12_dies_36 ?_
  refine z_iadd hx hb dX12_dies_37 ?_
  refine z_top (show ((13 + 1) : Int) = 14 from (by decide)) ?_
  refine lv_goto (tgt := 42) hx hb dX12_dies_38 (by decide) ?_
  refine lv_istore_n (lv' := [(1, .int (iI 14)), (2, .int (iI 13)), (0, .ref (b + 0))]) hx hb dX12_dies_42 rfl hl (by decide) rfl (fun ls hl => ?_)
  refine lv_iload_n hx hb dX12_dies_43 rfl (lv_at hl 0 rfl) ?_
  refine z_bipush hx hb (by decide) dX12_dies_44 ?_
  refine z_icmp_ne (tgt := 56) hx hb (by decide) (by decide) dX12_dies_46 (by decide) (fun c50 => ?_) (fun c50 => absurd c50 (by decide))
  refine z_iinc (lv' := [(2, .int (iI (13 + 1))), (1, .int (iI 14)), (0, .ref (b + 0))]) hx hb dX12_dies_56 hl (k := 1) rfl (by decide) rfl (fun ls hl => ?_)
  rw [show ((13 + 1) : Int) = 14 from by decide] at hl
  refine lv_goto (tgt := 19) hx hb dX12_dies_59 (by decide) ?_
  refine lv_iload_n hx hb dX12_dies_19 rfl (lv_at hl 0 rfl) ?_
  refine z_sipush hx hb (by decide) dX12_dies_20 ?_
  refine z_icmp_gt (tgt := 62) hx hb (by decide) (by decide) dX12_dies_23 (by decide) (fun c51 => absurd c51 (by decide)) (fun c51 => ?_)
  refine lv_aload_n hx hb dX12_dies_26 rfl (lv_at hl 2 rfl) ?_
  refine z_getr (j2 := 30) hx hb hts (z_memU u12) hown hK.1 hS f12_45 (by decide) (zkd_of (rfl : zcd wR 0 = 50) rfl) (zrf_of (rfl : zcd wR 0 = 50) rfl) (Or.inl (hts _ (z_mem k989))) dX12_dies_27 ?_
  refine lv_iload_n hx hb dX12_dies_30 rfl (lv_at hl 0 rfl) ?_
  refine z_iald (n := 4001) hx hb hK.1 (t0 := 0) rfl hS (by decide) (zkd_of (rfl : zcd wR 30 = 80) rfl) (zln_of (rfl : zcd wR 30 = 80) rfl) (by decide) (by decide) (by decide) dX12_dies_31 ?_
  refine z_top (show M4 30 ((14 : Int).toNat) = 0 from by rw [ar8 _ (by omega)]) ?_
  refine z_if_ne (tgt := 41) hx hb (by decide) dX12_dies_32 (by decide) (fun c52 => absurd c52 (by decide)) (fun c52 => ?_)
  refine lv_iload_n hx hb dX12_dies_35 rfl (lv_at hl 1 rfl) ?_
  refine z_iconst hx hb dX12_dies_36 ?_
  refine z_iadd hx hb dX12_dies_37 ?_
  refine z_top (show ((14 + 1) : Int) = 15 from (by decide)) ?_
  refine lv_goto (tgt := 42) hx hb dX12_dies_38 (by decide) ?_
  refine lv_istore_n (lv' := [(1, .int (iI 15)), (2, .int (iI 14)), (0, .ref (b + 0))]) hx hb dX12_dies_42 rfl hl (by decide) rfl (fun ls hl => ?_)
  refine lv_iload_n hx hb dX12_dies_43 rfl (lv_at hl 0 rfl) ?_
  refine z_bipush hx hb (by decide) dX12_dies_44 ?_
  refine z_icmp_ne (tgt := 56) hx hb (by decide) (by decide) dX12_dies_46 (by decide) (fun c53 => ?_) (fun c53 => absurd c53 (by decide))
  refine z_iinc (lv' := [(2, .int (iI (14 + 1))), (1, .int (iI 15)), (0, .ref (b + 0))]) hx hb dX12_dies_56 hl (k := 1) rfl (by decide) rfl (fun ls hl => ?_)
  rw [show ((14 + 1) : Int) = 15 from by decide] at hl
  refine lv_goto (tgt := 19) hx hb dX12_dies_59 (by decide) ?_
  refine lv_iload_n hx hb dX12_dies_19 rfl (lv_at hl 0 rfl) ?_
  refine z_sipush hx hb (by decide) dX12_dies_20 ?_
  refine z_icmp_gt (tgt := 62) hx hb (by decide) (by decide) dX12_dies_23 (by decide) (fun c54 => absurd c54 (by decide)) (fun c54 => ?_)
  refine lv_aload_n hx hb dX12_dies_26 rfl (lv_at hl 2 rfl) ?_
  refine z_getr (j2 := 30) hx hb hts (z_memU u12) hown hK.1 hS f12_45 (by decide) (zkd_of (rfl : zcd wR 0 = 50) rfl) (zrf_of (rfl : zcd wR 0 = 50) rfl) (Or.inl (hts _ (z_mem k989))) dX12_dies_27 ?_
  refine lv_iload_n hx hb dX12_dies_30 rfl (lv_at hl 0 rfl) ?_
  refine z_iald (n := 4001) hx hb hK.1 (t0 := 0) rfl hS (by decide) (zkd_of (rfl : zcd wR 30 = 80) rfl) (zln_of (rfl : zcd wR 30 = 80) rfl) (by decide) (by decide) (by decide) dX12_dies_31 ?_
  refine z_top (show M4 30 ((15 : Int).toNat) = 0 from by rw [ar8 _ (by omega)]) ?_
  refine z_if_ne (tgt := 41) hx hb (by decide) dX12_dies_32 (by decide) (fun c55 => absurd c55 (by decide)) (fun c55 => ?_)
  refine lv_iload_n hx hb dX12_dies_35 rfl (lv_at hl 1 rfl) ?_
  refine z_iconst hx hb dX12_dies_36 ?_
  refine z_iadd hx hb dX12_dies_37 ?_
  refine z_top (show ((15 + 1) : Int) = 16 from (by decide)) ?_
  refine lv_goto (tgt := 42) hx hb dX12_dies_38 (by decide) ?_
  refine lv_istore_n (lv' := [(1, .int (iI 16)), (2, .int (iI 15)), (0, .ref (b + 0))]) hx hb dX12_dies_42 rfl hl (by decide) rfl (fun ls hl => ?_)
  refine lv_iload_n hx hb dX12_dies_43 rfl (lv_at hl 0 rfl) ?_
  refine z_bipush hx hb (by decide) dX12_dies_44 ?_
  refine z_icmp_ne (tgt := 56) hx hb (by decide) (by decide) dX12_dies_46 (by decide) (fun c56 => ?_) (fun c56 => absurd c56 (by decide))
  refine z_iinc (lv' := [(2, .int (iI (15 + 1))), (1, .int (iI 16)), (0, .ref (b + 0))]) hx hb dX12_dies_56 hl (k := 1) rfl (by decide) rfl (fun ls hl => ?_)
  rw [show ((15 + 1) : Int) = 16 from by decide] at hl
  refine lv_goto (tgt := 19) hx hb dX12_dies_59 (by decide) ?_
  refine lv_iload_n hx hb dX12_dies_19 rfl (lv_at hl 0 rfl) ?_
  refine z_sipush hx hb (by decide) dX12_dies_20 ?_
  refine z_icmp_gt (tgt := 62) hx hb (by decide) (by decide) dX12_dies_23 (by decide) (fun c57 => absurd c57 (by decide)) (fun c57 => ?_)
  refine lv_aload_n hx hb dX12_dies_26 rfl (lv_at hl 2 rfl) ?_
  refine z_getr (j2 := 30) hx hb hts (z_memU u12) hown hK.1 hS f12_45 (by decide) (zkd_of (rfl : zcd wR 0 = 50) rfl) (zrf_of (rfl : zcd wR 0 = 50) rfl) (Or.inl (hts _ (z_mem k989))) dX12_dies_27 ?_
  refine lv_iload_n hx hb dX12_dies_30 rfl (lv_at hl 0 rfl) ?_
  refine z_iald (n := 4001) hx hb hK.1 (t0 := 0) rfl hS (by decide) (zkd_of (rfl : zcd wR 30 = 80) rfl) (zln_of (rfl : zcd wR 30 = 80) rfl) (by decide) (by decide) (by decide) dX12_dies_31 ?_
  refine z_top (show M4 30 ((16 : Int).toNat) = 0 from by rw [ar8 _ (by omega)]) ?_
  refine z_if_ne (tgt := 41) hx hb (by decide) dX12_dies_32 (by decide) (fun c58 => absurd c58 (by decide)) (fun c58 => ?_)
  refine lv_iload_n hx hb dX12_dies_35 rfl (lv_at hl 1 rfl) ?_
  refine z_iconst hx hb dX12_dies_36 ?_
  refine z_iadd hx hb dX12_dies_37 ?_
  refine z_top (show ((16 + 1) : Int) = 17 from (by decide)) ?_
  refine lv_goto (tgt := 42) hx hb dX12_dies_38 (by decide) ?_
  refine lv_istore_n (lv' := [(1, .int (iI 17)), (2, .int (iI 16)), (0, .ref (b + 0))]) hx hb dX12_dies_42 rfl hl (by decide) rfl (fun ls hl => ?_)
  refine lv_iload_n hx hb dX12_dies_43 rfl (lv_at hl 0 rfl) ?_
  refine z_bipush hx hb (by decide) dX12_dies_44 ?_
  refine z_icmp_ne (tgt := 56) hx hb (by decide) (by decide) dX12_dies_46 (by decide) (fun c59 => ?_) (fun c59 => absurd c59 (by decide))
  refine z_iinc (lv' := [(2, .int (iI (16 + 1))), (1, .int (iI 17)), (0, .ref (b + 0))]) hx hb dX12_dies_56 hl (k := 1) rfl (by decide) rfl (fun ls hl => ?_)
  rw [show ((16 + 1) : Int) = 17 from by decide] at hl
  refine lv_goto (tgt := 19) hx hb dX12_dies_59 (by decide) ?_
  refine lv_iload_n hx hb dX12_dies_19 rfl (lv_at hl 0 rfl) ?_
  refine z_sipush hx hb (by decide) dX12_dies_20 ?_
  refine z_icmp_gt (tgt := 62) hx hb (by decide) (by decide) dX12_dies_23 (by decide) (fun c60 => absurd c60 (by decide)) (fun c60 => ?_)
  refine lv_aload_n hx hb dX12_dies_26 rfl (lv_at hl 2 rfl) ?_
  refine z_getr (j2 := 30) hx hb hts (z_memU u12) hown hK.1 hS f12_45 (by decide) (zkd_of (rfl : zcd wR 0 = 50) rfl) (zrf_of (rfl : zcd wR 0 = 50) rfl) (Or.inl (hts _ (z_mem k989))) dX12_dies_27 ?_
  refine lv_iload_n hx hb dX12_dies_30 rfl (lv_at hl 0 rfl) ?_
  refine z_iald (n := 4001) hx hb hK.1 (t0 := 0) rfl hS (by decide) (zkd_of (rfl : zcd wR 30 = 80) rfl) (zln_of (rfl : zcd wR 30 = 80) rfl) (by decide) (by decide) (by decide) dX12_dies_31 ?_
  refine z_top (show M4 30 ((17 : Int).toNat) = 0 from by rw [ar8 _ (by omega)]) ?_
  refine z_if_ne (tgt := 41) hx hb (by decide) dX12_dies_32 (by decide) (fun c61 => absurd c61 (by decide)) (fun c61 => ?_)
  refine lv_iload_n hx hb dX12_dies_35 rfl (lv_at hl 1 rfl) ?_
  refine z_iconst hx hb dX12_dies_36 ?_
  refine z_iadd hx hb dX12_dies_37 ?_
  refine z_top (show ((17 + 1) : Int) = 18 from (by decide)) ?_
  refine lv_goto (tgt := 42) hx hb dX12_dies_38 (by decide) ?_
  refine lv_istore_n (lv' := [(1, .int (iI 18)), (2, .int (iI 17)), (0, .ref (b + 0))]) hx hb dX12_dies_42 rfl hl (by decide) rfl (fun ls hl => ?_)
  refine lv_iload_n hx hb dX12_dies_43 rfl (lv_at hl 0 rfl) ?_
  refine z_bipush hx hb (by decide) dX12_dies_44 ?_
  refine z_icmp_ne (tgt := 56) hx hb (by decide) (by decide) dX12_dies_46 (by decide) (fun c62 => ?_) (fun c62 => absurd c62 (by decide))
  refine z_iinc (lv' := [(2, .int (iI (17 + 1))), (1, .int (iI 18)), (0, .ref (b + 0))]) hx hb dX12_dies_56 hl (k := 1) rfl (by decide) rfl (fun ls hl => ?_)
  rw [show ((17 + 1) : Int) = 18 from by decide] at hl
  refine lv_goto (tgt := 19) hx hb dX12_dies_59 (by decide) ?_
  refine lv_iload_n hx hb dX12_dies_19 rfl (lv_at hl 0 rfl) ?_
  refine z_sipush hx hb (by decide) dX12_dies_20 ?_
  refine z_icmp_gt (tgt := 62) hx hb (by decide) (by decide) dX12_dies_23 (by decide) (fun c63 => absurd c63 (by decide)) (fun c63 => ?_)
  refine lv_aload_n hx hb dX12_dies_26 rfl (lv_at hl 2 rfl) ?_
  refine z_getr (j2 := 30) hx hb hts (z_memU u12) hown hK.1 hS f12_45 (by decide) (zkd_of (rfl : zcd wR 0 = 50) rfl) (zrf_of (rfl : zcd wR 0 = 50) rfl) (Or.inl (hts _ (z_mem k989))) dX12_dies_27 ?_
  refine lv_iload_n hx hb dX12_dies_30 rfl (lv_at hl 0 rfl) ?_
  refine z_iald (n := 4001) hx hb hK.1 (t0 := 0) rfl hS (by decide) (zkd_of (rfl : zcd wR 30 = 80) rfl) (zln_of (rfl : zcd wR 30 = 80) rfl) (by decide) (by decide) (by decide) dX12_dies_31 ?_
  refine z_top (show M4 30 ((18 : Int).toNat) = 0 from by rw [ar8 _ (by omega)]) ?_
  refine z_if_ne (tgt := 41) hx hb (by decide) dX12_dies_32 (by decide) (fun c64 => absurd c64 (by decide)) (fun c64 => ?_)
  refine lv_iload_n hx hb dX12_dies_35 rfl (lv_at hl 1 rfl) ?_
  refine z_iconst hx hb dX12_dies_36 ?_
  refine z_iadd hx hb dX12_dies_37 ?_
  refine z_top (show ((18 + 1) : Int) = 19 from (by decide)) ?_
  refine lv_goto (tgt := 42) hx hb dX12_dies_38 (by decide) ?_
  refine lv_istore_n (lv' := [(1, .int (iI 19)), (2, .int (iI 18)), (0, .ref (b + 0))]) hx hb dX12_dies_42 rfl hl (by decide) rfl (fun ls hl => ?_)
  refine lv_iload_n hx hb dX12_dies_43 rfl (lv_at hl 0 rfl) ?_
  refine z_bipush hx hb (by decide) dX12_dies_44 ?_
  refine z_icmp_ne (tgt := 56) hx hb (by decide) (by decide) dX12_dies_46 (by decide) (fun c65 => ?_) (fun c65 => absurd c65 (by decide))
  refine z_iinc (lv' := [(2, .int (iI (18 + 1))), (1, .int (iI 19)), (0, .ref (b + 0))]) hx hb dX12_dies_56 hl (k := 1) rfl (by decide) rfl (fun ls hl => ?_)
  rw [show ((18 + 1) : Int) = 19 from by decide] at hl
  refine lv_goto (tgt := 19) hx hb dX12_dies_59 (by decide) ?_
  refine lv_iload_n hx hb dX12_dies_19 rfl (lv_at hl 0 rfl) ?_
  refine z_sipush hx hb (by decide) dX12_dies_20 ?_
  refine z_icmp_gt (tgt := 62) hx hb (by decide) (by decide) dX12_dies_23 (by decide) (fun c66 => absurd c66 (by decide)) (fun c66 => ?_)
  refine lv_aload_n hx hb dX12_dies_26 rfl (lv_at hl 2 rfl) ?_
  refine z_getr (j2 := 30) hx hb hts (z_memU u12) hown hK.1 hS f12_45 (by decide) (zkd_of (rfl : zcd wR 0 = 50) rfl) (zrf_of (rfl : zcd wR 0 = 50) rfl) (Or.inl (hts _ (z_mem k989))) dX12_dies_27 ?_
  refine lv_iload_n hx hb dX12_dies_30 rfl (lv_at hl 0 rfl) ?_
  refine z_iald (n := 4001) hx hb hK.1 (t0 := 0) rfl hS (by decide) (zkd_of (rfl : zcd wR 30 = 80) rfl) (zln_of (rfl : zcd wR 30 = 80) rfl) (by decide) (by decide) (by decide) dX12_dies_31 ?_
  refine z_top (show M4 30 ((19 : Int).toNat) = 0 from by rw [ar8 _ (by omega)]) ?_
  refine z_if_ne (tgt := 41) hx hb (by decide) dX12_dies_32 (by decide) (fun c67 => absurd c67 (by decide)) (fun c67 => ?_)
  refine lv_iload_n hx hb dX12_dies_35 rfl (lv_at hl 1 rfl) ?_
  refine z_iconst hx hb dX12_dies_36 ?_
  refine z_iadd hx hb dX12_dies_37 ?_
  refine z_top (show ((19 + 1) : Int) = 20 from (by decide)) ?_
  refine lv_goto (tgt := 42) hx hb dX12_dies_38 (by decide) ?_
  refine lv_istore_n (lv' := [(1, .int (iI 20)), (2, .int (iI 19)), (0, .ref (b + 0))]) hx hb dX12_dies_42 rfl hl (by decide) rfl (fun ls hl => ?_)
  refine lv_iload_n hx hb dX12_dies_43 rfl (lv_at hl 0 rfl) ?_
  refine z_bipush hx hb (by decide) dX12_dies_44 ?_
  refine z_icmp_ne (tgt := 56) hx hb (by decide) (by decide) dX12_dies_46 (by decide) (fun c68 => absurd c68 (by decide)) (fun c68 => ?_)
  refine lv_iload_n hx hb dX12_dies_49 rfl (lv_at hl 1 rfl) ?_
  refine z_bipush hx hb (by decide) dX12_dies_50 ?_
  refine z_isub hx hb dX12_dies_52 ?_
  refine z_top (show ((19 - 20) : Int) = (-1) from (by decide)) ?_
  refine z_iconst hx hb dX12_dies_53 ?_
  refine z_iadd hx hb dX12_dies_54 ?_
  refine z_top (show (((-1) + 1) : Int) = 0 from (by decide)) ?_
  exact z_iret hx hb hr hlocks hS hS0 (by decide) (by first | exact trivial | exact ⟨rfl, trivial⟩ | omega | (refine ⟨by omega, trivial⟩)) dX12_dies_55

set_option maxHeartbeats 4000000 in
set_option maxRecDepth 100000 in
theorem m_tape (l : Launch) (D : va_G) (dA : Nat → ClassId) (b : Nat) (M : zM) (v : Int) (r_v : R32 v) (g0 : M 0 24 = 0) : Met l yX12_tape (.code yX12_tape cX12_tape 2 (some .int) :: zt) (z_rm 1) (va_Pc [.ref (b + 0), .int (iI v)] (zP D dA vwCl (z_tys dA) wR nR b M)) (va_Qi (zQi wR (zms wR [3235, 3224, 4223]) M (fun z M1 => ((v = -1 ∨ SND v) ∧ z = 1) ∨ (¬ (v = -1 ∨ SND v) ∧ z = -1))) (zB D dA vwCl wR nR b) (zA nR b)) 0 0 (zA nR b) := by
  refine Met.ofW (cc := cX12_tape) (maxL := 2) (ret := (some .int)) (by decide) rfl ?_
  intro p e s m args below meth c s₁ B hml hv
  obtain ⟨hargs, hR0, hJ, hK⟩ := hv
  have hx := B.exec
  have hb := B.bytes
  have hr := B.returns
  have hts := atoms_spec (ws := .code yX12_tape cX12_tape 2 (some .int) :: zt) B.pre
  have hown : s.vm.findClass RX12 = some m.cls := findClass_of_methodNamed B.named
  have hlocks := B.notSynchronized
  have hS : zS D dA vwCl wR nR b (zms wR [3235, 3224, 4223]) M M s.heap := ⟨hR0, hJ, zF_rf _ _⟩
  have hS0 : va_S (zA nR b) s.heap s.heap [] := va_S.rf
  have hl := lv_entry ([.ref (b + 0), .int (iI v)]) (n := 2) (Nat.le_of_ble_eq_true rfl)
  have hent : entryFrame m args 2 = F0 m 0 ((lg_sl ([.ref (b + 0), .int (iI v)]) ++ List.replicate (2 - (lg_sl ([.ref (b + 0), .int (iI v)])).length) Slot.unset).toArray) [] := by rw [hargs]; exact lg_entry_eq m ([.ref (b + 0), .int (iI v)]) 2
  rw [hent]
  generalize (lg_sl ([.ref (b + 0), .int (iI v)]) ++ List.replicate (2 - (lg_sl ([.ref (b + 0), .int (iI v)])).length) Slot.unset).toArray = ls at hl ⊢
  have hl : lv_has ls 2 [(0, .ref (b + 0)), (1, .int (iI v))] := hl
  refine lv_aload_n hx hb dX12_tape_0 rfl (lv_at hl 0 rfl) ?_
  refine z_iconst hx hb dX12_tape_1 ?_
  refine z_puti hx hb hts (z_memU u12) tyX12 tyX12_ok nmX12 hown hK.1 hS hS0 f12_35 (by decide) (zkd_of (rfl : zcd wR 0 = 50) rfl) (Or.inl (hts _ (z_mem k979))) rfl (z := 0) (by decide +kernel) (zbd_in (rfl : zcd wR 0 = 50) rfl (by decide)) (zms_of (rfl : zcd wR 0 = 50) rfl) dX12_tape_2 (fun H locs hS hS0 => ?_)
  obtain ⟨M1, e2⟩ : ∃ M1 : zM, M1 = zup M 0 35 0 := ⟨_, rfl⟩
  rw [← e2] at hS
  have J3 := hS.2.1
  refine lv_iload_n hx hb dX12_tape_5 rfl (lv_at hl 1 rfl) ?_
  refine z_iconst hx hb dX12_tape_6 ?_
  refine z_icmp_eq (tgt := 17) hx hb r_v (by decide) dX12_tape_7 (by decide) (fun c4 => ?_) (fun c4 => ?_)
  · skip
    refine lv_aload_n hx hb dX12_tape_17 rfl (lv_at hl 0 rfl) ?_
    refine z_geti hx hb hts (z_memU u12) hown hK.1 hS f12_24 (by decide) (zkd_of (rfl : zcd wR 0 = 50) rfl) (Or.inl (hts _ (z_mem k968))) dX12_tape_18 ?_
    refine z_top (show M1 0 24 = 0 from by rw [e2, zup_n _ _ (by omega), g0]) ?_
    refine z_bipush hx hb (by decide) dX12_tape_21 ?_
    refine z_icmp_ne (tgt := 28) hx hb (by decide) (by decide) dX12_tape_23 (by decide) (fun c5 => ?_) (fun c5 => absurd c5 (by decide))
    refine lv_aload_n hx hb dX12_tape_28 rfl (lv_at hl 0 rfl) ?_
    refine z_getr (j2 := 15) hx hb hts (z_memU u12) hown hK.1 hS f12_23 (by decide) (zkd_of (rfl : zcd wR 0 = 50) rfl) (zrf_of (rfl : zcd wR 0 = 50) rfl) (Or.inl (hts _ (z_mem k967))) dX12_tape_29 ?_
    refine lv_aload_n hx hb dX12_tape_32 rfl (lv_at hl 0 rfl) ?_
    refine z_geti hx hb hts (z_memU u12) hown hK.1 hS f12_24 (by decide) (zkd_of (rfl : zcd wR 0 = 50) rfl) (Or.inl (hts _ (z_mem k968))) dX12_tape_33 ?_
    refine z_top (show M1 0 24 = 0 from by rw [e2, zup_n _ _ (by omega), g0]) ?_
    refine lv_iload_n hx hb dX12_tape_36 rfl (lv_at hl 1 rfl) ?_
    refine z_iast (n := 60) hx hb hK.1 (t0 := 0) rfl hS hS0 (by decide) (zkd_of (rfl : zcd wR 15 = 65) rfl) (zln_of (rfl : zcd wR 15 = 65) rfl) (by decide) (by decide) (by decide) (zbd_in (rfl : zcd wR 15 = 65) rfl r_v) (zms_of (rfl : zcd wR 15 = 65) rfl) dX12_tape_37 (fun H locs hS hS0 => ?_)
    obtain ⟨M6, e7⟩ : ∃ M6 : zM, M6 = zup M1 15 ((0 : Int).toNat) v := ⟨_, rfl⟩
    rw [← e7] at hS
    have J8 := hS.2.1
    refine lv_aload_n hx hb dX12_tape_38 rfl (lv_at hl 0 rfl) ?_
    refine lv_dup hx hb dX12_tape_39 rfl ?_
    refine z_geti hx hb hts (z_memU u12) hown hK.1 hS f12_24 (by decide) (zkd_of (rfl : zcd wR 0 = 50) rfl) (Or.inl (hts _ (z_mem k968))) dX12_tape_40 ?_
    refine z_top (show M6 0 24 = 0 from by rw [e7, zup_n _ _ (by omega), e2, zup_n _ _ (by omega), g0]) ?_
    refine z_iconst hx hb dX12_tape_43 ?_
    refine z_iadd hx hb dX12_tape_44 ?_
    refine z_top (show ((0 + 1) : Int) = 1 from (by decide)) ?_
    refine z_puti hx hb hts (z_memU u12) tyX12 tyX12_ok nmX12 hown hK.1 hS hS0 f12_24 (by decide) (zkd_of (rfl : zcd wR 0 = 50) rfl) (Or.inl (hts _ (z_mem k968))) rfl (z := 1) (by decide +kernel) (zbd_in (rfl : zcd wR 0 = 50) rfl (by decide)) (zms_of (rfl : zcd wR 0 = 50) rfl) dX12_tape_45 (fun H locs hS hS0 => ?_)
    obtain ⟨M9, e10⟩ : ∃ M9 : zM, M9 = zup M6 0 24 1 := ⟨_, rfl⟩
    rw [← e10] at hS
    have J11 := hS.2.1
    refine lv_aload_n hx hb dX12_tape_48 rfl (lv_at hl 0 rfl) ?_
    refine z_geti hx hb hts (z_memU u12) hown hK.1 hS f12_24 (by decide) (zkd_of (rfl : zcd wR 0 = 50) rfl) (Or.inl (hts _ (z_mem k968))) dX12_tape_49 ?_
    refine z_top (show M9 0 24 = 1 from by rw [e10, zup_s]) ?_
    exact z_iret hx hb hr hlocks hS hS0 (by decide) (by first | exact Or.inl ⟨Or.inl (by omega), rfl⟩ | exact Or.inl ⟨Or.inr (by assumption), rfl⟩ | exact Or.inr ⟨fun h9 => h9.elim (fun h8 => by omega) (by assumption), rfl⟩) dX12_tape_52
  · skip
    refine lv_iload_n hx hb dX12_tape_10 rfl (lv_at hl 1 rfl) ?_
    refine z_calli (va_runS (As := [.int (iI v)]) (rest := []) ⟨hx, hb, hml, hown, hts⟩ (m_areSounds l D dA b M1 v r_v) (va_cwS 1 hts (z_gS k1184 k1185 k14 k1186) rfl rfl rfl dm_X12_areSounds.2 ⟨Nat.le_of_ble_eq_true rfl, Nat.le_of_ble_eq_true rfl⟩) ⟨zP_blind, z_pre hS hK⟩ rfl rfl hl.1 rfl (lv_room (Nat.le_of_ble_eq_true rfl)) dX12_tape_11 ⟨Nat.le_refl _, Nat.le_refl _⟩) hS hS0 (zms_sub rfl) (fun z16 M12 H locs r17 h13 F14 hS hS0 => ?_)
    obtain ⟨h18, h13⟩ := h13
    rw [h18] at hS
    rcases h13 with h19 | h20
    · skip
      obtain ⟨z16e, h19⟩ := h19
      subst z16e
      refine z_if_eq (tgt := 26) hx hb (by decide) dX12_tape_14 (by decide) (fun c21 => absurd c21 (by decide)) (fun c21 => ?_)
      refine lv_aload_n hx hb dX12_tape_17 rfl (lv_at hl 0 rfl) ?_
      refine z_geti hx hb hts (z_memU u12) hown hK.1 hS f12_24 (by decide) (zkd_of (rfl : zcd wR 0 = 50) rfl) (Or.inl (hts _ (z_mem k968))) dX12_tape_18 ?_
      refine z_top (show M1 0 24 = 0 from by rw [e2, zup_n _ _ (by omega), g0]) ?_
      refine z_bipush hx hb (by decide) dX12_tape_21 ?_
      refine z_icmp_ne (tgt := 28) hx hb (by decide) (by decide) dX12_tape_23 (by decide) (fun c22 => ?_) (fun c22 => absurd c22 (by decide))
      refine lv_aload_n hx hb dX12_tape_28 rfl (lv_at hl 0 rfl) ?_
      refine z_getr (j2 := 15) hx hb hts (z_memU u12) hown hK.1 hS f12_23 (by decide) (zkd_of (rfl : zcd wR 0 = 50) rfl) (zrf_of (rfl : zcd wR 0 = 50) rfl) (Or.inl (hts _ (z_mem k967))) dX12_tape_29 ?_
      refine lv_aload_n hx hb dX12_tape_32 rfl (lv_at hl 0 rfl) ?_
      refine z_geti hx hb hts (z_memU u12) hown hK.1 hS f12_24 (by decide) (zkd_of (rfl : zcd wR 0 = 50) rfl) (Or.inl (hts _ (z_mem k968))) dX12_tape_33 ?_
      refine z_top (show M1 0 24 = 0 from by rw [e2, zup_n _ _ (by omega), g0]) ?_
      refine lv_iload_n hx hb dX12_tape_36 rfl (lv_at hl 1 rfl) ?_
      refine z_iast (n := 60) hx hb hK.1 (t0 := 0) rfl hS hS0 (by decide) (zkd_of (rfl : zcd wR 15 = 65) rfl) (zln_of (rfl : zcd wR 15 = 65) rfl) (by decide) (by decide) (by decide) (zbd_in (rfl : zcd wR 15 = 65) rfl r_v) (zms_of (rfl : zcd wR 15 = 65) rfl) dX12_tape_37 (fun H locs hS hS0 => ?_)
      obtain ⟨M23, e24⟩ : ∃ M23 : zM, M23 = zup M1 15 ((0 : Int).toNat) v := ⟨_, rfl⟩
      rw [← e24] at hS
      have J25 := hS.2.1
      refine lv_aload_n hx hb dX12_tape_38 rfl (lv_at hl 0 rfl) ?_
      refine lv_dup hx hb dX12_tape_39 rfl ?_
      refine z_geti hx hb hts (z_memU u12) hown hK.1 hS f12_24 (by decide) (zkd_of (rfl : zcd wR 0 = 50) rfl) (Or.inl (hts _ (z_mem k968))) dX12_tape_40 ?_
      refine z_top (show M23 0 24 = 0 from by rw [e24, zup_n _ _ (by omega), e2, zup_n _ _ (by omega), g0]) ?_
      refine z_iconst hx hb dX12_tape_43 ?_
      refine z_iadd hx hb dX12_tape_44 ?_
      refine z_top (show ((0 + 1) : Int) = 1 from (by decide)) ?_
      refine z_puti hx hb hts (z_memU u12) tyX12 tyX12_ok nmX12 hown hK.1 hS hS0 f12_24 (by decide) (zkd_of (rfl : zcd wR 0 = 50) rfl) (Or.inl (hts _ (z_mem k968))) rfl (z := 1) (by decide +kernel) (zbd_in (rfl : zcd wR 0 = 50) rfl (by decide)) (zms_of (rfl : zcd wR 0 = 50) rfl) dX12_tape_45 (fun H locs hS hS0 => ?_)
      obtain ⟨M26, e27⟩ : ∃ M26 : zM, M26 = zup M23 0 24 1 := ⟨_, rfl⟩
      rw [← e27] at hS
      have J28 := hS.2.1
      refine lv_aload_n hx hb dX12_tape_48 rfl (lv_at hl 0 rfl) ?_
      refine z_geti hx hb hts (z_memU u12) hown hK.1 hS f12_24 (by decide) (zkd_of (rfl : zcd wR 0 = 50) rfl) (Or.inl (hts _ (z_mem k968))) dX12_tape_49 ?_
      refine z_top (show M26 0 24 = 1 from by rw [e27, zup_s]) ?_
      exact z_iret hx hb hr hlocks hS hS0 (by decide) (by first | exact Or.inl ⟨Or.inl (by omega), rfl⟩ | exact Or.inl ⟨Or.inr (by assumption), rfl⟩ | exact Or.inr ⟨fun h9 => h9.elim (fun h8 => by omega) (by assumption), rfl⟩) dX12_tape_52
    · skip
      obtain ⟨z16e, h20⟩ := h20
      subst z16e
      refine z_if_eq (tgt := 26) hx hb (by decide) dX12_tape_14 (by decide) (fun c29 => ?_) (fun c29 => absurd c29 (by decide))
      refine z_iconst hx hb dX12_tape_26 ?_
      exact z_iret hx hb hr hlocks hS hS0 (by decide) (by first | exact Or.inl ⟨Or.inl (by omega), rfl⟩ | exact Or.inl ⟨Or.inr (by assumption), rfl⟩ | exact Or.inr ⟨fun h9 => h9.elim (fun h8 => by omega) (by assumption), rfl⟩) dX12_tape_27

set_option maxHeartbeats 4000000 in
set_option maxRecDepth 100000 in
theorem m_take (l : Launch) (D : va_G) (dA : Nat → ClassId) (b : Nat) (M : zM) (tk : Int) (n : Int) (r_tk : R32 tk) (r_n : R32 n) (g0 : M 0 10 = 0) : Met l yX12_take (.code yX12_take cX12_take 4 (some .boolean) :: zt) (z_rm 1) (va_Pc [.ref (b + 0), .int (iI tk), .int (iI n)] (zP D dA vwCl (z_tys dA) wR nR b M)) (va_Qi (zQi wR (zms wR [3235, 3224, 4223]) M (fun z M1 => ((0 ≤ tk ∧ tk ≤ 100000 ∧ 0 ≤ n ∧ n ≤ 60) ∧ z = 1) ∨ (¬ (0 ≤ tk ∧ tk ≤ 100000 ∧ 0 ≤ n ∧ n ≤ 60) ∧ z = 0))) (zB D dA vwCl wR nR b) (zA nR b)) 0 0 (zA nR b) := by
  refine Met.ofW (cc := cX12_take) (maxL := 4) (ret := (some .boolean)) (by decide) rfl ?_
  intro p e s m args below meth c s₁ B hml hv
  obtain ⟨hargs, hR0, hJ, hK⟩ := hv
  have hx := B.exec
  have hb := B.bytes
  have hr := B.returns
  have hts := atoms_spec (ws := .code yX12_take cX12_take 4 (some .boolean) :: zt) B.pre
  have hown : s.vm.findClass RX12 = some m.cls := findClass_of_methodNamed B.named
  have hlocks := B.notSynchronized
  have hS : zS D dA vwCl wR nR b (zms wR [3235, 3224, 4223]) M M s.heap := ⟨hR0, hJ, zF_rf _ _⟩
  have hS0 : va_S (zA nR b) s.heap s.heap [] := va_S.rf
  have hl := lv_entry ([.ref (b + 0), .int (iI tk), .int (iI n)]) (n := 4) (Nat.le_of_ble_eq_true rfl)
  have hent : entryFrame m args 4 = F0 m 0 ((lg_sl ([.ref (b + 0), .int (iI tk), .int (iI n)]) ++ List.replicate (4 - (lg_sl ([.ref (b + 0), .int (iI tk), .int (iI n)])).length) Slot.unset).toArray) [] := by rw [hargs]; exact lg_entry_eq m ([.ref (b + 0), .int (iI tk), .int (iI n)]) 4
  rw [hent]
  generalize (lg_sl ([.ref (b + 0), .int (iI tk), .int (iI n)]) ++ List.replicate (4 - (lg_sl ([.ref (b + 0), .int (iI tk), .int (iI n)])).length) Slot.unset).toArray = ls at hl ⊢
  have hl : lv_has ls 4 [(0, .ref (b + 0)), (1, .int (iI tk)), (2, .int (iI n))] := hl
  refine lv_aload_n hx hb dX12_take_0 rfl (lv_at hl 0 rfl) ?_
  refine z_iconst hx hb dX12_take_1 ?_
  refine z_puti hx hb hts (z_memU u12) tyX12 tyX12_ok nmX12 hown hK.1 hS hS0 f12_35 (by decide) (zkd_of (rfl : zcd wR 0 = 50) rfl) (Or.inl (hts _ (z_mem k979))) rfl (z := 0) (by decide +kernel) (zbd_in (rfl : zcd wR 0 = 50) rfl (by decide)) (zms_of (rfl : zcd wR 0 = 50) rfl) dX12_take_2 (fun H locs hS hS0 => ?_)
  obtain ⟨M1, e2⟩ : ∃ M1 : zM, M1 = zup M 0 35 0 := ⟨_, rfl⟩
  rw [← e2] at hS
  have J3 := hS.2.1
  refine lv_iload_n hx hb dX12_take_5 rfl (lv_at hl 1 rfl) ?_
  refine z_iconst hx hb dX12_take_6 ?_
  refine z_ldcw (n := 100000) hx hb hown (hts _ (z_mem k1214)) (by decide) dX12_take_7 ?_
  refine z_calli (va_runS (As := [.int (iI tk), .int (iI 0), .int (iI 100000)]) (rest := []) ⟨hx, hb, hml, hown, hts⟩ (m_in l D dA b M1 tk 0 100000 r_tk (by decide) (by decide)) (va_cwS 3 hts (z_gS k1087 k1088 k14 k1089) rfl rfl rfl dm_X12_in.2 ⟨Nat.le_of_ble_eq_true rfl, Nat.le_of_ble_eq_true rfl⟩) ⟨zP_blind, z_pre hS hK⟩ rfl rfl hl.1 rfl (lv_room (Nat.le_of_ble_eq_true rfl)) dX12_take_10 ⟨Nat.le_refl _, Nat.le_refl _⟩) hS hS0 (zms_sub rfl) (fun z8 M4 H locs r9 h5 F6 hS hS0 => ?_)
  obtain ⟨h10, h5⟩ := h5
  rw [h10] at hS
  rcases h5 with h11 | h12
  · skip
    obtain ⟨z8e, h11⟩ := h11
    subst z8e
    refine z_if_eq (tgt := 26) hx hb (by decide) dX12_take_13 (by decide) (fun c13 => absurd c13 (by decide)) (fun c13 => ?_)
    refine lv_iload_n hx hb dX12_take_16 rfl (lv_at hl 2 rfl) ?_
    refine z_iconst hx hb dX12_take_17 ?_
    refine z_bipush hx hb (by decide) dX12_take_18 ?_
    refine z_calli (va_runS (As := [.int (iI n), .int (iI 0), .int (iI 60)]) (rest := []) ⟨hx, hb, hml, hown, hts⟩ (m_in l D dA b M1 n 0 60 r_n (by decide) (by decide)) (va_cwS 3 hts (z_gS k1087 k1088 k14 k1089) rfl rfl rfl dm_X12_in.2 ⟨Nat.le_of_ble_eq_true rfl, Nat.le_of_ble_eq_true rfl⟩) ⟨zP_blind, z_pre hS hK⟩ rfl rfl hl.1 rfl (lv_room (Nat.le_of_ble_eq_true rfl)) dX12_take_20 ⟨Nat.le_refl _, Nat.le_refl _⟩) hS hS0 (zms_sub rfl) (fun z18 M14 H locs r19 h15 F16 hS hS0 => ?_)
    obtain ⟨h20, h15⟩ := h15
    rw [h20] at hS
    rcases h15 with h21 | h22
    · skip
      obtain ⟨z18e, h21⟩ := h21
      subst z18e
      refine z_if_ne (tgt := 28) hx hb (by decide) dX12_take_23 (by decide) (fun c23 => ?_) (fun c23 => absurd c23 (by decide))
      refine z_iconst hx hb dX12_take_28 ?_
      refine lv_istore_n (lv' := [(3, .int (iI 0)), (0, .ref (b + 0)), (1, .int (iI tk)), (2, .int (iI n))]) hx hb dX12_take_29 rfl hl (by decide) rfl (fun ls hl => ?_)
      have L27 : ∀ (n25 : Nat) (i24 : Int) (M28 : zM) (H : Heap) (locs : List Loc) (ls : Array Slot), (2147483648 - i24).toNat ≤ n25 → R32 i24 → (0 ≤ i24 ∧ i24 ≤ n) → zS D dA vwCl wR nR b (zms wR [3235, 3224, 4223]) M M28 H → va_S (zA nR b) s.heap H locs → lv_has ls 4 [(0, .ref (b + 0)), (1, .int (iI tk)), (2, .int (iI n)), (3, .int (iI i24))] → W p l e (headSpec (.code yX12_take cX12_take 4 (some .boolean) :: zt) (z_rm 1)).room s m args below meth c H locs 0 0 (MQ below (va_Qi (zQi wR (zms wR [3235, 3224, 4223]) M (fun z M1 => ((0 ≤ tk ∧ tk ≤ 100000 ∧ 0 ≤ n ∧ n ≤ 60) ∧ z = 1) ∨ (¬ (0 ≤ tk ∧ tk ≤ 100000 ∧ 0 ≤ n ∧ n ≤ 60) ∧ z = 0))) (zB D dA vwCl wR nR b) (zA nR b)) args s 0 0 (zA nR b)) (F0 m 30 ls []) := by
        intro n25
        induction n25 with
        | zero =>
          intro i24 M28 H locs ls hm r_i24 i29 hS hS0 hl
          exfalso
          omega
        | succ n25 ih26 =>
          intro i24 M28 H locs ls hm r_i24 i29 hS hS0 hl
          have J30 := hS.2.1
          have F31 := hS.2.2
          refine lv_iload_n hx hb dX12_take_30 rfl (lv_at hl 3 rfl) ?_
          refine lv_iload_n hx hb dX12_take_31 rfl (lv_at hl 2 rfl) ?_
          refine z_icmp_ge (tgt := 55) hx hb r_i24 r_n dX12_take_32 (by decide) (fun c32 => ?_) (fun c32 => ?_)
          · skip
            refine lv_aload_n hx hb dX12_take_55 rfl (lv_at hl 0 rfl) ?_
            refine lv_iload_n hx hb dX12_take_56 rfl (lv_at hl 2 rfl) ?_
            refine z_puti hx hb hts (z_memU u12) tyX12 tyX12_ok nmX12 hown hK.1 hS hS0 f12_24 (by decide) (zkd_of (rfl : zcd wR 0 = 50) rfl) (Or.inl (hts _ (z_mem k968))) rfl (z := n) (by decide +kernel) (zbd_in (rfl : zcd wR 0 = 50) rfl ⟨by omega, by omega⟩) (zms_of (rfl : zcd wR 0 = 50) rfl) dX12_take_57 (fun H locs hS hS0 => ?_)
            obtain ⟨M33, e34⟩ : ∃ M33 : zM, M33 = zup M28 0 24 n := ⟨_, rfl⟩
            rw [← e34] at hS
            have J35 := hS.2.1
            refine z_iconst hx hb dX12_take_60 ?_
            exact z_zret hx hb hr hlocks hS hS0 (by first | decide | omega) (by first | exact trivial | exact ⟨rfl, trivial⟩ | omega | (refine ⟨by omega, trivial⟩)) dX12_take_61
          · skip
            refine lv_aload_n hx hb dX12_take_35 rfl (lv_at hl 0 rfl) ?_
            refine z_getr (j2 := 15) hx hb hts (z_memU u12) hown hK.1 hS f12_23 (by decide) (zkd_of (rfl : zcd wR 0 = 50) rfl) (zrf_of (rfl : zcd wR 0 = 50) rfl) (Or.inl (hts _ (z_mem k967))) dX12_take_36 ?_
            refine lv_iload_n hx hb dX12_take_39 rfl (lv_at hl 3 rfl) ?_
            refine lv_aload_n hx hb dX12_take_40 rfl (lv_at hl 0 rfl) ?_
            refine lv_iload_n hx hb dX12_take_41 rfl (lv_at hl 1 rfl) ?_
            refine lv_iload_n hx hb dX12_take_42 rfl (lv_at hl 3 rfl) ?_
            refine z_iadd hx hb dX12_take_43 ?_
            refine z_i2l hx hb ⟨by omega, by omega⟩ dX12_take_44 ?_
            refine z_calli (va_runV (As := [.long (iL (tk + i24))]) (rest := [.int (iI i24), .ref (b + 15)]) ⟨hx, hb, hml, hown, hts⟩ (m_heardInAll l D dA b M28 (tk + i24) ⟨by omega, by omega⟩ (by rw [F31 _ _ (zms_not (rfl : zcd wR 0 = 50) rfl), g0])) (cwV 1 hts (z_gV k1155 k1156 k1405 k14 k1157) rfl rfl rfl dm_X12_heardInAll ⟨Nat.le_of_ble_eq_true rfl, Nat.le_of_ble_eq_true rfl⟩) ⟨zP_blind, (z_recv hS hK.1 (by decide) (zkd_of (rfl : zcd wR 0 = 50) rfl) (by decide) (rfl : vwCl[12]? = some (RX12, TX12, 50))), z_pre hS hK⟩ rfl rfl hl.1 rfl (lv_room (Nat.le_of_ble_eq_true rfl)) dX12_take_45 ⟨Nat.le_refl _, Nat.le_refl _⟩) hS hS0 (zms_sub rfl) (fun z40 M36 H locs r41 h37 F38 hS hS0 => ?_)
            obtain ⟨h42, h37⟩ := h37
            rw [h42] at hS
            have h43 := h37
            obtain ⟨z40e, h43⟩ := h43
            subst z40e
            refine z_iast (n := 60) hx hb hK.1 (t0 := 0) rfl hS hS0 (by decide) (zkd_of (rfl : zcd wR 15 = 65) rfl) (zln_of (rfl : zcd wR 15 = 65) rfl) (by omega) (by omega) (by decide) (zbd_in (rfl : zcd wR 15 = 65) rfl (by decide)) (zms_of (rfl : zcd wR 15 = 65) rfl) dX12_take_48 (fun H locs hS hS0 => ?_)
            obtain ⟨M44, e45⟩ : ∃ M44 : zM, M44 = zup M28 15 (i24.toNat) 0 := ⟨_, rfl⟩
            rw [← e45] at hS
            have J46 := hS.2.1
            refine z_iinc (lv' := [(3, .int (iI (i24 + 1))), (0, .ref (b + 0)), (1, .int (iI tk)), (2, .int (iI n))]) hx hb dX12_take_49 hl (k := 3) rfl (by decide) rfl (fun ls hl => ?_)
            refine lv_goto (tgt := 30) hx hb dX12_take_52 (by decide) ?_
            exact ih26 (i24 + 1) M44 _ _ _ (by omega) ⟨by omega, by omega⟩ (by omega) hS hS0 (lv_sub hl [1, 2, 3, 0] rfl)
      exact L27 _ 0 M1 _ _ _ (Nat.le_refl _) (by decide) (by omega) hS hS0 (lv_sub hl [1, 2, 3, 0] rfl)
    · skip
      obtain ⟨z18e, h22⟩ := h22
      subst z18e
      refine z_if_ne (tgt := 28) hx hb (by decide) dX12_take_23 (by decide) (fun c47 => absurd c47 (by decide)) (fun c47 => ?_)
      refine z_iconst hx hb dX12_take_26 ?_
      exact z_zret hx hb hr hlocks hS hS0 (by first | decide | omega) (by first | exact trivial | exact ⟨rfl, trivial⟩ | omega | (refine ⟨by omega, trivial⟩)) dX12_take_27
  · skip
    obtain ⟨z8e, h12⟩ := h12
    subst z8e
    refine z_if_eq (tgt := 26) hx hb (by decide) dX12_take_13 (by decide) (fun c48 => ?_) (fun c48 => absurd c48 (by decide))
    refine z_iconst hx hb dX12_take_26 ?_
    exact z_zret hx hb hr hlocks hS hS0 (by first | decide | omega) (by first | exact trivial | exact ⟨rfl, trivial⟩ | omega | (refine ⟨by omega, trivial⟩)) dX12_take_27

set_option maxHeartbeats 4000000 in
set_option maxRecDepth 100000 in
theorem m_gap (l : Launch) (D : va_G) (dA : Nat → ClassId) (b : Nat) (M : zM) (i : Int) (r_i : R32 i) (g0 : M 0 24 = 0) : Met l yX12_gap (.code yX12_gap cX12_gap 2 (some .boolean) :: zt) (z_rm 1) (va_Pc [.ref (b + 0), .int (iI i)] (zP D dA vwCl (z_tys dA) wR nR b M)) (va_Qi (zQi wR (zms wR [3235]) M (fun z M1 => z = 0 ∧ True)) (zB D dA vwCl wR nR b) (zA nR b)) 0 0 (zA nR b) := by
  refine Met.ofW (cc := cX12_gap) (maxL := 2) (ret := (some .boolean)) (by decide) rfl ?_
  intro p e s m args below meth c s₁ B hml hv
  obtain ⟨hargs, hR0, hJ, hK⟩ := hv
  have hx := B.exec
  have hb := B.bytes
  have hr := B.returns
  have hts := atoms_spec (ws := .code yX12_gap cX12_gap 2 (some .boolean) :: zt) B.pre
  have hown : s.vm.findClass RX12 = some m.cls := findClass_of_methodNamed B.named
  have hlocks := B.notSynchronized
  have hS : zS D dA vwCl wR nR b (zms wR [3235]) M M s.heap := ⟨hR0, hJ, zF_rf _ _⟩
  have hS0 : va_S (zA nR b) s.heap s.heap [] := va_S.rf
  have hl := lv_entry ([.ref (b + 0), .int (iI i)]) (n := 2) (Nat.le_of_ble_eq_true rfl)
  have hent : entryFrame m args 2 = F0 m 0 ((lg_sl ([.ref (b + 0), .int (iI i)]) ++ List.replicate (2 - (lg_sl ([.ref (b + 0), .int (iI i)])).length) Slot.unset).toArray) [] := by rw [hargs]; exact lg_entry_eq m ([.ref (b + 0), .int (iI i)]) 2
  rw [hent]
  generalize (lg_sl ([.ref (b + 0), .int (iI i)]) ++ List.replicate (2 - (lg_sl ([.ref (b + 0), .int (iI i)])).length) Slot.unset).toArray = ls at hl ⊢
  have hl : lv_has ls 2 [(0, .ref (b + 0)), (1, .int (iI i))] := hl
  refine lv_aload_n hx hb dX12_gap_0 rfl (lv_at hl 0 rfl) ?_
  refine z_iconst hx hb dX12_gap_1 ?_
  refine z_puti hx hb hts (z_memU u12) tyX12 tyX12_ok nmX12 hown hK.1 hS hS0 f12_35 (by decide) (zkd_of (rfl : zcd wR 0 = 50) rfl) (Or.inl (hts _ (z_mem k979))) rfl (z := 0) (by decide +kernel) (zbd_in (rfl : zcd wR 0 = 50) rfl (by decide)) (zms_of (rfl : zcd wR 0 = 50) rfl) dX12_gap_2 (fun H locs hS hS0 => ?_)
  obtain ⟨M1, e2⟩ : ∃ M1 : zM, M1 = zup M 0 35 0 := ⟨_, rfl⟩
  rw [← e2] at hS
  have J3 := hS.2.1
  refine lv_iload_n hx hb dX12_gap_5 rfl (lv_at hl 1 rfl) ?_
  refine z_iconst hx hb dX12_gap_6 ?_
  refine lv_aload_n hx hb dX12_gap_7 rfl (lv_at hl 0 rfl) ?_
  refine z_geti hx hb hts (z_memU u12) hown hK.1 hS f12_24 (by decide) (zkd_of (rfl : zcd wR 0 = 50) rfl) (Or.inl (hts _ (z_mem k968))) dX12_gap_8 ?_
  refine z_top (show M1 0 24 = 0 from by rw [e2, zup_n _ _ (by omega), g0]) ?_
  refine z_iconst hx hb dX12_gap_11 ?_
  refine z_isub hx hb dX12_gap_12 ?_
  refine z_top (show ((0 - 1) : Int) = (-1) from (by decide)) ?_
  refine z_calli (va_runS (As := [.int (iI i), .int (iI 0), .int (iI (-1))]) (rest := []) ⟨hx, hb, hml, hown, hts⟩ (m_in l D dA b M1 i 0 (-1) r_i (by decide) (by decide)) (va_cwS 3 hts (z_gS k1087 k1088 k14 k1089) rfl rfl rfl dm_X12_in.2 ⟨Nat.le_of_ble_eq_true rfl, Nat.le_of_ble_eq_true rfl⟩) ⟨zP_blind, z_pre hS hK⟩ rfl rfl hl.1 rfl (lv_room (Nat.le_of_ble_eq_true rfl)) dX12_gap_13 ⟨Nat.le_refl _, Nat.le_refl _⟩) hS hS0 (zms_sub rfl) (fun z8 M4 H locs r9 h5 F6 hS hS0 => ?_)
  obtain ⟨h10, h5⟩ := h5
  rw [h10] at hS
  rcases h5 with h11 | h12
  · skip
    exfalso
    omega
  · skip
    obtain ⟨z8e, h12⟩ := h12
    subst z8e
    refine z_if_ne (tgt := 21) hx hb (by decide) dX12_gap_16 (by decide) (fun c13 => absurd c13 (by decide)) (fun c13 => ?_)
    refine z_iconst hx hb dX12_gap_19 ?_
    exact z_zret hx hb hr hlocks hS hS0 (by first | decide | omega) (by first | exact trivial | exact ⟨rfl, trivial⟩ | omega | (refine ⟨by omega, trivial⟩)) dX12_gap_20

set_option maxHeartbeats 4000000 in
set_option maxRecDepth 100000 in
theorem m_wipe (l : Launch) (D : va_G) (dA : Nat → ClassId) (b : Nat) (M : zM) (g0 : M 0 24 = 0) : Met l yX12_wipe (.code yX12_wipe cX12_wipe 2 (some .int) :: zt) (z_rm 0) (va_Pc [.ref (b + 0)] (zP D dA vwCl (z_tys dA) wR nR b M)) (va_Qi (zQi wR (zms wR [3235, 3224]) M (fun z M1 => z = 0 ∧ True)) (zB D dA vwCl wR nR b) (zA nR b)) 0 0 (zA nR b) := by
  refine Met.ofW (cc := cX12_wipe) (maxL := 2) (ret := (some .int)) (by decide) rfl ?_
  intro p e s m args below meth c s₁ B hml hv
  obtain ⟨hargs, hR0, hJ, hK⟩ := hv
  have hx := B.exec
  have hb := B.bytes
  have hr := B.returns
  have hts := atoms_spec (ws := .code yX12_wipe cX12_wipe 2 (some .int) :: zt) B.pre
  have hown : s.vm.findClass RX12 = some m.cls := findClass_of_methodNamed B.named
  have hlocks := B.notSynchronized
  have hS : zS D dA vwCl wR nR b (zms wR [3235, 3224]) M M s.heap := ⟨hR0, hJ, zF_rf _ _⟩
  have hS0 : va_S (zA nR b) s.heap s.heap [] := va_S.rf
  have hl := lv_entry ([.ref (b + 0)]) (n := 2) (Nat.le_of_ble_eq_true rfl)
  have hent : entryFrame m args 2 = F0 m 0 ((lg_sl ([.ref (b + 0)]) ++ List.replicate (2 - (lg_sl ([.ref (b + 0)])).length) Slot.unset).toArray) [] := by rw [hargs]; exact lg_entry_eq m ([.ref (b + 0)]) 2
  rw [hent]
  generalize (lg_sl ([.ref (b + 0)]) ++ List.replicate (2 - (lg_sl ([.ref (b + 0)])).length) Slot.unset).toArray = ls at hl ⊢
  have hl : lv_has ls 2 [(0, .ref (b + 0))] := hl
  refine lv_aload_n hx hb dX12_wipe_0 rfl (lv_at hl 0 rfl) ?_
  refine z_iconst hx hb dX12_wipe_1 ?_
  refine z_puti hx hb hts (z_memU u12) tyX12 tyX12_ok nmX12 hown hK.1 hS hS0 f12_35 (by decide) (zkd_of (rfl : zcd wR 0 = 50) rfl) (Or.inl (hts _ (z_mem k979))) rfl (z := 0) (by decide +kernel) (zbd_in (rfl : zcd wR 0 = 50) rfl (by decide)) (zms_of (rfl : zcd wR 0 = 50) rfl) dX12_wipe_2 (fun H locs hS hS0 => ?_)
  obtain ⟨M1, e2⟩ : ∃ M1 : zM, M1 = zup M 0 35 0 := ⟨_, rfl⟩
  rw [← e2] at hS
  have J3 := hS.2.1
  refine lv_aload_n hx hb dX12_wipe_5 rfl (lv_at hl 0 rfl) ?_
  refine z_geti hx hb hts (z_memU u12) hown hK.1 hS f12_24 (by decide) (zkd_of (rfl : zcd wR 0 = 50) rfl) (Or.inl (hts _ (z_mem k968))) dX12_wipe_6 ?_
  refine z_top (show M1 0 24 = 0 from by rw [e2, zup_n _ _ (by omega), g0]) ?_
  refine lv_istore_n (lv' := [(1, .int (iI 0)), (0, .ref (b + 0))]) hx hb dX12_wipe_9 rfl hl (by decide) rfl (fun ls hl => ?_)
  refine lv_aload_n hx hb dX12_wipe_10 rfl (lv_at hl 1 rfl) ?_
  refine z_iconst hx hb dX12_wipe_11 ?_
  refine z_puti hx hb hts (z_memU u12) tyX12 tyX12_ok nmX12 hown hK.1 hS hS0 f12_24 (by decide) (zkd_of (rfl : zcd wR 0 = 50) rfl) (Or.inl (hts _ (z_mem k968))) rfl (z := 0) (by decide +kernel) (zbd_in (rfl : zcd wR 0 = 50) rfl (by decide)) (zms_of (rfl : zcd wR 0 = 50) rfl) dX12_wipe_12 (fun H locs hS hS0 => ?_)
  obtain ⟨M4, e5⟩ : ∃ M4 : zM, M4 = zup M1 0 24 0 := ⟨_, rfl⟩
  rw [← e5] at hS
  have J6 := hS.2.1
  refine lv_iload_n hx hb dX12_wipe_15 rfl (lv_at hl 0 rfl) ?_
  exact z_iret hx hb hr hlocks hS hS0 (by decide) (by first | exact trivial | exact ⟨rfl, trivial⟩ | omega | (refine ⟨by omega, trivial⟩)) dX12_wipe_16

set_option maxHeartbeats 4000000 in
set_option maxRecDepth 100000 in
theorem m_isSpan (l : Launch) (D : va_G) (dA : Nat → ClassId) (b : Nat) (M : zM) (pp : Int) (r_pp : R32 pp) (g0 : M 0 24 = 0) : Met l yX12_isSpan (.code yX12_isSpan cX12_isSpan 4 (some .boolean) :: zt) (z_rm 0) (va_Pc [.ref (b + 0), .int (iI pp)] (zP D dA vwCl (z_tys dA) wR nR b M)) (va_Qi (zQi wR (zms wR []) M (fun z M1 => M1 = M ∧ (z = 1 ∧ True))) (zB D dA vwCl wR nR b) (zA nR b)) 0 0 (zA nR b) := by
  refine Met.ofW (cc := cX12_isSpan) (maxL := 4) (ret := (some .boolean)) (by decide) rfl ?_
  intro p e s m args below meth c s₁ B hml hv
  obtain ⟨hargs, hR0, hJ, hK⟩ := hv
  have hx := B.exec
  have hb := B.bytes
  have hr := B.returns
  have hts := atoms_spec (ws := .code yX12_isSpan cX12_isSpan 4 (some .boolean) :: zt) B.pre
  have hown : s.vm.findClass RX12 = some m.cls := findClass_of_methodNamed B.named
  have hlocks := B.notSynchronized
  have hS : zS D dA vwCl wR nR b (zms wR []) M M s.heap := ⟨hR0, hJ, zF_rf _ _⟩
  have hS0 : va_S (zA nR b) s.heap s.heap [] := va_S.rf
  have hl := lv_entry ([.ref (b + 0), .int (iI pp)]) (n := 4) (Nat.le_of_ble_eq_true rfl)
  have hent : entryFrame m args 4 = F0 m 0 ((lg_sl ([.ref (b + 0), .int (iI pp)]) ++ List.replicate (4 - (lg_sl ([.ref (b + 0), .int (iI pp)])).length) Slot.unset).toArray) [] := by rw [hargs]; exact lg_entry_eq m ([.ref (b + 0), .int (iI pp)]) 4
  rw [hent]
  generalize (lg_sl ([.ref (b + 0), .int (iI pp)]) ++ List.replicate (4 - (lg_sl ([.ref (b + 0), .int (iI pp)])).length) Slot.unset).toArray = ls at hl ⊢
  have hl : lv_has ls 4 [(0, .ref (b + 0)), (1, .int (iI pp))] := hl
  refine z_iconst hx hb dX12_isSpan_0 ?_
  refine lv_istore_n (lv' := [(2, .int (iI 0)), (0, .ref (b + 0)), (1, .int (iI pp))]) hx hb dX12_isSpan_1 rfl hl (by decide) rfl (fun ls hl => ?_)
  refine lv_iload_n hx hb dX12_isSpan_2 rfl (lv_at hl 0 rfl) ?_
  refine lv_aload_n hx hb dX12_isSpan_3 rfl (lv_at hl 1 rfl) ?_
  refine z_geti hx hb hts (z_memU u12) hown hK.1 hS f12_24 (by decide) (zkd_of (rfl : zcd wR 0 = 50) rfl) (Or.inl (hts _ (z_mem k968))) dX12_isSpan_4 ?_
  refine z_top (show M 0 24 = 0 from by rw [g0]) ?_
  refine z_icmp_ge (tgt := 72) hx hb (by decide) (by decide) dX12_isSpan_7 (by decide) (fun c1 => ?_) (fun c1 => absurd c1 (by decide))
  refine z_iconst hx hb dX12_isSpan_72 ?_
  exact z_zret hx hb hr hlocks hS hS0 (by first | decide | omega) (⟨rfl, by first | exact trivial | exact ⟨rfl, trivial⟩ | omega | (refine ⟨by omega, trivial⟩)⟩) dX12_isSpan_73

set_option maxHeartbeats 4000000 in
set_option maxRecDepth 100000 in
theorem m_span (l : Launch) (D : va_G) (dA : Nat → ClassId) (b : Nat) (M : zM) (i : Int) (r_i : R32 i) (g0 : M 0 24 = 0) : Met l yX12_span (.code yX12_span cX12_span 4 (some .int) :: zt) (z_rm 1) (va_Pc [.ref (b + 0), .int (iI i)] (zP D dA vwCl (z_tys dA) wR nR b M)) (va_Qi (zQi wR (zms wR [3235]) M (fun z M1 => (0 ≤ i ∧ i < 24 ∧ z = i + 1) ∨ ((i < 0 ∨ 24 ≤ i) ∧ z = -1))) (zB D dA vwCl wR nR b) (zA nR b)) 0 0 (zA nR b) := by
  refine Met.ofW (cc := cX12_span) (maxL := 4) (ret := (some .int)) (by decide) rfl ?_
  intro p e s m args below meth c s₁ B hml hv
  obtain ⟨hargs, hR0, hJ, hK⟩ := hv
  have hx := B.exec
  have hb := B.bytes
  have hr := B.returns
  have hts := atoms_spec (ws := .code yX12_span cX12_span 4 (some .int) :: zt) B.pre
  have hown : s.vm.findClass RX12 = some m.cls := findClass_of_methodNamed B.named
  have hlocks := B.notSynchronized
  have hS : zS D dA vwCl wR nR b (zms wR [3235]) M M s.heap := ⟨hR0, hJ, zF_rf _ _⟩
  have hS0 : va_S (zA nR b) s.heap s.heap [] := va_S.rf
  have hl := lv_entry ([.ref (b + 0), .int (iI i)]) (n := 4) (Nat.le_of_ble_eq_true rfl)
  have hent : entryFrame m args 4 = F0 m 0 ((lg_sl ([.ref (b + 0), .int (iI i)]) ++ List.replicate (4 - (lg_sl ([.ref (b + 0), .int (iI i)])).length) Slot.unset).toArray) [] := by rw [hargs]; exact lg_entry_eq m ([.ref (b + 0), .int (iI i)]) 4
  rw [hent]
  generalize (lg_sl ([.ref (b + 0), .int (iI i)]) ++ List.replicate (4 - (lg_sl ([.ref (b + 0), .int (iI i)])).length) Slot.unset).toArray = ls at hl ⊢
  have hl : lv_has ls 4 [(0, .ref (b + 0)), (1, .int (iI i))] := hl
  refine lv_aload_n hx hb dX12_span_0 rfl (lv_at hl 0 rfl) ?_
  refine z_iconst hx hb dX12_span_1 ?_
  refine z_puti hx hb hts (z_memU u12) tyX12 tyX12_ok nmX12 hown hK.1 hS hS0 f12_35 (by decide) (zkd_of (rfl : zcd wR 0 = 50) rfl) (Or.inl (hts _ (z_mem k979))) rfl (z := 0) (by decide +kernel) (zbd_in (rfl : zcd wR 0 = 50) rfl (by decide)) (zms_of (rfl : zcd wR 0 = 50) rfl) dX12_span_2 (fun H locs hS hS0 => ?_)
  obtain ⟨M1, e2⟩ : ∃ M1 : zM, M1 = zup M 0 35 0 := ⟨_, rfl⟩
  rw [← e2] at hS
  have J3 := hS.2.1
  refine lv_iload_n hx hb dX12_span_5 rfl (lv_at hl 1 rfl) ?_
  refine lv_istore_n (lv' := [(2, .int (iI i)), (0, .ref (b + 0)), (1, .int (iI i))]) hx hb dX12_span_6 rfl hl (by decide) rfl (fun ls hl => ?_)
  refine z_iconst hx hb dX12_span_7 ?_
  refine lv_istore_n (lv' := [(3, .int (iI 1)), (2, .int (iI i)), (0, .ref (b + 0)), (1, .int (iI i))]) hx hb dX12_span_8 rfl hl (by decide) rfl (fun ls hl => ?_)
  have L8 : ∀ (n6 : Nat) (lf4 : Int) (pp5 : Int) (M9 : zM) (H : Heap) (locs : List Loc) (ls : Array Slot), (2147483648 - pp5).toNat ≤ n6 → R32 lf4 → R32 pp5 → (1 ≤ pp5 ∧ pp5 ≤ 25) → (lf4 = i - (pp5 - 1)) → (pp5 = 1 ∨ pp5 - 1 ≤ i) → zS D dA vwCl wR nR b (zms wR [3235]) M M9 H → va_S (zA nR b) s.heap H locs → lv_has ls 4 [(0, .ref (b + 0)), (1, .int (iI i)), (2, .int (iI lf4)), (3, .int (iI pp5))] → W p l e (headSpec (.code yX12_span cX12_span 4 (some .int) :: zt) (z_rm 1)).room s m args below meth c H locs 0 0 (MQ below (va_Qi (zQi wR (zms wR [3235]) M (fun z M1 => (0 ≤ i ∧ i < 24 ∧ z = i + 1) ∨ ((i < 0 ∨ 24 ≤ i) ∧ z = -1))) (zB D dA vwCl wR nR b) (zA nR b)) args s 0 0 (zA nR b)) (F0 m 9 ls []) := by
    intro n6
    induction n6 with
    | zero =>
      intro lf4 pp5 M9 H locs ls hm r_lf4 r_pp5 i10 i11 i12 hS hS0 hl
      exfalso
      omega
    | succ n6 ih7 =>
      intro lf4 pp5 M9 H locs ls hm r_lf4 r_pp5 i10 i11 i12 hS hS0 hl
      have J13 := hS.2.1
      have F14 := hS.2.2
      refine lv_iload_n hx hb dX12_span_9 rfl (lv_at hl 3 rfl) ?_
      refine z_bipush hx hb (by decide) dX12_span_10 ?_
      refine z_icmp_gt (tgt := 45) hx hb r_pp5 (by decide) dX12_span_12 (by decide) (fun c15 => ?_) (fun c15 => ?_)
      · skip
        refine z_iconst hx hb dX12_span_45 ?_
        exact z_iret hx hb hr hlocks hS hS0 (by decide) (by first | exact trivial | exact ⟨rfl, trivial⟩ | omega | (refine ⟨by omega, trivial⟩)) dX12_span_46
      · skip
        refine lv_iload_n hx hb dX12_span_15 rfl (lv_at hl 2 rfl) ?_
        refine z_if_lt (tgt := 45) hx hb r_lf4 dX12_span_16 (by decide) (fun c16 => ?_) (fun c16 => ?_)
        · skip
          refine z_iconst hx hb dX12_span_45 ?_
          exact z_iret hx hb hr hlocks hS hS0 (by decide) (by first | exact trivial | exact ⟨rfl, trivial⟩ | omega | (refine ⟨by omega, trivial⟩)) dX12_span_46
        · skip
          refine lv_aload_n hx hb dX12_span_19 rfl (lv_at hl 0 rfl) ?_
          refine lv_iload_n hx hb dX12_span_20 rfl (lv_at hl 3 rfl) ?_
          refine z_calli (va_runV (As := [.int (iI pp5)]) (rest := []) ⟨hx, hb, hml, hown, hts⟩ (m_isSpan l D dA b M9 pp5 r_pp5 (by rw [F14 _ _ (zms_not (rfl : zcd wR 0 = 50) rfl), g0])) (cwV 1 hts (z_gV k1288 k1289 k1420 k14 k1290) rfl rfl rfl dm_X12_isSpan ⟨Nat.le_of_ble_eq_true rfl, Nat.le_of_ble_eq_true rfl⟩) ⟨zP_blind, (z_recv hS hK.1 (by decide) (zkd_of (rfl : zcd wR 0 = 50) rfl) (by decide) (rfl : vwCl[12]? = some (RX12, TX12, 50))), z_pre hS hK⟩ rfl rfl hl.1 rfl (lv_room (Nat.le_of_ble_eq_true rfl)) dX12_span_21 ⟨Nat.le_refl _, Nat.le_refl _⟩) hS hS0 (zms_sub rfl) (fun z21 M17 H locs r22 h18 F19 hS hS0 => ?_)
          obtain ⟨h23, h18⟩ := h18
          rw [h23] at hS
          have h24 := h18
          obtain ⟨z21e, h24⟩ := h24
          subst z21e
          refine z_if_ne (tgt := 30) hx hb (by decide) dX12_span_24 (by decide) (fun c25 => ?_) (fun c25 => absurd c25 (by decide))
          refine lv_iload_n hx hb dX12_span_30 rfl (lv_at hl 2 rfl) ?_
          refine z_if_ne (tgt := 36) hx hb r_lf4 dX12_span_31 (by decide) (fun c26 => ?_) (fun c26 => ?_)
          · skip
            refine z_iinc (lv' := [(2, .int (iI (lf4 + (-1)))), (0, .ref (b + 0)), (1, .int (iI i)), (3, .int (iI pp5))]) hx hb dX12_span_36 hl (k := 2) rfl (by decide) rfl (fun ls hl => ?_)
            refine z_iinc (lv' := [(3, .int (iI (pp5 + 1))), (2, .int (iI (lf4 + (-1)))), (0, .ref (b + 0)), (1, .int (iI i))]) hx hb dX12_span_39 hl (k := 3) rfl (by decide) rfl (fun ls hl => ?_)
            refine lv_goto (tgt := 9) hx hb dX12_span_42 (by decide) ?_
            exact ih7 (lf4 + (-1)) (pp5 + 1) M9 _ _ _ (by omega) ⟨by omega, by omega⟩ ⟨by omega, by omega⟩ (by omega) (by omega) (by omega) hS hS0 (lv_sub hl [2, 3, 1, 0] rfl)
          · skip
            refine lv_iload_n hx hb dX12_span_34 rfl (lv_at hl 3 rfl) ?_
            exact z_iret hx hb hr hlocks hS hS0 r_pp5 (by first | exact trivial | exact ⟨rfl, trivial⟩ | omega | (refine ⟨by omega, trivial⟩)) dX12_span_35
  exact L8 _ i 1 M1 _ _ _ (Nat.le_refl _) r_i (by decide) (by omega) (by omega) (by omega) hS hS0 (lv_sub hl [2, 3, 1, 0] rfl)

set_option maxHeartbeats 4000000 in
set_option maxRecDepth 100000 in
theorem m_isPair (l : Launch) (D : va_G) (dA : Nat → ClassId) (b : Nat) (M : zM) (pp : Int) (qq : Int) (r_pp : R32 pp) (r_qq : R32 qq) (g0 : M 0 24 = 0) : Met l yX12_isPair (.code yX12_isPair cX12_isPair 4 (some .boolean) :: zt) (z_rm 0) (va_Pc [.ref (b + 0), .int (iI pp), .int (iI qq)] (zP D dA vwCl (z_tys dA) wR nR b M)) (va_Qi (zQi wR (zms wR []) M (fun z M1 => M1 = M ∧ (z = 1 ∧ True))) (zB D dA vwCl wR nR b) (zA nR b)) 0 0 (zA nR b) := by
  refine Met.ofW (cc := cX12_isPair) (maxL := 4) (ret := (some .boolean)) (by decide) rfl ?_
  intro p e s m args below meth c s₁ B hml hv
  obtain ⟨hargs, hR0, hJ, hK⟩ := hv
  have hx := B.exec
  have hb := B.bytes
  have hr := B.returns
  have hts := atoms_spec (ws := .code yX12_isPair cX12_isPair 4 (some .boolean) :: zt) B.pre
  have hown : s.vm.findClass RX12 = some m.cls := findClass_of_methodNamed B.named
  have hlocks := B.notSynchronized
  have hS : zS D dA vwCl wR nR b (zms wR []) M M s.heap := ⟨hR0, hJ, zF_rf _ _⟩
  have hS0 : va_S (zA nR b) s.heap s.heap [] := va_S.rf
  have hl := lv_entry ([.ref (b + 0), .int (iI pp), .int (iI qq)]) (n := 4) (Nat.le_of_ble_eq_true rfl)
  have hent : entryFrame m args 4 = F0 m 0 ((lg_sl ([.ref (b + 0), .int (iI pp), .int (iI qq)]) ++ List.replicate (4 - (lg_sl ([.ref (b + 0), .int (iI pp), .int (iI qq)])).length) Slot.unset).toArray) [] := by rw [hargs]; exact lg_entry_eq m ([.ref (b + 0), .int (iI pp), .int (iI qq)]) 4
  rw [hent]
  generalize (lg_sl ([.ref (b + 0), .int (iI pp), .int (iI qq)]) ++ List.replicate (4 - (lg_sl ([.ref (b + 0), .int (iI pp), .int (iI qq)])).length) Slot.unset).toArray = ls at hl ⊢
  have hl : lv_has ls 4 [(0, .ref (b + 0)), (1, .int (iI pp)), (2, .int (iI qq))] := hl
  refine z_iconst hx hb dX12_isPair_0 ?_
  refine lv_istore_n (lv' := [(3, .int (iI 0)), (0, .ref (b + 0)), (1, .int (iI pp)), (2, .int (iI qq))]) hx hb dX12_isPair_1 rfl hl (by decide) rfl (fun ls hl => ?_)
  refine lv_iload_n hx hb dX12_isPair_2 rfl (lv_at hl 0 rfl) ?_
  refine lv_aload_n hx hb dX12_isPair_3 rfl (lv_at hl 1 rfl) ?_
  refine z_geti hx hb hts (z_memU u12) hown hK.1 hS f12_24 (by decide) (zkd_of (rfl : zcd wR 0 = 50) rfl) (Or.inl (hts _ (z_mem k968))) dX12_isPair_4 ?_
  refine z_top (show M 0 24 = 0 from by rw [g0]) ?_
  refine z_icmp_ge (tgt := 50) hx hb (by decide) (by decide) dX12_isPair_7 (by decide) (fun c1 => ?_) (fun c1 => absurd c1 (by decide))
  refine z_iconst hx hb dX12_isPair_50 ?_
  exact z_zret hx hb hr hlocks hS hS0 (by first | decide | omega) (⟨rfl, by first | exact trivial | exact ⟨rfl, trivial⟩ | omega | (refine ⟨by omega, trivial⟩)⟩) dX12_isPair_51

set_option maxHeartbeats 4000000 in
set_option maxRecDepth 100000 in
theorem m_pairAt (l : Launch) (D : va_G) (dA : Nat → ClassId) (b : Nat) (M : zM) (i : Int) (r_i : R32 i) (g0 : M 0 24 = 0) (p0 : 0 ≤ i) : Met l yX12_pairAt (.code yX12_pairAt cX12_pairAt 5 (some .int) :: zt) (z_rm 1) (va_Pc [.ref (b + 0), .int (iI i)] (zP D dA vwCl (z_tys dA) wR nR b M)) (va_Qi (zQi wR (zms wR []) M (fun z M1 => M1 = M ∧ (PR i z))) (zB D dA vwCl wR nR b) (zA nR b)) 0 0 (zA nR b) := by
  refine Met.ofW (cc := cX12_pairAt) (maxL := 5) (ret := (some .int)) (by decide) rfl ?_
  intro p e s m args below meth c s₁ B hml hv
  obtain ⟨hargs, hR0, hJ, hK⟩ := hv
  have hx := B.exec
  have hb := B.bytes
  have hr := B.returns
  have hts := atoms_spec (ws := .code yX12_pairAt cX12_pairAt 5 (some .int) :: zt) B.pre
  have hown : s.vm.findClass RX12 = some m.cls := findClass_of_methodNamed B.named
  have hlocks := B.notSynchronized
  have hS : zS D dA vwCl wR nR b (zms wR []) M M s.heap := ⟨hR0, hJ, zF_rf _ _⟩
  have hS0 : va_S (zA nR b) s.heap s.heap [] := va_S.rf
  have hl := lv_entry ([.ref (b + 0), .int (iI i)]) (n := 5) (Nat.le_of_ble_eq_true rfl)
  have hent : entryFrame m args 5 = F0 m 0 ((lg_sl ([.ref (b + 0), .int (iI i)]) ++ List.replicate (5 - (lg_sl ([.ref (b + 0), .int (iI i)])).length) Slot.unset).toArray) [] := by rw [hargs]; exact lg_entry_eq m ([.ref (b + 0), .int (iI i)]) 5
  rw [hent]
  generalize (lg_sl ([.ref (b + 0), .int (iI i)]) ++ List.replicate (5 - (lg_sl ([.ref (b + 0), .int (iI i)])).length) Slot.unset).toArray = ls at hl ⊢
  have hl : lv_has ls 5 [(0, .ref (b + 0)), (1, .int (iI i))] := hl
  refine lv_iload_n hx hb dX12_pairAt_0 rfl (lv_at hl 1 rfl) ?_
  refine lv_istore_n (lv' := [(2, .int (iI i)), (0, .ref (b + 0)), (1, .int (iI i))]) hx hb dX12_pairAt_1 rfl hl (by decide) rfl (fun ls hl => ?_)
  refine z_iconst hx hb dX12_pairAt_2 ?_
  refine lv_istore_n (lv' := [(3, .int (iI 2)), (2, .int (iI i)), (0, .ref (b + 0)), (1, .int (iI i))]) hx hb dX12_pairAt_3 rfl hl (by decide) rfl (fun ls hl => ?_)
  have L5 : ∀ (n3 : Nat) (lf1 : Int) (sm2 : Int) (H : Heap) (locs : List Loc) (ls : Array Slot), (2147483648 - sm2).toNat ≤ n3 → R32 lf1 → R32 sm2 → (2 ≤ sm2 ∧ sm2 ≤ 49) → (lf1 = i - PF (sm2 - 2).toNat) → (0 ≤ lf1 ∧ lf1 ≤ i) → zS D dA vwCl wR nR b (zms wR []) M M H → va_S (zA nR b) s.heap H locs → lv_has ls 5 [(0, .ref (b + 0)), (1, .int (iI i)), (2, .int (iI lf1)), (3, .int (iI sm2))] → W p l e (headSpec (.code yX12_pairAt cX12_pairAt 5 (some .int) :: zt) (z_rm 1)).room s m args below meth c H locs 0 0 (MQ below (va_Qi (zQi wR (zms wR []) M (fun z M1 => M1 = M ∧ (PR i z))) (zB D dA vwCl wR nR b) (zA nR b)) args s 0 0 (zA nR b)) (F0 m 4 ls []) := by
    intro n3
    induction n3 with
    | zero =>
      intro lf1 sm2 H locs ls hm r_lf1 r_sm2 i6 i7 i8 hS hS0 hl
      exfalso
      omega
    | succ n3 ih4 =>
      intro lf1 sm2 H locs ls hm r_lf1 r_sm2 i6 i7 i8 hS hS0 hl
      refine lv_iload_n hx hb dX12_pairAt_4 rfl (lv_at hl 3 rfl) ?_
      refine z_bipush hx hb (by decide) dX12_pairAt_5 ?_
      refine z_icmp_gt (tgt := 74) hx hb r_sm2 (by decide) dX12_pairAt_7 (by decide) (fun c9 => ?_) (fun c9 => ?_)
      · skip
        refine z_iconst hx hb dX12_pairAt_74 ?_
        exact z_iret hx hb hr hlocks hS hS0 (by decide) (⟨rfl, Or.inr ⟨by have e9 : (sm2 - 2).toNat = 47 := (by omega); have h9 := i7; rw [e9] at h9; omega, rfl⟩⟩) dX12_pairAt_75
      · skip
        refine z_iconst hx hb dX12_pairAt_10 ?_
        refine lv_iload_n hx hb dX12_pairAt_11 rfl (lv_at hl 3 rfl) ?_
        refine z_bipush hx hb (by decide) dX12_pairAt_12 ?_
        refine z_isub hx hb dX12_pairAt_14 ?_
        refine z_mmax hx hb (hml.trans hl.1.symm) hown (hts _ (z_mem k1196)) (hts _ (z_mem k341)) (hts _ (z_mem k15)) (hts _ (z_mem k342)) (by exact Nat.le_of_ble_eq_true rfl) (by exact Nat.le_of_ble_eq_true rfl) (by exact Nat.le_refl _) (by exact Nat.le_refl _) (by decide) ⟨by omega, by omega⟩ dX12_pairAt_15 ?_
        obtain ⟨z10, q11⟩ : ∃ z10 : Int, z10 = (max 1 (sm2 - 24)) := ⟨_, rfl⟩
        rw [← q11]
        refine lv_istore (lv' := [(4, .int (iI z10)), (0, .ref (b + 0)), (1, .int (iI i)), (2, .int (iI lf1)), (3, .int (iI sm2))]) hx hb dX12_pairAt_18 hl (by decide) rfl (fun ls hl => ?_)
        have L16 : ∀ (n14 : Nat) (lf12 : Int) (pp13 : Int) (H : Heap) (locs : List Loc) (ls : Array Slot), (2147483648 - pp13).toNat ≤ n14 → R32 lf12 → R32 pp13 → (PL sm2 ≤ pp13) → (2 * pp13 ≤ sm2 + 2) → (lf12 = i - PF (sm2 - 2).toNat - (pp13 - PL sm2)) → (0 ≤ lf12 ∧ lf12 ≤ i) → (1 ≤ pp13) → zS D dA vwCl wR nR b (zms wR []) M M H → va_S (zA nR b) s.heap H locs → lv_has ls 5 [(0, .ref (b + 0)), (1, .int (iI i)), (2, .int (iI lf12)), (3, .int (iI sm2)), (4, .int (iI pp13))] → W p l e (headSpec (.code yX12_pairAt cX12_pairAt 5 (some .int) :: zt) (z_rm 1)).room s m args below meth c H locs 0 0 (MQ below (va_Qi (zQi wR (zms wR []) M (fun z M1 => M1 = M ∧ (PR i z))) (zB D dA vwCl wR nR b) (zA nR b)) args s 0 0 (zA nR b)) (F0 m 20 ls []) := by
          intro n14
          induction n14 with
          | zero =>
            intro lf12 pp13 H locs ls hm r_lf12 r_pp13 i17 i18 i19 i20 i21 hS hS0 hl
            exfalso
            omega
          | succ n14 ih15 =>
            intro lf12 pp13 H locs ls hm r_lf12 r_pp13 i17 i18 i19 i20 i21 hS hS0 hl
            refine z_iconst hx hb dX12_pairAt_20 ?_
            refine lv_iload hx hb dX12_pairAt_21 (lv_at hl 4 rfl) ?_
            refine z_imul hx hb dX12_pairAt_23 ?_
            refine lv_iload_n hx hb dX12_pairAt_24 rfl (lv_at hl 3 rfl) ?_
            refine z_icmp_gt (tgt := 68) hx hb ⟨by omega, by omega⟩ r_sm2 dX12_pairAt_25 (by decide) (fun c22 => ?_) (fun c22 => ?_)
            · skip
              refine z_iinc (lv' := [(3, .int (iI (sm2 + 1))), (0, .ref (b + 0)), (1, .int (iI i)), (2, .int (iI lf12)), (4, .int (iI pp13))]) hx hb dX12_pairAt_68 hl (k := 3) rfl (by decide) rfl (fun ls hl => ?_)
              refine lv_goto (tgt := 4) hx hb dX12_pairAt_71 (by decide) ?_
              exact ih4 lf12 (sm2 + 1) _ _ _ (by omega) r_lf12 ⟨by omega, by omega⟩ (by omega) (by rw [PF_s _ (by omega) (by omega)]; omega) (by omega) hS hS0 (lv_sub hl [1, 2, 3, 0] rfl)
            · skip
              refine lv_aload_n hx hb dX12_pairAt_28 rfl (lv_at hl 0 rfl) ?_
              refine lv_iload hx hb dX12_pairAt_29 (lv_at hl 4 rfl) ?_
              refine lv_iload_n hx hb dX12_pairAt_31 rfl (lv_at hl 3 rfl) ?_
              refine lv_iload hx hb dX12_pairAt_32 (lv_at hl 4 rfl) ?_
              refine z_isub hx hb dX12_pairAt_34 ?_
              refine z_calli (va_runV (As := [.int (iI pp13), .int (iI (sm2 - pp13))]) (rest := []) ⟨hx, hb, hml, hown, hts⟩ (m_isPair l D dA b M pp13 (sm2 - pp13) r_pp13 ⟨by omega, by omega⟩ (by rw [g0])) (cwV 2 hts (z_gV k1298 k1299 k1422 k14 k1300) rfl rfl rfl dm_X12_isPair ⟨Nat.le_of_ble_eq_true rfl, Nat.le_of_ble_eq_true rfl⟩) ⟨zP_blind, (z_recv hS hK.1 (by decide) (zkd_of (rfl : zcd wR 0 = 50) rfl) (by decide) (rfl : vwCl[12]? = some (RX12, TX12, 50))), z_pre hS hK⟩ rfl rfl hl.1 rfl (lv_room (Nat.le_of_ble_eq_true rfl)) dX12_pairAt_35 ⟨Nat.le_refl _, Nat.le_refl _⟩) hS hS0 (zms_sub rfl) (fun z27 M23 H locs r28 h24 F25 hS hS0 => ?_)
              obtain ⟨h29, h24⟩ := h24
              rw [h29] at hS
              have h30 := h24
              obtain ⟨z27e, h30⟩ := h30
              subst z27e
              refine z_if_ne (tgt := 44) hx hb (by decide) dX12_pairAt_38 (by decide) (fun c31 => ?_) (fun c31 => absurd c31 (by decide))
              refine lv_iload_n hx hb dX12_pairAt_44 rfl (lv_at hl 2 rfl) ?_
              refine z_if_ne (tgt := 59) hx hb r_lf12 dX12_pairAt_45 (by decide) (fun c32 => ?_) (fun c32 => ?_)
              · skip
                refine z_iinc (lv' := [(2, .int (iI (lf12 + (-1)))), (0, .ref (b + 0)), (1, .int (iI i)), (3, .int (iI sm2)), (4, .int (iI pp13))]) hx hb dX12_pairAt_59 hl (k := 2) rfl (by decide) rfl (fun ls hl => ?_)
                refine z_iinc (lv' := [(4, .int (iI (pp13 + 1))), (2, .int (iI (lf12 + (-1)))), (0, .ref (b + 0)), (1, .int (iI i)), (3, .int (iI sm2))]) hx hb dX12_pairAt_62 hl (k := 4) rfl (by decide) rfl (fun ls hl => ?_)
                refine lv_goto (tgt := 20) hx hb dX12_pairAt_65 (by decide) ?_
                exact ih15 (lf12 + (-1)) (pp13 + 1) _ _ _ (by omega) ⟨by omega, by omega⟩ ⟨by omega, by omega⟩ (by first | omega | (unfold PL; omega)) (by omega) (by first | omega | (unfold PL; omega)) (by omega) (by omega) hS hS0 (lv_sub hl [2, 3, 1, 4, 0] rfl)
              · skip
                refine z_bipush hx hb (by decide) dX12_pairAt_48 ?_
                refine lv_iload hx hb dX12_pairAt_50 (lv_at hl 4 rfl) ?_
                refine z_imul hx hb dX12_pairAt_52 ?_
                refine lv_iload_n hx hb dX12_pairAt_53 rfl (lv_at hl 3 rfl) ?_
                refine z_iadd hx hb dX12_pairAt_54 ?_
                refine lv_iload hx hb dX12_pairAt_55 (lv_at hl 4 rfl) ?_
                refine z_isub hx hb dX12_pairAt_57 ?_
                exact z_iret hx hb hr hlocks hS hS0 ⟨by omega, by omega⟩ (⟨rfl, Or.inl ⟨sm2, pp13, by omega, by omega, by omega, by omega, by omega, by omega⟩⟩) dX12_pairAt_58
        exact L16 _ lf1 z10 _ _ _ (Nat.le_refl _) r_lf1 ⟨by omega, by omega⟩ (by first | omega | (unfold PL; omega)) (by omega) (by first | omega | (unfold PL; omega)) (by omega) (by omega) hS hS0 (lv_sub hl [1, 2, 3, 4, 0] rfl)
  exact L5 _ i 2 _ _ _ (Nat.le_refl _) r_i (by decide) (by omega) (by show i = i - PF 0; rw [PF]; omega) (by omega) hS hS0 (lv_sub hl [2, 3, 1, 0] rfl)

set_option maxHeartbeats 4000000 in
set_option maxRecDepth 100000 in
theorem m_pair (l : Launch) (D : va_G) (dA : Nat → ClassId) (b : Nat) (M : zM) (i : Int) (r_i : R32 i) (g0 : M 0 24 = 0) : Met l yX12_pair (.code yX12_pair cX12_pair 2 (some .int) :: zt) (z_rm 2) (va_Pc [.ref (b + 0), .int (iI i)] (zP D dA vwCl (z_tys dA) wR nR b M)) (va_Qi (zQi wR (zms wR [3235]) M (fun z M1 => PR i z)) (zB D dA vwCl wR nR b) (zA nR b)) 0 0 (zA nR b) := by
  refine Met.ofW (cc := cX12_pair) (maxL := 2) (ret := (some .int)) (by decide) rfl ?_
  intro p e s m args below meth c s₁ B hml hv
  obtain ⟨hargs, hR0, hJ, hK⟩ := hv
  have hx := B.exec
  have hb := B.bytes
  have hr := B.returns
  have hts := atoms_spec (ws := .code yX12_pair cX12_pair 2 (some .int) :: zt) B.pre
  have hown : s.vm.findClass RX12 = some m.cls := findClass_of_methodNamed B.named
  have hlocks := B.notSynchronized
  have hS : zS D dA vwCl wR nR b (zms wR [3235]) M M s.heap := ⟨hR0, hJ, zF_rf _ _⟩
  have hS0 : va_S (zA nR b) s.heap s.heap [] := va_S.rf
  have hl := lv_entry ([.ref (b + 0), .int (iI i)]) (n := 2) (Nat.le_of_ble_eq_true rfl)
  have hent : entryFrame m args 2 = F0 m 0 ((lg_sl ([.ref (b + 0), .int (iI i)]) ++ List.replicate (2 - (lg_sl ([.ref (b + 0), .int (iI i)])).length) Slot.unset).toArray) [] := by rw [hargs]; exact lg_entry_eq m ([.ref (b + 0), .int (iI i)]) 2
  rw [hent]
  generalize (lg_sl ([.ref (b + 0), .int (iI i)]) ++ List.replicate (2 - (lg_sl ([.ref (b + 0), .int (iI i)])).length) Slot.unset).toArray = ls at hl ⊢
  have hl : lv_has ls 2 [(0, .ref (b + 0)), (1, .int (iI i))] := hl
  refine lv_aload_n hx hb dX12_pair_0 rfl (lv_at hl 0 rfl) ?_
  refine z_iconst hx hb dX12_pair_1 ?_
  refine z_puti hx hb hts (z_memU u12) tyX12 tyX12_ok nmX12 hown hK.1 hS hS0 f12_35 (by decide) (zkd_of (rfl : zcd wR 0 = 50) rfl) (Or.inl (hts _ (z_mem k979))) rfl (z := 0) (by decide +kernel) (zbd_in (rfl : zcd wR 0 = 50) rfl (by decide)) (zms_of (rfl : zcd wR 0 = 50) rfl) dX12_pair_2 (fun H locs hS hS0 => ?_)
  obtain ⟨M1, e2⟩ : ∃ M1 : zM, M1 = zup M 0 35 0 := ⟨_, rfl⟩
  rw [← e2] at hS
  have J3 := hS.2.1
  refine lv_iload_n hx hb dX12_pair_5 rfl (lv_at hl 1 rfl) ?_
  refine z_if_ge (tgt := 13) hx hb r_i dX12_pair_6 (by decide) (fun c4 => ?_) (fun c4 => ?_)
  · skip
    refine lv_aload_n hx hb dX12_pair_13 rfl (lv_at hl 0 rfl) ?_
    refine lv_iload_n hx hb dX12_pair_14 rfl (lv_at hl 1 rfl) ?_
    refine z_calli (va_runV (As := [.int (iI i)]) (rest := []) ⟨hx, hb, hml, hown, hts⟩ (m_pairAt l D dA b M1 i r_i (by rw [e2, zup_n _ _ (by omega), g0]) (by omega)) (cwV 1 hts (z_gV k1295 k1296 k1421 k14 k1297) rfl rfl rfl dm_X12_pairAt ⟨Nat.le_of_ble_eq_true rfl, Nat.le_of_ble_eq_true rfl⟩) ⟨zP_blind, (z_recv hS hK.1 (by decide) (zkd_of (rfl : zcd wR 0 = 50) rfl) (by decide) (rfl : vwCl[12]? = some (RX12, TX12, 50))), z_pre hS hK⟩ rfl rfl hl.1 rfl (lv_room (Nat.le_of_ble_eq_true rfl)) dX12_pair_15 ⟨Nat.le_refl _, Nat.le_refl _⟩) hS hS0 (zms_sub rfl) (fun z9 M5 H locs r10 h6 F7 hS hS0 => ?_)
    obtain ⟨h11, h6⟩ := h6
    rw [h11] at hS
    exact z_iret hx hb hr hlocks hS hS0 r10 (h6) dX12_pair_18
  · skip
    refine z_iconst hx hb dX12_pair_9 ?_
    refine lv_goto (tgt := 18) hx hb dX12_pair_10 (by decide) ?_
    exact z_iret hx hb hr hlocks hS hS0 (by decide) (Or.inr ⟨Or.inl (by omega), rfl⟩) dX12_pair_18

set_option maxHeartbeats 4000000 in
set_option maxRecDepth 100000 in
theorem m_mended (l : Launch) (D : va_G) (dA : Nat → ClassId) (b : Nat) (M : zM) (i : Int) (r_i : R32 i) (g0 : M 0 24 = 0) : Met l yX12_mended (.code yX12_mended cX12_mended 3 (some .int) :: zt) (z_rm 1) (va_Pc [.ref (b + 0), .int (iI i)] (zP D dA vwCl (z_tys dA) wR nR b M)) (va_Qi (zQi wR (zms wR [3235]) M (fun z M1 => z = -1 ∧ True)) (zB D dA vwCl wR nR b) (zA nR b)) 0 0 (zA nR b) := by
  refine Met.ofW (cc := cX12_mended) (maxL := 3) (ret := (some .int)) (by decide) rfl ?_
  intro p e s m args below meth c s₁ B hml hv
  obtain ⟨hargs, hR0, hJ, hK⟩ := hv
  have hx := B.exec
  have hb := B.bytes
  have hr := B.returns
  have hts := atoms_spec (ws := .code yX12_mended cX12_mended 3 (some .int) :: zt) B.pre
  have hown : s.vm.findClass RX12 = some m.cls := findClass_of_methodNamed B.named
  have hlocks := B.notSynchronized
  have hS : zS D dA vwCl wR nR b (zms wR [3235]) M M s.heap := ⟨hR0, hJ, zF_rf _ _⟩
  have hS0 : va_S (zA nR b) s.heap s.heap [] := va_S.rf
  have hl := lv_entry ([.ref (b + 0), .int (iI i)]) (n := 3) (Nat.le_of_ble_eq_true rfl)
  have hent : entryFrame m args 3 = F0 m 0 ((lg_sl ([.ref (b + 0), .int (iI i)]) ++ List.replicate (3 - (lg_sl ([.ref (b + 0), .int (iI i)])).length) Slot.unset).toArray) [] := by rw [hargs]; exact lg_entry_eq m ([.ref (b + 0), .int (iI i)]) 3
  rw [hent]
  generalize (lg_sl ([.ref (b + 0), .int (iI i)]) ++ List.replicate (3 - (lg_sl ([.ref (b + 0), .int (iI i)])).length) Slot.unset).toArray = ls at hl ⊢
  have hl : lv_has ls 3 [(0, .ref (b + 0)), (1, .int (iI i))] := hl
  refine lv_aload_n hx hb dX12_mended_0 rfl (lv_at hl 0 rfl) ?_
  refine z_iconst hx hb dX12_mended_1 ?_
  refine z_puti hx hb hts (z_memU u12) tyX12 tyX12_ok nmX12 hown hK.1 hS hS0 f12_35 (by decide) (zkd_of (rfl : zcd wR 0 = 50) rfl) (Or.inl (hts _ (z_mem k979))) rfl (z := 0) (by decide +kernel) (zbd_in (rfl : zcd wR 0 = 50) rfl (by decide)) (zms_of (rfl : zcd wR 0 = 50) rfl) dX12_mended_2 (fun H locs hS hS0 => ?_)
  obtain ⟨M1, e2⟩ : ∃ M1 : zM, M1 = zup M 0 35 0 := ⟨_, rfl⟩
  rw [← e2] at hS
  have J3 := hS.2.1
  refine lv_iload_n hx hb dX12_mended_5 rfl (lv_at hl 1 rfl) ?_
  refine z_iconst hx hb dX12_mended_6 ?_
  refine lv_aload_n hx hb dX12_mended_7 rfl (lv_at hl 0 rfl) ?_
  refine z_geti hx hb hts (z_memU u12) hown hK.1 hS f12_24 (by decide) (zkd_of (rfl : zcd wR 0 = 50) rfl) (Or.inl (hts _ (z_mem k968))) dX12_mended_8 ?_
  refine z_top (show M1 0 24 = 0 from by rw [e2, zup_n _ _ (by omega), g0]) ?_
  refine z_iconst hx hb dX12_mended_11 ?_
  refine z_isub hx hb dX12_mended_12 ?_
  refine z_top (show ((0 - 1) : Int) = (-1) from (by decide)) ?_
  refine z_calli (va_runS (As := [.int (iI i), .int (iI 0), .int (iI (-1))]) (rest := []) ⟨hx, hb, hml, hown, hts⟩ (m_in l D dA b M1 i 0 (-1) r_i (by decide) (by decide)) (va_cwS 3 hts (z_gS k1087 k1088 k14 k1089) rfl rfl rfl dm_X12_in.2 ⟨Nat.le_of_ble_eq_true rfl, Nat.le_of_ble_eq_true rfl⟩) ⟨zP_blind, z_pre hS hK⟩ rfl rfl hl.1 rfl (lv_room (Nat.le_of_ble_eq_true rfl)) dX12_mended_13 ⟨Nat.le_refl _, Nat.le_refl _⟩) hS hS0 (zms_sub rfl) (fun z8 M4 H locs r9 h5 F6 hS hS0 => ?_)
  obtain ⟨h10, h5⟩ := h5
  rw [h10] at hS
  rcases h5 with h11 | h12
  · skip
    exfalso
    omega
  · skip
    obtain ⟨z8e, h12⟩ := h12
    subst z8e
    refine z_if_ne (tgt := 21) hx hb (by decide) dX12_mended_16 (by decide) (fun c13 => absurd c13 (by decide)) (fun c13 => ?_)
    refine z_iconst hx hb dX12_mended_19 ?_
    exact z_iret hx hb hr hlocks hS hS0 (by decide) (by first | exact trivial | exact ⟨rfl, trivial⟩ | omega | (refine ⟨by omega, trivial⟩)) dX12_mended_20

set_option maxHeartbeats 4000000 in
set_option maxRecDepth 100000 in
theorem m_piece (l : Launch) (D : va_G) (dA : Nat → ClassId) (b : Nat) (M : zM) (v : Int) (n : Int) (r_v : R32 v) (r_n : R32 n) (g0 : M 0 27 = 0) : Met l yX12_piece (.code yX12_piece cX12_piece 4 (some .int) :: zt) (z_rm 1) (va_Pc [.ref (b + 0), .int (iI v), .int (iI n)] (zP D dA vwCl (z_tys dA) wR nR b M)) (va_Qi (zQi wR (zms wR [3235, 3227, 4287, 4351]) M (fun z M1 => ((1 ≤ n ∧ n ≤ 8) ∧ ((z = 0 ∧ ∀ k : Int, 0 ≤ k → k < n → DIG v k ≤ 9) ∨ (z = -1 ∧ ∃ k : Int, 0 ≤ k ∧ k < n ∧ 9 < DIG v k))) ∨ (¬ (1 ≤ n ∧ n ≤ 8) ∧ z = -1))) (zB D dA vwCl wR nR b) (zA nR b)) 0 0 (zA nR b) := by
  refine Met.ofW (cc := cX12_piece) (maxL := 4) (ret := (some .int)) (by decide) rfl ?_
  intro p e s m args below meth c s₁ B hml hv
  obtain ⟨hargs, hR0, hJ, hK⟩ := hv
  have hx := B.exec
  have hb := B.bytes
  have hr := B.returns
  have hts := atoms_spec (ws := .code yX12_piece cX12_piece 4 (some .int) :: zt) B.pre
  have hown : s.vm.findClass RX12 = some m.cls := findClass_of_methodNamed B.named
  have hlocks := B.notSynchronized
  have hS : zS D dA vwCl wR nR b (zms wR [3235, 3227, 4287, 4351]) M M s.heap := ⟨hR0, hJ, zF_rf _ _⟩
  have hS0 : va_S (zA nR b) s.heap s.heap [] := va_S.rf
  have hl := lv_entry ([.ref (b + 0), .int (iI v), .int (iI n)]) (n := 4) (Nat.le_of_ble_eq_true rfl)
  have hent : entryFrame m args 4 = F0 m 0 ((lg_sl ([.ref (b + 0), .int (iI v), .int (iI n)]) ++ List.replicate (4 - (lg_sl ([.ref (b + 0), .int (iI v), .int (iI n)])).length) Slot.unset).toArray) [] := by rw [hargs]; exact lg_entry_eq m ([.ref (b + 0), .int (iI v), .int (iI n)]) 4
  rw [hent]
  generalize (lg_sl ([.ref (b + 0), .int (iI v), .int (iI n)]) ++ List.replicate (4 - (lg_sl ([.ref (b + 0), .int (iI v), .int (iI n)])).length) Slot.unset).toArray = ls at hl ⊢
  have hl : lv_has ls 4 [(0, .ref (b + 0)), (1, .int (iI v)), (2, .int (iI n))] := hl
  refine lv_aload_n hx hb dX12_piece_0 rfl (lv_at hl 0 rfl) ?_
  refine z_iconst hx hb dX12_piece_1 ?_
  refine z_puti hx hb hts (z_memU u12) tyX12 tyX12_ok nmX12 hown hK.1 hS hS0 f12_35 (by decide) (zkd_of (rfl : zcd wR 0 = 50) rfl) (Or.inl (hts _ (z_mem k979))) rfl (z := 0) (by decide +kernel) (zbd_in (rfl : zcd wR 0 = 50) rfl (by decide)) (zms_of (rfl : zcd wR 0 = 50) rfl) dX12_piece_2 (fun H locs hS hS0 => ?_)
  obtain ⟨M1, e2⟩ : ∃ M1 : zM, M1 = zup M 0 35 0 := ⟨_, rfl⟩
  rw [← e2] at hS
  have J3 := hS.2.1
  refine lv_iload_n hx hb dX12_piece_5 rfl (lv_at hl 2 rfl) ?_
  refine z_iconst hx hb dX12_piece_6 ?_
  refine z_bipush hx hb (by decide) dX12_piece_7 ?_
  refine z_calli (va_runS (As := [.int (iI n), .int (iI 1), .int (iI 8)]) (rest := []) ⟨hx, hb, hml, hown, hts⟩ (m_in l D dA b M1 n 1 8 r_n (by decide) (by decide)) (va_cwS 3 hts (z_gS k1087 k1088 k14 k1089) rfl rfl rfl dm_X12_in.2 ⟨Nat.le_of_ble_eq_true rfl, Nat.le_of_ble_eq_true rfl⟩) ⟨zP_blind, z_pre hS hK⟩ rfl rfl hl.1 rfl (lv_room (Nat.le_of_ble_eq_true rfl)) dX12_piece_9 ⟨Nat.le_refl _, Nat.le_refl _⟩) hS hS0 (zms_sub rfl) (fun z8 M4 H locs r9 h5 F6 hS hS0 => ?_)
  obtain ⟨h10, h5⟩ := h5
  rw [h10] at hS
  rcases h5 with h11 | h12
  · skip
    obtain ⟨z8e, h11⟩ := h11
    subst z8e
    refine z_if_eq (tgt := 23) hx hb (by decide) dX12_piece_12 (by decide) (fun c13 => absurd c13 (by decide)) (fun c13 => ?_)
    refine lv_aload_n hx hb dX12_piece_15 rfl (lv_at hl 0 rfl) ?_
    refine z_geti hx hb hts (z_memU u12) hown hK.1 hS f12_27 (by decide) (zkd_of (rfl : zcd wR 0 = 50) rfl) (Or.inl (hts _ (z_mem k971))) dX12_piece_16 ?_
    refine z_top (show M1 0 27 = 0 from by rw [e2, zup_n _ _ (by omega), g0]) ?_
    refine z_iconst hx hb dX12_piece_19 ?_
    refine z_icmp_ne (tgt := 25) hx hb (by decide) (by decide) dX12_piece_20 (by decide) (fun c14 => ?_) (fun c14 => absurd c14 (by decide))
    refine z_iconst hx hb dX12_piece_25 ?_
    refine lv_istore_n (lv' := [(3, .int (iI 0)), (0, .ref (b + 0)), (1, .int (iI v)), (2, .int (iI n))]) hx hb dX12_piece_26 rfl hl (by decide) rfl (fun ls hl => ?_)
    have L18 : ∀ (n16 : Nat) (i15 : Int) (H : Heap) (locs : List Loc) (ls : Array Slot), (2147483648 - i15).toNat ≤ n16 → R32 i15 → (0 ≤ i15) → (∀ k : Int, 0 ≤ k → k < i15 → DIG v k ≤ 9) → zS D dA vwCl wR nR b (zms wR [3235, 3227, 4287, 4351]) M M1 H → va_S (zA nR b) s.heap H locs → lv_has ls 4 [(0, .ref (b + 0)), (1, .int (iI v)), (2, .int (iI n)), (3, .int (iI i15))] → W p l e (headSpec (.code yX12_piece cX12_piece 4 (some .int) :: zt) (z_rm 1)).room s m args below meth c H locs 0 0 (MQ below (va_Qi (zQi wR (zms wR [3235, 3227, 4287, 4351]) M (fun z M1 => ((1 ≤ n ∧ n ≤ 8) ∧ ((z = 0 ∧ ∀ k : Int, 0 ≤ k → k < n → DIG v k ≤ 9) ∨ (z = -1 ∧ ∃ k : Int, 0 ≤ k ∧ k < n ∧ 9 < DIG v k))) ∨ (¬ (1 ≤ n ∧ n ≤ 8) ∧ z = -1))) (zB D dA vwCl wR nR b) (zA nR b)) args s 0 0 (zA nR b)) (F0 m 27 ls []) := by
      intro n16
      induction n16 with
      | zero =>
        intro i15 H locs ls hm r_i15 i19 i20 hS hS0 hl
        exfalso
        omega
      | succ n16 ih17 =>
        intro i15 H locs ls hm r_i15 i19 i20 hS hS0 hl
        refine lv_iload_n hx hb dX12_piece_27 rfl (lv_at hl 3 rfl) ?_
        refine lv_iload_n hx hb dX12_piece_28 rfl (lv_at hl 2 rfl) ?_
        refine z_icmp_ge (tgt := 56) hx hb r_i15 r_n dX12_piece_29 (by decide) (fun c21 => ?_) (fun c21 => ?_)
        · skip
          refine z_iconst hx hb dX12_piece_56 ?_
          refine lv_istore_n (lv' := [(3, .int (iI 0)), (0, .ref (b + 0)), (1, .int (iI v)), (2, .int (iI n))]) hx hb dX12_piece_57 rfl hl (by decide) rfl (fun ls hl => ?_)
          have L25 : ∀ (n23 : Nat) (i22 : Int) (M26 : zM) (H : Heap) (locs : List Loc) (ls : Array Slot), (2147483648 - i22).toNat ≤ n23 → R32 i22 → (0 ≤ i22) → (M26 0 27 = 0) → zS D dA vwCl wR nR b (zms wR [3235, 3227, 4287, 4351]) M M26 H → va_S (zA nR b) s.heap H locs → lv_has ls 4 [(0, .ref (b + 0)), (1, .int (iI v)), (2, .int (iI n)), (3, .int (iI i22))] → W p l e (headSpec (.code yX12_piece cX12_piece 4 (some .int) :: zt) (z_rm 1)).room s m args below meth c H locs 0 0 (MQ below (va_Qi (zQi wR (zms wR [3235, 3227, 4287, 4351]) M (fun z M1 => ((1 ≤ n ∧ n ≤ 8) ∧ ((z = 0 ∧ ∀ k : Int, 0 ≤ k → k < n → DIG v k ≤ 9) ∨ (z = -1 ∧ ∃ k : Int, 0 ≤ k ∧ k < n ∧ 9 < DIG v k))) ∨ (¬ (1 ≤ n ∧ n ≤ 8) ∧ z = -1))) (zB D dA vwCl wR nR b) (zA nR b)) args s 0 0 (zA nR b)) (F0 m 58 ls []) := by
            intro n23
            induction n23 with
            | zero =>
              intro i22 M26 H locs ls hm r_i22 i27 i28 hS hS0 hl
              exfalso
              omega
            | succ n23 ih24 =>
              intro i22 M26 H locs ls hm r_i22 i27 i28 hS hS0 hl
              have J29 := hS.2.1
              have F30 := hS.2.2
              refine lv_iload_n hx hb dX12_piece_58 rfl (lv_at hl 3 rfl) ?_
              refine lv_iload_n hx hb dX12_piece_59 rfl (lv_at hl 2 rfl) ?_
              refine z_icmp_ge (tgt := 94) hx hb r_i22 r_n dX12_piece_60 (by decide) (fun c31 => ?_) (fun c31 => ?_)
              · skip
                refine lv_aload_n hx hb dX12_piece_94 rfl (lv_at hl 0 rfl) ?_
                refine z_getr (j2 := 17) hx hb hts (z_memU u12) hown hK.1 hS f12_26 (by decide) (zkd_of (rfl : zcd wR 0 = 50) rfl) (zrf_of (rfl : zcd wR 0 = 50) rfl) (Or.inl (hts _ (z_mem k970))) dX12_piece_95 ?_
                refine lv_aload_n hx hb dX12_piece_98 rfl (lv_at hl 0 rfl) ?_
                refine z_geti hx hb hts (z_memU u12) hown hK.1 hS f12_27 (by decide) (zkd_of (rfl : zcd wR 0 = 50) rfl) (Or.inl (hts _ (z_mem k971))) dX12_piece_99 ?_
                refine z_top (show M26 0 27 = 0 from by rw [i28]) ?_
                refine lv_iload_n hx hb dX12_piece_102 rfl (lv_at hl 2 rfl) ?_
                refine z_iast (n := 5) hx hb hK.1 (t0 := 0) rfl hS hS0 (by decide) (zkd_of (rfl : zcd wR 17 = 67) rfl) (zln_of (rfl : zcd wR 17 = 67) rfl) (by decide) (by decide) (by decide) (zbd_in (rfl : zcd wR 17 = 67) rfl ⟨by omega, by omega⟩) (zms_of (rfl : zcd wR 17 = 67) rfl) dX12_piece_103 (fun H locs hS hS0 => ?_)
                obtain ⟨M32, e33⟩ : ∃ M32 : zM, M32 = zup M26 17 ((0 : Int).toNat) n := ⟨_, rfl⟩
                rw [← e33] at hS
                have J34 := hS.2.1
                refine lv_aload_n hx hb dX12_piece_104 rfl (lv_at hl 0 rfl) ?_
                refine lv_dup hx hb dX12_piece_105 rfl ?_
                refine z_geti hx hb hts (z_memU u12) hown hK.1 hS f12_27 (by decide) (zkd_of (rfl : zcd wR 0 = 50) rfl) (Or.inl (hts _ (z_mem k971))) dX12_piece_106 ?_
                refine z_top (show M32 0 27 = 0 from by rw [e33, zup_n _ _ (by omega), i28]) ?_
                refine z_iconst hx hb dX12_piece_109 ?_
                refine z_iadd hx hb dX12_piece_110 ?_
                refine z_top (show ((0 + 1) : Int) = 1 from (by decide)) ?_
                refine z_puti hx hb hts (z_memU u12) tyX12 tyX12_ok nmX12 hown hK.1 hS hS0 f12_27 (by decide) (zkd_of (rfl : zcd wR 0 = 50) rfl) (Or.inl (hts _ (z_mem k971))) rfl (z := 1) (by decide +kernel) (zbd_in (rfl : zcd wR 0 = 50) rfl (by decide)) (zms_of (rfl : zcd wR 0 = 50) rfl) dX12_piece_111 (fun H locs hS hS0 => ?_)
                obtain ⟨M35, e36⟩ : ∃ M35 : zM, M35 = zup M32 0 27 1 := ⟨_, rfl⟩
                rw [← e36] at hS
                have J37 := hS.2.1
                refine lv_aload_n hx hb dX12_piece_114 rfl (lv_at hl 0 rfl) ?_
                refine z_geti hx hb hts (z_memU u12) hown hK.1 hS f12_27 (by decide) (zkd_of (rfl : zcd wR 0 = 50) rfl) (Or.inl (hts _ (z_mem k971))) dX12_piece_115 ?_
                refine z_top (show M35 0 27 = 1 from by rw [e36, zup_s]) ?_
                refine z_iconst hx hb dX12_piece_118 ?_
                refine z_isub hx hb dX12_piece_119 ?_
                refine z_top (show ((1 - 1) : Int) = 0 from (by decide)) ?_
                exact z_iret hx hb hr hlocks hS hS0 (by decide) (Or.inl ⟨by omega, Or.inl ⟨rfl, fun k h0 h1 => i20 k h0 (by omega)⟩⟩) dX12_piece_120
              · skip
                refine lv_aload_n hx hb dX12_piece_63 rfl (lv_at hl 0 rfl) ?_
                refine z_getr (j2 := 16) hx hb hts (z_memU u12) hown hK.1 hS f12_25 (by decide) (zkd_of (rfl : zcd wR 0 = 50) rfl) (zrf_of (rfl : zcd wR 0 = 50) rfl) (Or.inl (hts _ (z_mem k969))) dX12_piece_64 ?_
                refine z_bipush hx hb (by decide) dX12_piece_67 ?_
                refine lv_aload_n hx hb dX12_piece_69 rfl (lv_at hl 0 rfl) ?_
                refine z_geti hx hb hts (z_memU u12) hown hK.1 hS f12_27 (by decide) (zkd_of (rfl : zcd wR 0 = 50) rfl) (Or.inl (hts _ (z_mem k971))) dX12_piece_70 ?_
                refine z_top (show M26 0 27 = 0 from by rw [i28]) ?_
                refine z_imul hx hb dX12_piece_73 ?_
                refine z_top (show ((8 * 0) : Int) = 0 from (by decide)) ?_
                refine lv_iload_n hx hb dX12_piece_74 rfl (lv_at hl 3 rfl) ?_
                refine z_iadd hx hb dX12_piece_75 ?_
                refine lv_iload_n hx hb dX12_piece_76 rfl (lv_at hl 1 rfl) ?_
                refine z_bipush hx hb (by decide) dX12_piece_77 ?_
                refine z_iconst hx hb dX12_piece_79 ?_
                refine lv_iload_n hx hb dX12_piece_80 rfl (lv_at hl 3 rfl) ?_
                refine z_imul hx hb dX12_piece_81 ?_
                refine z_isub hx hb dX12_piece_82 ?_
                refine z_iushr hx hb dX12_piece_83 (fun z38 r39 e40 => ?_)
                refine z_bipush hx hb (by decide) dX12_piece_84 ?_
                refine z_iand hx hb dX12_piece_86 (fun z41 r42 e43 => ?_)
                have q44 : (0 : Int) ≤ z41 ∧ z41 ≤ 15 := zand_r (by decide) (by decide) r42 e43
                refine z_iast (n := 40) hx hb hK.1 (t0 := 0) rfl hS hS0 (by decide) (zkd_of (rfl : zcd wR 16 = 66) rfl) (zln_of (rfl : zcd wR 16 = 66) rfl) (by omega) (by omega) (by decide) (zbd_in (rfl : zcd wR 16 = 66) rfl ⟨by omega, by omega⟩) (zms_of (rfl : zcd wR 16 = 66) rfl) dX12_piece_87 (fun H locs hS hS0 => ?_)
                obtain ⟨M45, e46⟩ : ∃ M45 : zM, M45 = zup M26 16 ((0 + i22).toNat) z41 := ⟨_, rfl⟩
                rw [← e46] at hS
                have J47 := hS.2.1
                refine z_iinc (lv' := [(3, .int (iI (i22 + 1))), (0, .ref (b + 0)), (1, .int (iI v)), (2, .int (iI n))]) hx hb dX12_piece_88 hl (k := 3) rfl (by decide) rfl (fun ls hl => ?_)
                refine lv_goto (tgt := 58) hx hb dX12_piece_91 (by decide) ?_
                exact ih24 (i22 + 1) M45 _ _ _ (by omega) ⟨by omega, by omega⟩ (by omega) (by rw [e46, zup_n _ _ (by omega), i28]) hS hS0 (lv_sub hl [1, 2, 3, 0] rfl)
          exact L25 _ 0 M1 _ _ _ (Nat.le_refl _) (by decide) (by omega) (by rw [e2, zup_n _ _ (by omega), g0]) hS hS0 (lv_sub hl [1, 2, 3, 0] rfl)
        · skip
          refine lv_iload_n hx hb dX12_piece_32 rfl (lv_at hl 1 rfl) ?_
          refine z_bipush hx hb (by decide) dX12_piece_33 ?_
          refine z_iconst hx hb dX12_piece_35 ?_
          refine lv_iload_n hx hb dX12_piece_36 rfl (lv_at hl 3 rfl) ?_
          refine z_imul hx hb dX12_piece_37 ?_
          refine z_isub hx hb dX12_piece_38 ?_
          refine z_iushr hx hb dX12_piece_39 (fun z48 r49 e50 => ?_)
          refine z_bipush hx hb (by decide) dX12_piece_40 ?_
          refine z_iand hx hb dX12_piece_42 (fun z51 r52 e53 => ?_)
          have q54 : (0 : Int) ≤ z51 ∧ z51 ≤ 15 := zand_r (by decide) (by decide) r52 e53
          refine z_bipush hx hb (by decide) dX12_piece_43 ?_
          refine z_icmp_le (tgt := 50) hx hb r52 (by decide) dX12_piece_45 (by decide) (fun c55 => ?_) (fun c55 => ?_)
          · skip
            refine z_iinc (lv' := [(3, .int (iI (i15 + 1))), (0, .ref (b + 0)), (1, .int (iI v)), (2, .int (iI n))]) hx hb dX12_piece_50 hl (k := 3) rfl (by decide) rfl (fun ls hl => ?_)
            refine lv_goto (tgt := 27) hx hb dX12_piece_53 (by decide) ?_
            exact ih17 (i15 + 1) _ _ _ (by omega) ⟨by omega, by omega⟩ (by omega) (fun k h0 h1 => if h9 : k = i15 then by rw [h9]; unfold DIG; rw [← e50, ← e53, iI_t r52]; omega else i20 k h0 (by omega)) hS hS0 (lv_sub hl [1, 2, 3, 0] rfl)
          · skip
            refine z_iconst hx hb dX12_piece_48 ?_
            exact z_iret hx hb hr hlocks hS hS0 (by decide) (Or.inl ⟨by omega, Or.inr ⟨rfl, i15, by omega, by omega, by unfold DIG; rw [← e50, ← e53, iI_t r52]; omega⟩⟩) dX12_piece_49
    exact L18 _ 0 _ _ _ (Nat.le_refl _) (by decide) (by omega) (fun k h0 h1 => absurd h1 (by omega)) hS hS0 (lv_sub hl [1, 2, 3, 0] rfl)
  · skip
    obtain ⟨z8e, h12⟩ := h12
    subst z8e
    refine z_if_eq (tgt := 23) hx hb (by decide) dX12_piece_12 (by decide) (fun c56 => ?_) (fun c56 => absurd c56 (by decide))
    refine z_iconst hx hb dX12_piece_23 ?_
    exact z_iret hx hb hr hlocks hS hS0 (by decide) (Or.inr ⟨by omega, rfl⟩) dX12_piece_24

set_option maxHeartbeats 4000000 in
set_option maxRecDepth 100000 in
theorem m_burn (l : Launch) (D : va_G) (dA : Nat → ClassId) (b : Nat) (M : zM) (g0 : M 0 27 = 0) : Met l yX12_burn (.code yX12_burn cX12_burn 2 (some .int) :: zt) (z_rm 0) (va_Pc [.ref (b + 0)] (zP D dA vwCl (z_tys dA) wR nR b M)) (va_Qi (zQi wR (zms wR [3235, 3227]) M (fun z M1 => z = 0 ∧ True)) (zB D dA vwCl wR nR b) (zA nR b)) 0 0 (zA nR b) := by
  refine Met.ofW (cc := cX12_burn) (maxL := 2) (ret := (some .int)) (by decide) rfl ?_
  intro p e s m args below meth c s₁ B hml hv
  obtain ⟨hargs, hR0, hJ, hK⟩ := hv
  have hx := B.exec
  have hb := B.bytes
  have hr := B.returns
  have hts := atoms_spec (ws := .code yX12_burn cX12_burn 2 (some .int) :: zt) B.pre
  have hown : s.vm.findClass RX12 = some m.cls := findClass_of_methodNamed B.named
  have hlocks := B.notSynchronized
  have hS : zS D dA vwCl wR nR b (zms wR [3235, 3227]) M M s.heap := ⟨hR0, hJ, zF_rf _ _⟩
  have hS0 : va_S (zA nR b) s.heap s.heap [] := va_S.rf
  have hl := lv_entry ([.ref (b + 0)]) (n := 2) (Nat.le_of_ble_eq_true rfl)
  have hent : entryFrame m args 2 = F0 m 0 ((lg_sl ([.ref (b + 0)]) ++ List.replicate (2 - (lg_sl ([.ref (b + 0)])).length) Slot.unset).toArray) [] := by rw [hargs]; exact lg_entry_eq m ([.ref (b + 0)]) 2
  rw [hent]
  generalize (lg_sl ([.ref (b + 0)]) ++ List.replicate (2 - (lg_sl ([.ref (b + 0)])).length) Slot.unset).toArray = ls at hl ⊢
  have hl : lv_has ls 2 [(0, .ref (b + 0))] := hl
  refine lv_aload_n hx hb dX12_burn_0 rfl (lv_at hl 0 rfl) ?_
  refine z_iconst hx hb dX12_burn_1 ?_
  refine z_puti hx hb hts (z_memU u12) tyX12 tyX12_ok nmX12 hown hK.1 hS hS0 f12_35 (by decide) (zkd_of (rfl : zcd wR 0 = 50) rfl) (Or.inl (hts _ (z_mem k979))) rfl (z := 0) (by decide +kernel) (zbd_in (rfl : zcd wR 0 = 50) rfl (by decide)) (zms_of (rfl : zcd wR 0 = 50) rfl) dX12_burn_2 (fun H locs hS hS0 => ?_)
  obtain ⟨M1, e2⟩ : ∃ M1 : zM, M1 = zup M 0 35 0 := ⟨_, rfl⟩
  rw [← e2] at hS
  have J3 := hS.2.1
  refine lv_aload_n hx hb dX12_burn_5 rfl (lv_at hl 0 rfl) ?_
  refine z_geti hx hb hts (z_memU u12) hown hK.1 hS f12_27 (by decide) (zkd_of (rfl : zcd wR 0 = 50) rfl) (Or.inl (hts _ (z_mem k971))) dX12_burn_6 ?_
  refine z_top (show M1 0 27 = 0 from by rw [e2, zup_n _ _ (by omega), g0]) ?_
  refine lv_istore_n (lv' := [(1, .int (iI 0)), (0, .ref (b + 0))]) hx hb dX12_burn_9 rfl hl (by decide) rfl (fun ls hl => ?_)
  refine lv_aload_n hx hb dX12_burn_10 rfl (lv_at hl 1 rfl) ?_
  refine z_iconst hx hb dX12_burn_11 ?_
  refine z_puti hx hb hts (z_memU u12) tyX12 tyX12_ok nmX12 hown hK.1 hS hS0 f12_27 (by decide) (zkd_of (rfl : zcd wR 0 = 50) rfl) (Or.inl (hts _ (z_mem k971))) rfl (z := 0) (by decide +kernel) (zbd_in (rfl : zcd wR 0 = 50) rfl (by decide)) (zms_of (rfl : zcd wR 0 = 50) rfl) dX12_burn_12 (fun H locs hS hS0 => ?_)
  obtain ⟨M4, e5⟩ : ∃ M4 : zM, M4 = zup M1 0 27 0 := ⟨_, rfl⟩
  rw [← e5] at hS
  have J6 := hS.2.1
  refine lv_iload_n hx hb dX12_burn_15 rfl (lv_at hl 0 rfl) ?_
  exact z_iret hx hb hr hlocks hS hS0 (by decide) (by first | exact trivial | exact ⟨rfl, trivial⟩ | omega | (refine ⟨by omega, trivial⟩)) dX12_burn_16

set_option maxHeartbeats 4000000 in
set_option maxRecDepth 100000 in
theorem m_joinFrom (l : Launch) (D : va_G) (dA : Nat → ClassId) (b : Nat) (M : zM) (lv : Int) (us : Int) (sz : Int) (r_lv : R32 lv) (r_us : R32 us) (r_sz : R32 sz) (g0 : M 0 27 = 0) (g1 : M 0 48 = (-1)) (p0 : lv = 0) (p1 : sz = 0) : Met l yX12_joinFrom (.code yX12_joinFrom cX12_joinFrom 10 none :: zt) (z_rm 0) (va_Pc [.ref (b + 0), .int (iI lv), .int (iI us), .int (iI sz)] (zP D dA vwCl (z_tys dA) wR nR b M)) (va_Qv (zQv wR (zms wR [3248]) M (fun M1 => (True) ∧ M1 0 48 = 0)) (zB D dA vwCl wR nR b) (zA nR b)) 0 0 (zA nR b) := by
  refine Met.ofW (cc := cX12_joinFrom) (maxL := 10) (ret := none) (by decide) rfl ?_
  intro p e s m args below meth c s₁ B hml hv
  obtain ⟨hargs, hR0, hJ, hK⟩ := hv
  have hx := B.exec
  have hb := B.bytes
  have hr := B.returns
  have hts := atoms_spec (ws := .code yX12_joinFrom cX12_joinFrom 10 none :: zt) B.pre
  have hown : s.vm.findClass RX12 = some m.cls := findClass_of_methodNamed B.named
  have hlocks := B.notSynchronized
  have hS : zS D dA vwCl wR nR b (zms wR [3248]) M M s.heap := ⟨hR0, hJ, zF_rf _ _⟩
  have hS0 : va_S (zA nR b) s.heap s.heap [] := va_S.rf
  have hl := lv_entry ([.ref (b + 0), .int (iI lv), .int (iI us), .int (iI sz)]) (n := 10) (Nat.le_of_ble_eq_true rfl)
  have hent : entryFrame m args 10 = F0 m 0 ((lg_sl ([.ref (b + 0), .int (iI lv), .int (iI us), .int (iI sz)]) ++ List.replicate (10 - (lg_sl ([.ref (b + 0), .int (iI lv), .int (iI us), .int (iI sz)])).length) Slot.unset).toArray) [] := by rw [hargs]; exact lg_entry_eq m ([.ref (b + 0), .int (iI lv), .int (iI us), .int (iI sz)]) 10
  rw [hent]
  generalize (lg_sl ([.ref (b + 0), .int (iI lv), .int (iI us), .int (iI sz)]) ++ List.replicate (10 - (lg_sl ([.ref (b + 0), .int (iI lv), .int (iI us), .int (iI sz)])).length) Slot.unset).toArray = ls at hl ⊢
  have hl : lv_has ls 10 [(0, .ref (b + 0)), (1, .int (iI lv)), (2, .int (iI us)), (3, .int (iI sz))] := hl
  refine z_bipush hx hb (by decide) dX12_joinFrom_0 ?_
  refine lv_iload_n hx hb dX12_joinFrom_2 rfl (lv_at hl 1 rfl) ?_
  refine z_imul hx hb dX12_joinFrom_3 ?_
  refine lv_istore (lv' := [(4, .int (iI (40 * lv))), (0, .ref (b + 0)), (1, .int (iI lv)), (2, .int (iI us)), (3, .int (iI sz))]) hx hb dX12_joinFrom_4 hl (by decide) rfl (fun ls hl => ?_)
  refine lv_iload_n hx hb dX12_joinFrom_6 rfl (lv_at hl 2 rfl) ?_
  refine lv_aload_n hx hb dX12_joinFrom_7 rfl (lv_at hl 1 rfl) ?_
  refine z_geti hx hb hts (z_memU u12) hown hK.1 hS f12_27 (by decide) (zkd_of (rfl : zcd wR 0 = 50) rfl) (Or.inl (hts _ (z_mem k971))) dX12_joinFrom_8 ?_
  refine z_top (show M 0 27 = 0 from by rw [g0]) ?_
  refine z_icmp_ne (tgt := 156) hx hb r_lv (by decide) dX12_joinFrom_11 (by decide) (fun c1 => absurd c1 (by omega)) (fun c1 => ?_)
  refine lv_aload_n hx hb dX12_joinFrom_14 rfl (lv_at hl 1 rfl) ?_
  refine z_geti hx hb hts (z_memU u12) hown hK.1 hS f12_48 (by decide) (zkd_of (rfl : zcd wR 0 = 50) rfl) (Or.inl (hts _ (z_mem k992))) dX12_joinFrom_15 ?_
  refine z_top (show M 0 48 = (-1) from by rw [g1]) ?_
  refine z_iconst hx hb dX12_joinFrom_18 ?_
  refine z_icmp_eq (tgt := 30) hx hb (by decide) (by decide) dX12_joinFrom_19 (by decide) (fun c2 => ?_) (fun c2 => absurd c2 (by decide))
  refine z_iconst hx hb dX12_joinFrom_30 ?_
  refine lv_goto (tgt := 35) hx hb dX12_joinFrom_31 (by decide) ?_
  refine lv_istore (lv' := [(5, .int (iI 1)), (4, .int (iI (40 * lv))), (0, .ref (b + 0)), (1, .int (iI lv)), (2, .int (iI us)), (3, .int (iI sz))]) hx hb dX12_joinFrom_35 hl (by decide) rfl (fun ls hl => ?_)
  refine z_iconst hx hb dX12_joinFrom_37 ?_
  refine lv_istore (lv' := [(6, .int (iI 0)), (5, .int (iI 1)), (4, .int (iI (40 * lv))), (0, .ref (b + 0)), (1, .int (iI lv)), (2, .int (iI us)), (3, .int (iI sz))]) hx hb dX12_joinFrom_38 hl (by decide) rfl (fun ls hl => ?_)
  refine lv_iload hx hb dX12_joinFrom_40 (lv_at hl 0 rfl) ?_
  refine lv_iload_n hx hb dX12_joinFrom_42 rfl (lv_at hl 6 rfl) ?_
  refine z_icmp_ge (tgt := 112) hx hb (by decide) r_sz dX12_joinFrom_43 (by decide) (fun c3 => ?_) (fun c3 => absurd c3 (by omega))
  refine lv_iload hx hb dX12_joinFrom_112 (lv_at hl 1 rfl) ?_
  refine z_if_ne (tgt := 118) hx hb (by decide) dX12_joinFrom_114 (by decide) (fun c4 => ?_) (fun c4 => absurd c4 (by decide))
  refine lv_aload_n hx hb dX12_joinFrom_118 rfl (lv_at hl 3 rfl) ?_
  refine lv_iload_n hx hb dX12_joinFrom_119 rfl (lv_at hl 6 rfl) ?_
  refine z_puti hx hb hts (z_memU u12) tyX12 tyX12_ok nmX12 hown hK.1 hS hS0 f12_48 (by decide) (zkd_of (rfl : zcd wR 0 = 50) rfl) (Or.inl (hts _ (z_mem k992))) rfl (z := sz) (by decide +kernel) (zbd_in (rfl : zcd wR 0 = 50) rfl r_sz) (zms_of (rfl : zcd wR 0 = 50) rfl) dX12_joinFrom_120 (fun H locs hS hS0 => ?_)
  obtain ⟨M5, e6⟩ : ∃ M5 : zM, M5 = zup M 0 48 sz := ⟨_, rfl⟩
  rw [← e6] at hS
  have J7 := hS.2.1
  refine z_iconst hx hb dX12_joinFrom_123 ?_
  refine lv_istore (lv' := [(6, .int (iI 0)), (5, .int (iI 1)), (4, .int (iI (40 * lv))), (0, .ref (b + 0)), (1, .int (iI lv)), (2, .int (iI us)), (3, .int (iI sz))]) hx hb dX12_joinFrom_124 hl (by decide) rfl (fun ls hl => ?_)
  refine lv_iload hx hb dX12_joinFrom_126 (lv_at hl 0 rfl) ?_
  refine lv_iload_n hx hb dX12_joinFrom_128 rfl (lv_at hl 6 rfl) ?_
  refine z_icmp_ge (tgt := 155) hx hb (by decide) r_sz dX12_joinFrom_129 (by decide) (fun c8 => ?_) (fun c8 => absurd c8 (by omega))
  exact z_vret hx hb hr hlocks hS hS0 (⟨by first | exact trivial | exact ⟨rfl, trivial⟩ | omega | (refine ⟨by omega, trivial⟩), by rw [e6, zup_s] <;> omega⟩) dX12_joinFrom_155

set_option maxHeartbeats 4000000 in
set_option maxRecDepth 100000 in
theorem m_join (l : Launch) (D : va_G) (dA : Nat → ClassId) (b : Nat) (M : zM) (g0 : M 0 27 = 0) : Met l yX12_join (.code yX12_join cX12_join 2 (some .int) :: zt) (z_rm 1) (va_Pc [.ref (b + 0)] (zP D dA vwCl (z_tys dA) wR nR b M)) (va_Qi (zQi wR (zms wR [3235, 3248, 3234]) M (fun z M1 => z = 0 ∧ True)) (zB D dA vwCl wR nR b) (zA nR b)) 0 0 (zA nR b) := by
  refine Met.ofW (cc := cX12_join) (maxL := 2) (ret := (some .int)) (by decide) rfl ?_
  intro p e s m args below meth c s₁ B hml hv
  obtain ⟨hargs, hR0, hJ, hK⟩ := hv
  have hx := B.exec
  have hb := B.bytes
  have hr := B.returns
  have hts := atoms_spec (ws := .code yX12_join cX12_join 2 (some .int) :: zt) B.pre
  have hown : s.vm.findClass RX12 = some m.cls := findClass_of_methodNamed B.named
  have hlocks := B.notSynchronized
  have hS : zS D dA vwCl wR nR b (zms wR [3235, 3248, 3234]) M M s.heap := ⟨hR0, hJ, zF_rf _ _⟩
  have hS0 : va_S (zA nR b) s.heap s.heap [] := va_S.rf
  have hl := lv_entry ([.ref (b + 0)]) (n := 2) (Nat.le_of_ble_eq_true rfl)
  have hent : entryFrame m args 2 = F0 m 0 ((lg_sl ([.ref (b + 0)]) ++ List.replicate (2 - (lg_sl ([.ref (b + 0)])).length) Slot.unset).toArray) [] := by rw [hargs]; exact lg_entry_eq m ([.ref (b + 0)]) 2
  rw [hent]
  generalize (lg_sl ([.ref (b + 0)]) ++ List.replicate (2 - (lg_sl ([.ref (b + 0)])).length) Slot.unset).toArray = ls at hl ⊢
  have hl : lv_has ls 2 [(0, .ref (b + 0))] := hl
  refine lv_aload_n hx hb dX12_join_0 rfl (lv_at hl 0 rfl) ?_
  refine z_iconst hx hb dX12_join_1 ?_
  refine z_puti hx hb hts (z_memU u12) tyX12 tyX12_ok nmX12 hown hK.1 hS hS0 f12_35 (by decide) (zkd_of (rfl : zcd wR 0 = 50) rfl) (Or.inl (hts _ (z_mem k979))) rfl (z := 0) (by decide +kernel) (zbd_in (rfl : zcd wR 0 = 50) rfl (by decide)) (zms_of (rfl : zcd wR 0 = 50) rfl) dX12_join_2 (fun H locs hS hS0 => ?_)
  obtain ⟨M1, e2⟩ : ∃ M1 : zM, M1 = zup M 0 35 0 := ⟨_, rfl⟩
  rw [← e2] at hS
  have J3 := hS.2.1
  refine lv_aload_n hx hb dX12_join_5 rfl (lv_at hl 0 rfl) ?_
  refine z_iconst hx hb dX12_join_6 ?_
  refine z_puti hx hb hts (z_memU u12) tyX12 tyX12_ok nmX12 hown hK.1 hS hS0 f12_48 (by decide) (zkd_of (rfl : zcd wR 0 = 50) rfl) (Or.inl (hts _ (z_mem k992))) rfl (z := (-1)) (by decide +kernel) (zbd_in (rfl : zcd wR 0 = 50) rfl (by decide)) (zms_of (rfl : zcd wR 0 = 50) rfl) dX12_join_7 (fun H locs hS hS0 => ?_)
  obtain ⟨M4, e5⟩ : ∃ M4 : zM, M4 = zup M1 0 48 (-1) := ⟨_, rfl⟩
  rw [← e5] at hS
  have J6 := hS.2.1
  refine lv_aload_n hx hb dX12_join_10 rfl (lv_at hl 0 rfl) ?_
  refine z_iconst hx hb dX12_join_11 ?_
  refine z_iconst hx hb dX12_join_12 ?_
  refine z_iconst hx hb dX12_join_13 ?_
  refine z_callv (va_runV (As := [.int (iI 0), .int (iI 0), .int (iI 0)]) (rest := []) ⟨hx, hb, hml, hown, hts⟩ (m_joinFrom l D dA b M4 0 0 0 (by decide) (by decide) (by decide) (by rw [e5, zup_n _ _ (by omega), e2, zup_n _ _ (by omega), g0]) (by rw [e5, zup_s]) (by omega) (by omega)) (cwV 3 hts (z_gV k1320 k1321 k1424 k14 k1322) rfl rfl rfl dm_X12_joinFrom ⟨Nat.le_of_ble_eq_true rfl, Nat.le_of_ble_eq_true rfl⟩) ⟨zP_blind, (z_recv hS hK.1 (by decide) (zkd_of (rfl : zcd wR 0 = 50) rfl) (by decide) (rfl : vwCl[12]? = some (RX12, TX12, 50))), z_pre hS hK⟩ rfl rfl hl.1 rfl (lv_room (Nat.le_of_ble_eq_true rfl)) dX12_join_14 ⟨Nat.le_refl _, Nat.le_refl _⟩) hS hS0 (zms_sub rfl) (fun M7 H locs h8 F9 hS hS0 => ?_)
  have J10 := hS.2.1
  obtain ⟨h8, m11⟩ := h8
  refine lv_aload_n hx hb dX12_join_17 rfl (lv_at hl 0 rfl) ?_
  refine lv_aload_n hx hb dX12_join_18 rfl (lv_at hl 0 rfl) ?_
  refine z_geti hx hb hts (z_memU u12) hown hK.1 hS f12_48 (by decide) (zkd_of (rfl : zcd wR 0 = 50) rfl) (Or.inl (hts _ (z_mem k992))) dX12_join_19 ?_
  refine z_top (show M7 0 48 = 0 from by rw [m11]) ?_
  refine z_puti hx hb hts (z_memU u12) tyX12 tyX12_ok nmX12 hown hK.1 hS hS0 f12_34 (by decide) (zkd_of (rfl : zcd wR 0 = 50) rfl) (Or.inl (hts _ (z_mem k978))) rfl (z := 0) (by decide +kernel) (zbd_in (rfl : zcd wR 0 = 50) rfl (by decide)) (zms_of (rfl : zcd wR 0 = 50) rfl) dX12_join_22 (fun H locs hS hS0 => ?_)
  obtain ⟨M12, e13⟩ : ∃ M12 : zM, M12 = zup M7 0 34 0 := ⟨_, rfl⟩
  rw [← e13] at hS
  have J14 := hS.2.1
  refine z_iconst hx hb dX12_join_25 ?_
  refine lv_istore_n (lv' := [(1, .int (iI 0)), (0, .ref (b + 0))]) hx hb dX12_join_26 rfl hl (by decide) rfl (fun ls hl => ?_)
  refine lv_iload_n hx hb dX12_join_27 rfl (lv_at hl 0 rfl) ?_
  refine lv_aload_n hx hb dX12_join_28 rfl (lv_at hl 1 rfl) ?_
  refine z_geti hx hb hts (z_memU u12) hown hK.1 hS f12_34 (by decide) (zkd_of (rfl : zcd wR 0 = 50) rfl) (Or.inl (hts _ (z_mem k978))) dX12_join_29 ?_
  refine z_top (show M12 0 34 = 0 from by rw [e13, zup_s]) ?_
  refine z_icmp_ge (tgt := 53) hx hb (by decide) (by decide) dX12_join_32 (by decide) (fun c15 => ?_) (fun c15 => absurd c15 (by decide))
  refine lv_aload_n hx hb dX12_join_53 rfl (lv_at hl 1 rfl) ?_
  refine z_geti hx hb hts (z_memU u12) hown hK.1 hS f12_48 (by decide) (zkd_of (rfl : zcd wR 0 = 50) rfl) (Or.inl (hts _ (z_mem k992))) dX12_join_54 ?_
  refine z_top (show M12 0 48 = 0 from by rw [e13, zup_n _ _ (by omega), m11]) ?_
  exact z_iret hx hb hr hlocks hS hS0 (by decide) (by first | exact trivial | exact ⟨rfl, trivial⟩ | omega | (refine ⟨by omega, trivial⟩)) dX12_join_57

set_option maxHeartbeats 4000000 in
set_option maxRecDepth 100000 in
theorem m_keep (l : Launch) (D : va_G) (dA : Nat → ClassId) (b : Nat) (M : zM) (rg : Int) (dy : Int) (r_rg : R32 rg) (r_dy : R32 dy) (g0 : M 0 10 = 0) : Met l yX12_keep (.code yX12_keep cX12_keep 4 (some .int) :: zt) (z_rm 2) (va_Pc [.ref (b + 0), .int (iI rg), .int (iI dy)] (zP D dA vwCl (z_tys dA) wR nR b M)) (va_Qi (zQi wR (zms wR [3235]) M (fun z M1 => z = -1 ∧ True)) (zB D dA vwCl wR nR b) (zA nR b)) 0 0 (zA nR b) := by
  refine Met.ofW (cc := cX12_keep) (maxL := 4) (ret := (some .int)) (by decide) rfl ?_
  intro p e s m args below meth c s₁ B hml hv
  obtain ⟨hargs, hR0, hJ, hK⟩ := hv
  have hx := B.exec
  have hb := B.bytes
  have hr := B.returns
  have hts := atoms_spec (ws := .code yX12_keep cX12_keep 4 (some .int) :: zt) B.pre
  have hown : s.vm.findClass RX12 = some m.cls := findClass_of_methodNamed B.named
  have hlocks := B.notSynchronized
  have hS : zS D dA vwCl wR nR b (zms wR [3235]) M M s.heap := ⟨hR0, hJ, zF_rf _ _⟩
  have hS0 : va_S (zA nR b) s.heap s.heap [] := va_S.rf
  have hl := lv_entry ([.ref (b + 0), .int (iI rg), .int (iI dy)]) (n := 4) (Nat.le_of_ble_eq_true rfl)
  have hent : entryFrame m args 4 = F0 m 0 ((lg_sl ([.ref (b + 0), .int (iI rg), .int (iI dy)]) ++ List.replicate (4 - (lg_sl ([.ref (b + 0), .int (iI rg), .int (iI dy)])).length) Slot.unset).toArray) [] := by rw [hargs]; exact lg_entry_eq m ([.ref (b + 0), .int (iI rg), .int (iI dy)]) 4
  rw [hent]
  generalize (lg_sl ([.ref (b + 0), .int (iI rg), .int (iI dy)]) ++ List.replicate (4 - (lg_sl ([.ref (b + 0), .int (iI rg), .int (iI dy)])).length) Slot.unset).toArray = ls at hl ⊢
  have hl : lv_has ls 4 [(0, .ref (b + 0)), (1, .int (iI rg)), (2, .int (iI dy))] := hl
  refine lv_aload_n hx hb dX12_keep_0 rfl (lv_at hl 0 rfl) ?_
  refine z_iconst hx hb dX12_keep_1 ?_
  refine z_puti hx hb hts (z_memU u12) tyX12 tyX12_ok nmX12 hown hK.1 hS hS0 f12_35 (by decide) (zkd_of (rfl : zcd wR 0 = 50) rfl) (Or.inl (hts _ (z_mem k979))) rfl (z := 0) (by decide +kernel) (zbd_in (rfl : zcd wR 0 = 50) rfl (by decide)) (zms_of (rfl : zcd wR 0 = 50) rfl) dX12_keep_2 (fun H locs hS hS0 => ?_)
  obtain ⟨M1, e2⟩ : ∃ M1 : zM, M1 = zup M 0 35 0 := ⟨_, rfl⟩
  rw [← e2] at hS
  have J3 := hS.2.1
  refine lv_aload_n hx hb dX12_keep_5 rfl (lv_at hl 0 rfl) ?_
  refine lv_iload_n hx hb dX12_keep_6 rfl (lv_at hl 1 rfl) ?_
  refine z_calli (va_runV (As := [.int (iI rg)]) (rest := []) ⟨hx, hb, hml, hown, hts⟩ (m_isRing l D dA b M1 rg r_rg (by rw [e2, zup_n _ _ (by omega), g0])) (cwV 1 hts (z_gV k1101 k1102 k1401 k14 k1103) rfl rfl rfl dm_X12_isRing ⟨Nat.le_of_ble_eq_true rfl, Nat.le_of_ble_eq_true rfl⟩) ⟨zP_blind, (z_recv hS hK.1 (by decide) (zkd_of (rfl : zcd wR 0 = 50) rfl) (by decide) (rfl : vwCl[12]? = some (RX12, TX12, 50))), z_pre hS hK⟩ rfl rfl hl.1 rfl (lv_room (Nat.le_of_ble_eq_true rfl)) dX12_keep_7 ⟨Nat.le_refl _, Nat.le_refl _⟩) hS hS0 (zms_sub rfl) (fun z8 M4 H locs r9 h5 F6 hS hS0 => ?_)
  obtain ⟨h10, h5⟩ := h5
  rw [h10] at hS
  have h11 := h5
  obtain ⟨z8e, h11⟩ := h11
  subst z8e
  refine z_if_eq (tgt := 55) hx hb (by decide) dX12_keep_10 (by decide) (fun c12 => ?_) (fun c12 => absurd c12 (by decide))
  refine z_iconst hx hb dX12_keep_55 ?_
  exact z_iret hx hb hr hlocks hS hS0 (by decide) (by first | exact trivial | exact ⟨rfl, trivial⟩ | omega | (refine ⟨by omega, trivial⟩)) dX12_keep_56

set_option maxHeartbeats 4000000 in
set_option maxRecDepth 100000 in
theorem m_known (l : Launch) (D : va_G) (dA : Nat → ClassId) (b : Nat) (M : zM) (rg : Int) (dy : Int) (r_rg : R32 rg) (r_dy : R32 dy) (g0 : M 0 32 = 0) : Met l yX12_known (.code yX12_known cX12_known 4 (some .int) :: zt) (z_rm 0) (va_Pc [.ref (b + 0), .int (iI rg), .int (iI dy)] (zP D dA vwCl (z_tys dA) wR nR b M)) (va_Qi (zQi wR (zms wR [3235]) M (fun z M1 => z = -1 ∧ True)) (zB D dA vwCl wR nR b) (zA nR b)) 0 0 (zA nR b) := by
  refine Met.ofW (cc := cX12_known) (maxL := 4) (ret := (some .int)) (by decide) rfl ?_
  intro p e s m args below meth c s₁ B hml hv
  obtain ⟨hargs, hR0, hJ, hK⟩ := hv
  have hx := B.exec
  have hb := B.bytes
  have hr := B.returns
  have hts := atoms_spec (ws := .code yX12_known cX12_known 4 (some .int) :: zt) B.pre
  have hown : s.vm.findClass RX12 = some m.cls := findClass_of_methodNamed B.named
  have hlocks := B.notSynchronized
  have hS : zS D dA vwCl wR nR b (zms wR [3235]) M M s.heap := ⟨hR0, hJ, zF_rf _ _⟩
  have hS0 : va_S (zA nR b) s.heap s.heap [] := va_S.rf
  have hl := lv_entry ([.ref (b + 0), .int (iI rg), .int (iI dy)]) (n := 4) (Nat.le_of_ble_eq_true rfl)
  have hent : entryFrame m args 4 = F0 m 0 ((lg_sl ([.ref (b + 0), .int (iI rg), .int (iI dy)]) ++ List.replicate (4 - (lg_sl ([.ref (b + 0), .int (iI rg), .int (iI dy)])).length) Slot.unset).toArray) [] := by rw [hargs]; exact lg_entry_eq m ([.ref (b + 0), .int (iI rg), .int (iI dy)]) 4
  rw [hent]
  generalize (lg_sl ([.ref (b + 0), .int (iI rg), .int (iI dy)]) ++ List.replicate (4 - (lg_sl ([.ref (b + 0), .int (iI rg), .int (iI dy)])).length) Slot.unset).toArray = ls at hl ⊢
  have hl : lv_has ls 4 [(0, .ref (b + 0)), (1, .int (iI rg)), (2, .int (iI dy))] := hl
  refine lv_aload_n hx hb dX12_known_0 rfl (lv_at hl 0 rfl) ?_
  refine z_iconst hx hb dX12_known_1 ?_
  refine z_puti hx hb hts (z_memU u12) tyX12 tyX12_ok nmX12 hown hK.1 hS hS0 f12_35 (by decide) (zkd_of (rfl : zcd wR 0 = 50) rfl) (Or.inl (hts _ (z_mem k979))) rfl (z := 0) (by decide +kernel) (zbd_in (rfl : zcd wR 0 = 50) rfl (by decide)) (zms_of (rfl : zcd wR 0 = 50) rfl) dX12_known_2 (fun H locs hS hS0 => ?_)
  obtain ⟨M1, e2⟩ : ∃ M1 : zM, M1 = zup M 0 35 0 := ⟨_, rfl⟩
  rw [← e2] at hS
  have J3 := hS.2.1
  refine lv_aload_n hx hb dX12_known_5 rfl (lv_at hl 0 rfl) ?_
  refine z_geti hx hb hts (z_memU u12) hown hK.1 hS f12_32 (by decide) (zkd_of (rfl : zcd wR 0 = 50) rfl) (Or.inl (hts _ (z_mem k976))) dX12_known_6 ?_
  refine z_top (show M1 0 32 = 0 from by rw [e2, zup_n _ _ (by omega), g0]) ?_
  refine z_iconst hx hb dX12_known_9 ?_
  refine z_isub hx hb dX12_known_10 ?_
  refine z_top (show ((0 - 1) : Int) = (-1) from (by decide)) ?_
  refine lv_istore_n (lv' := [(3, .int (iI (-1))), (0, .ref (b + 0)), (1, .int (iI rg)), (2, .int (iI dy))]) hx hb dX12_known_11 rfl hl (by decide) rfl (fun ls hl => ?_)
  refine lv_iload_n hx hb dX12_known_12 rfl (lv_at hl 0 rfl) ?_
  refine z_if_lt (tgt := 44) hx hb (by decide) dX12_known_13 (by decide) (fun c4 => ?_) (fun c4 => absurd c4 (by decide))
  refine z_iconst hx hb dX12_known_44 ?_
  exact z_iret hx hb hr hlocks hS hS0 (by decide) (by first | exact trivial | exact ⟨rfl, trivial⟩ | omega | (refine ⟨by omega, trivial⟩)) dX12_known_45

set_option maxHeartbeats 4000000 in
set_option maxRecDepth 100000 in
theorem m_fetch (l : Launch) (D : va_G) (dA : Nat → ClassId) (b : Nat) (M : zM) (v : Int) (r_v : R32 v) (g0 : M 0 32 = 0) : Met l yX12_fetch (.code yX12_fetch cX12_fetch 3 (some .int) :: zt) (z_rm 1) (va_Pc [.ref (b + 0), .int (iI v)] (zP D dA vwCl (z_tys dA) wR nR b M)) (va_Qi (zQi wR (zms wR [3235]) M (fun z M1 => z = -1 ∧ True)) (zB D dA vwCl wR nR b) (zA nR b)) 0 0 (zA nR b) := by
  refine Met.ofW (cc := cX12_fetch) (maxL := 3) (ret := (some .int)) (by decide) rfl ?_
  intro p e s m args below meth c s₁ B hml hv
  obtain ⟨hargs, hR0, hJ, hK⟩ := hv
  have hx := B.exec
  have hb := B.bytes
  have hr := B.returns
  have hts := atoms_spec (ws := .code yX12_fetch cX12_fetch 3 (some .int) :: zt) B.pre
  have hown : s.vm.findClass RX12 = some m.cls := findClass_of_methodNamed B.named
  have hlocks := B.notSynchronized
  have hS : zS D dA vwCl wR nR b (zms wR [3235]) M M s.heap := ⟨hR0, hJ, zF_rf _ _⟩
  have hS0 : va_S (zA nR b) s.heap s.heap [] := va_S.rf
  have hl := lv_entry ([.ref (b + 0), .int (iI v)]) (n := 3) (Nat.le_of_ble_eq_true rfl)
  have hent : entryFrame m args 3 = F0 m 0 ((lg_sl ([.ref (b + 0), .int (iI v)]) ++ List.replicate (3 - (lg_sl ([.ref (b + 0), .int (iI v)])).length) Slot.unset).toArray) [] := by rw [hargs]; exact lg_entry_eq m ([.ref (b + 0), .int (iI v)]) 3
  rw [hent]
  generalize (lg_sl ([.ref (b + 0), .int (iI v)]) ++ List.replicate (3 - (lg_sl ([.ref (b + 0), .int (iI v)])).length) Slot.unset).toArray = ls at hl ⊢
  have hl : lv_has ls 3 [(0, .ref (b + 0)), (1, .int (iI v))] := hl
  refine lv_aload_n hx hb dX12_fetch_0 rfl (lv_at hl 0 rfl) ?_
  refine z_iconst hx hb dX12_fetch_1 ?_
  refine z_puti hx hb hts (z_memU u12) tyX12 tyX12_ok nmX12 hown hK.1 hS hS0 f12_35 (by decide) (zkd_of (rfl : zcd wR 0 = 50) rfl) (Or.inl (hts _ (z_mem k979))) rfl (z := 0) (by decide +kernel) (zbd_in (rfl : zcd wR 0 = 50) rfl (by decide)) (zms_of (rfl : zcd wR 0 = 50) rfl) dX12_fetch_2 (fun H locs hS hS0 => ?_)
  obtain ⟨M1, e2⟩ : ∃ M1 : zM, M1 = zup M 0 35 0 := ⟨_, rfl⟩
  rw [← e2] at hS
  have J3 := hS.2.1
  refine lv_iload_n hx hb dX12_fetch_5 rfl (lv_at hl 1 rfl) ?_
  refine z_iconst hx hb dX12_fetch_6 ?_
  refine lv_aload_n hx hb dX12_fetch_7 rfl (lv_at hl 0 rfl) ?_
  refine z_geti hx hb hts (z_memU u12) hown hK.1 hS f12_32 (by decide) (zkd_of (rfl : zcd wR 0 = 50) rfl) (Or.inl (hts _ (z_mem k976))) dX12_fetch_8 ?_
  refine z_top (show M1 0 32 = 0 from by rw [e2, zup_n _ _ (by omega), g0]) ?_
  refine z_iconst hx hb dX12_fetch_11 ?_
  refine z_isub hx hb dX12_fetch_12 ?_
  refine z_top (show ((0 - 1) : Int) = (-1) from (by decide)) ?_
  refine z_calli (va_runS (As := [.int (iI v), .int (iI 0), .int (iI (-1))]) (rest := []) ⟨hx, hb, hml, hown, hts⟩ (m_in l D dA b M1 v 0 (-1) r_v (by decide) (by decide)) (va_cwS 3 hts (z_gS k1087 k1088 k14 k1089) rfl rfl rfl dm_X12_in.2 ⟨Nat.le_of_ble_eq_true rfl, Nat.le_of_ble_eq_true rfl⟩) ⟨zP_blind, z_pre hS hK⟩ rfl rfl hl.1 rfl (lv_room (Nat.le_of_ble_eq_true rfl)) dX12_fetch_13 ⟨Nat.le_refl _, Nat.le_refl _⟩) hS hS0 (zms_sub rfl) (fun z8 M4 H locs r9 h5 F6 hS hS0 => ?_)
  obtain ⟨h10, h5⟩ := h5
  rw [h10] at hS
  rcases h5 with h11 | h12
  · skip
    exfalso
    omega
  · skip
    obtain ⟨z8e, h12⟩ := h12
    subst z8e
    refine z_if_ne (tgt := 21) hx hb (by decide) dX12_fetch_16 (by decide) (fun c13 => absurd c13 (by decide)) (fun c13 => ?_)
    refine z_iconst hx hb dX12_fetch_19 ?_
    exact z_iret hx hb hr hlocks hS hS0 (by decide) (by first | exact trivial | exact ⟨rfl, trivial⟩ | omega | (refine ⟨by omega, trivial⟩)) dX12_fetch_20

set_option maxHeartbeats 4000000 in
set_option maxRecDepth 100000 in
theorem m_edits (l : Launch) (D : va_G) (dA : Nat → ClassId) (b : Nat) (M : zM) (v : Int) (u : Int) (r_v : R32 v) (r_u : R32 u) (g0 : M 0 32 = 0) : Met l yX12_edits (.code yX12_edits cX12_edits 5 (some .int) :: zt) (z_rm 1) (va_Pc [.ref (b + 0), .int (iI v), .int (iI u)] (zP D dA vwCl (z_tys dA) wR nR b M)) (va_Qi (zQi wR (zms wR [3235]) M (fun z M1 => z = -1 ∧ True)) (zB D dA vwCl wR nR b) (zA nR b)) 0 0 (zA nR b) := by
  refine Met.ofW (cc := cX12_edits) (maxL := 5) (ret := (some .int)) (by decide) rfl ?_
  intro p e s m args below meth c s₁ B hml hv
  obtain ⟨hargs, hR0, hJ, hK⟩ := hv
  have hx := B.exec
  have hb := B.bytes
  have hr := B.returns
  have hts := atoms_spec (ws := .code yX12_edits cX12_edits 5 (some .int) :: zt) B.pre
  have hown : s.vm.findClass RX12 = some m.cls := findClass_of_methodNamed B.named
  have hlocks := B.notSynchronized
  have hS : zS D dA vwCl wR nR b (zms wR [3235]) M M s.heap := ⟨hR0, hJ, zF_rf _ _⟩
  have hS0 : va_S (zA nR b) s.heap s.heap [] := va_S.rf
  have hl := lv_entry ([.ref (b + 0), .int (iI v), .int (iI u)]) (n := 5) (Nat.le_of_ble_eq_true rfl)
  have hent : entryFrame m args 5 = F0 m 0 ((lg_sl ([.ref (b + 0), .int (iI v), .int (iI u)]) ++ List.replicate (5 - (lg_sl ([.ref (b + 0), .int (iI v), .int (iI u)])).length) Slot.unset).toArray) [] := by rw [hargs]; exact lg_entry_eq m ([.ref (b + 0), .int (iI v), .int (iI u)]) 5
  rw [hent]
  generalize (lg_sl ([.ref (b + 0), .int (iI v), .int (iI u)]) ++ List.replicate (5 - (lg_sl ([.ref (b + 0), .int (iI v), .int (iI u)])).length) Slot.unset).toArray = ls at hl ⊢
  have hl : lv_has ls 5 [(0, .ref (b + 0)), (1, .int (iI v)), (2, .int (iI u))] := hl
  refine lv_aload_n hx hb dX12_edits_0 rfl (lv_at hl 0 rfl) ?_
  refine z_iconst hx hb dX12_edits_1 ?_
  refine z_puti hx hb hts (z_memU u12) tyX12 tyX12_ok nmX12 hown hK.1 hS hS0 f12_35 (by decide) (zkd_of (rfl : zcd wR 0 = 50) rfl) (Or.inl (hts _ (z_mem k979))) rfl (z := 0) (by decide +kernel) (zbd_in (rfl : zcd wR 0 = 50) rfl (by decide)) (zms_of (rfl : zcd wR 0 = 50) rfl) dX12_edits_2 (fun H locs hS hS0 => ?_)
  obtain ⟨M1, e2⟩ : ∃ M1 : zM, M1 = zup M 0 35 0 := ⟨_, rfl⟩
  rw [← e2] at hS
  have J3 := hS.2.1
  refine lv_iload_n hx hb dX12_edits_5 rfl (lv_at hl 1 rfl) ?_
  refine z_iconst hx hb dX12_edits_6 ?_
  refine lv_aload_n hx hb dX12_edits_7 rfl (lv_at hl 0 rfl) ?_
  refine z_geti hx hb hts (z_memU u12) hown hK.1 hS f12_32 (by decide) (zkd_of (rfl : zcd wR 0 = 50) rfl) (Or.inl (hts _ (z_mem k976))) dX12_edits_8 ?_
  refine z_top (show M1 0 32 = 0 from by rw [e2, zup_n _ _ (by omega), g0]) ?_
  refine z_iconst hx hb dX12_edits_11 ?_
  refine z_isub hx hb dX12_edits_12 ?_
  refine z_top (show ((0 - 1) : Int) = (-1) from (by decide)) ?_
  refine z_calli (va_runS (As := [.int (iI v), .int (iI 0), .int (iI (-1))]) (rest := []) ⟨hx, hb, hml, hown, hts⟩ (m_in l D dA b M1 v 0 (-1) r_v (by decide) (by decide)) (va_cwS 3 hts (z_gS k1087 k1088 k14 k1089) rfl rfl rfl dm_X12_in.2 ⟨Nat.le_of_ble_eq_true rfl, Nat.le_of_ble_eq_true rfl⟩) ⟨zP_blind, z_pre hS hK⟩ rfl rfl hl.1 rfl (lv_room (Nat.le_of_ble_eq_true rfl)) dX12_edits_13 ⟨Nat.le_refl _, Nat.le_refl _⟩) hS hS0 (zms_sub rfl) (fun z8 M4 H locs r9 h5 F6 hS hS0 => ?_)
  obtain ⟨h10, h5⟩ := h5
  rw [h10] at hS
  rcases h5 with h11 | h12
  · skip
    exfalso
    omega
  · skip
    obtain ⟨z8e, h12⟩ := h12
    subst z8e
    refine z_if_eq (tgt := 33) hx hb (by decide) dX12_edits_16 (by decide) (fun c13 => ?_) (fun c13 => absurd c13 (by decide))
    refine z_iconst hx hb dX12_edits_33 ?_
    exact z_iret hx hb hr hlocks hS hS0 (by decide) (by first | exact trivial | exact ⟨rfl, trivial⟩ | omega | (refine ⟨by omega, trivial⟩)) dX12_edits_34

set_option maxHeartbeats 4000000 in
set_option maxRecDepth 100000 in
theorem m_row (l : Launch) (D : va_G) (dA : Nat → ClassId) (b : Nat) (M : zM) (i : Int) (r_i : R32 i) (g0 : M 0 34 = 0) : Met l yX12_row (.code yX12_row cX12_row 2 (some .int) :: zt) (z_rm 1) (va_Pc [.ref (b + 0), .int (iI i)] (zP D dA vwCl (z_tys dA) wR nR b M)) (va_Qi (zQi wR (zms wR [3235]) M (fun z M1 => (z = 0 ∧ True) ∧ M1 0 35 = 1)) (zB D dA vwCl wR nR b) (zA nR b)) 0 0 (zA nR b) := by
  refine Met.ofW (cc := cX12_row) (maxL := 2) (ret := (some .int)) (by decide) rfl ?_
  intro p e s m args below meth c s₁ B hml hv
  obtain ⟨hargs, hR0, hJ, hK⟩ := hv
  have hx := B.exec
  have hb := B.bytes
  have hr := B.returns
  have hts := atoms_spec (ws := .code yX12_row cX12_row 2 (some .int) :: zt) B.pre
  have hown : s.vm.findClass RX12 = some m.cls := findClass_of_methodNamed B.named
  have hlocks := B.notSynchronized
  have hS : zS D dA vwCl wR nR b (zms wR [3235]) M M s.heap := ⟨hR0, hJ, zF_rf _ _⟩
  have hS0 : va_S (zA nR b) s.heap s.heap [] := va_S.rf
  have hl := lv_entry ([.ref (b + 0), .int (iI i)]) (n := 2) (Nat.le_of_ble_eq_true rfl)
  have hent : entryFrame m args 2 = F0 m 0 ((lg_sl ([.ref (b + 0), .int (iI i)]) ++ List.replicate (2 - (lg_sl ([.ref (b + 0), .int (iI i)])).length) Slot.unset).toArray) [] := by rw [hargs]; exact lg_entry_eq m ([.ref (b + 0), .int (iI i)]) 2
  rw [hent]
  generalize (lg_sl ([.ref (b + 0), .int (iI i)]) ++ List.replicate (2 - (lg_sl ([.ref (b + 0), .int (iI i)])).length) Slot.unset).toArray = ls at hl ⊢
  have hl : lv_has ls 2 [(0, .ref (b + 0)), (1, .int (iI i))] := hl
  refine lv_aload_n hx hb dX12_row_0 rfl (lv_at hl 0 rfl) ?_
  refine z_iconst hx hb dX12_row_1 ?_
  refine z_puti hx hb hts (z_memU u12) tyX12 tyX12_ok nmX12 hown hK.1 hS hS0 f12_35 (by decide) (zkd_of (rfl : zcd wR 0 = 50) rfl) (Or.inl (hts _ (z_mem k979))) rfl (z := 0) (by decide +kernel) (zbd_in (rfl : zcd wR 0 = 50) rfl (by decide)) (zms_of (rfl : zcd wR 0 = 50) rfl) dX12_row_2 (fun H locs hS hS0 => ?_)
  obtain ⟨M1, e2⟩ : ∃ M1 : zM, M1 = zup M 0 35 0 := ⟨_, rfl⟩
  rw [← e2] at hS
  have J3 := hS.2.1
  refine lv_iload_n hx hb dX12_row_5 rfl (lv_at hl 1 rfl) ?_
  refine z_iconst hx hb dX12_row_6 ?_
  refine lv_aload_n hx hb dX12_row_7 rfl (lv_at hl 0 rfl) ?_
  refine z_geti hx hb hts (z_memU u12) hown hK.1 hS f12_34 (by decide) (zkd_of (rfl : zcd wR 0 = 50) rfl) (Or.inl (hts _ (z_mem k978))) dX12_row_8 ?_
  refine z_top (show M1 0 34 = 0 from by rw [e2, zup_n _ _ (by omega), g0]) ?_
  refine z_iconst hx hb dX12_row_11 ?_
  refine z_isub hx hb dX12_row_12 ?_
  refine z_top (show ((0 - 1) : Int) = (-1) from (by decide)) ?_
  refine z_calli (va_runS (As := [.int (iI i), .int (iI 0), .int (iI (-1))]) (rest := []) ⟨hx, hb, hml, hown, hts⟩ (m_in l D dA b M1 i 0 (-1) r_i (by decide) (by decide)) (va_cwS 3 hts (z_gS k1087 k1088 k14 k1089) rfl rfl rfl dm_X12_in.2 ⟨Nat.le_of_ble_eq_true rfl, Nat.le_of_ble_eq_true rfl⟩) ⟨zP_blind, z_pre hS hK⟩ rfl rfl hl.1 rfl (lv_room (Nat.le_of_ble_eq_true rfl)) dX12_row_13 ⟨Nat.le_refl _, Nat.le_refl _⟩) hS hS0 (zms_sub rfl) (fun z8 M4 H locs r9 h5 F6 hS hS0 => ?_)
  obtain ⟨h10, h5⟩ := h5
  rw [h10] at hS
  rcases h5 with h11 | h12
  · skip
    exfalso
    omega
  · skip
    obtain ⟨z8e, h12⟩ := h12
    subst z8e
    refine z_if_ne (tgt := 26) hx hb (by decide) dX12_row_16 (by decide) (fun c13 => absurd c13 (by decide)) (fun c13 => ?_)
    refine lv_aload_n hx hb dX12_row_19 rfl (lv_at hl 0 rfl) ?_
    refine z_iconst hx hb dX12_row_20 ?_
    refine z_puti hx hb hts (z_memU u12) tyX12 tyX12_ok nmX12 hown hK.1 hS hS0 f12_35 (by decide) (zkd_of (rfl : zcd wR 0 = 50) rfl) (Or.inl (hts _ (z_mem k979))) rfl (z := 1) (by decide +kernel) (zbd_in (rfl : zcd wR 0 = 50) rfl (by decide)) (zms_of (rfl : zcd wR 0 = 50) rfl) dX12_row_21 (fun H locs hS hS0 => ?_)
    obtain ⟨M14, e15⟩ : ∃ M14 : zM, M14 = zup M1 0 35 1 := ⟨_, rfl⟩
    rw [← e15] at hS
    have J16 := hS.2.1
    refine z_iconst hx hb dX12_row_24 ?_
    exact z_iret hx hb hr hlocks hS hS0 (by decide) (⟨by first | exact trivial | exact ⟨rfl, trivial⟩ | omega | (refine ⟨by omega, trivial⟩), by rw [e15, zup_s]⟩) dX12_row_25

set_option maxHeartbeats 4000000 in
set_option maxRecDepth 100000 in
theorem m_thrown (l : Launch) (D : va_G) (dA : Nat → ClassId) (b : Nat) (M : zM) (c0 : Int) (g_c0 : M 0 35 = c0) : Met l yX12_thrown (.code yX12_thrown cX12_thrown 1 (some .int) :: zt) (z_rm 0) (va_Pc [.ref (b + 0)] (zP D dA vwCl (z_tys dA) wR nR b M)) (va_Qi (zQi wR (zms wR []) M (fun z M1 => M1 = M ∧ (z = c0 ∧ True))) (zB D dA vwCl wR nR b) (zA nR b)) 0 0 (zA nR b) := by
  refine Met.ofW (cc := cX12_thrown) (maxL := 1) (ret := (some .int)) (by decide) rfl ?_
  intro p e s m args below meth c s₁ B hml hv
  obtain ⟨hargs, hR0, hJ, hK⟩ := hv
  have hx := B.exec
  have hb := B.bytes
  have hr := B.returns
  have hts := atoms_spec (ws := .code yX12_thrown cX12_thrown 1 (some .int) :: zt) B.pre
  have hown : s.vm.findClass RX12 = some m.cls := findClass_of_methodNamed B.named
  have hlocks := B.notSynchronized
  have hS : zS D dA vwCl wR nR b (zms wR []) M M s.heap := ⟨hR0, hJ, zF_rf _ _⟩
  have hS0 : va_S (zA nR b) s.heap s.heap [] := va_S.rf
  have hl := lv_entry ([.ref (b + 0)]) (n := 1) (Nat.le_of_ble_eq_true rfl)
  have hent : entryFrame m args 1 = F0 m 0 ((lg_sl ([.ref (b + 0)]) ++ List.replicate (1 - (lg_sl ([.ref (b + 0)])).length) Slot.unset).toArray) [] := by rw [hargs]; exact lg_entry_eq m ([.ref (b + 0)]) 1
  rw [hent]
  generalize (lg_sl ([.ref (b + 0)]) ++ List.replicate (1 - (lg_sl ([.ref (b + 0)])).length) Slot.unset).toArray = ls at hl ⊢
  have hl : lv_has ls 1 [(0, .ref (b + 0))] := hl
  have gb_c0 : (0 : Int) ≤ c0 ∧ c0 ≤ 1 := by rw [← g_c0]; exact zJ_at hJ (rfl : zcd wR 0 = 50) rfl
  refine lv_aload_n hx hb dX12_thrown_0 rfl (lv_at hl 0 rfl) ?_
  refine z_geti hx hb hts (z_memU u12) hown hK.1 hS f12_35 (by decide) (zkd_of (rfl : zcd wR 0 = 50) rfl) (Or.inl (hts _ (z_mem k979))) dX12_thrown_1 ?_
  refine z_top (show M 0 35 = c0 from by rw [g_c0]) ?_
  exact z_iret hx hb hr hlocks hS hS0 ⟨by omega, by omega⟩ (⟨rfl, by first | exact trivial | exact ⟨rfl, trivial⟩ | omega | (refine ⟨by omega, trivial⟩)⟩) dX12_thrown_4
