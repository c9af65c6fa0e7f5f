/-! the W layer, 12 -/
theorem dX10_add_0 : decode cX10_add 0 = .ok (.aload_n 0, 1) := by decide +kernel
theorem dX10_add_1 : decode cX10_add 1 = .ok (.getfield 9, 3) := by decide +kernel
theorem dX10_add_10 : decode cX10_add 10 = .ok (.getfield 9, 3) := by decide +kernel
theorem dX10_add_13 : decode cX10_add 13 = .ok (.ifCond .le 20, 3) := by decide +kernel
theorem dX10_add_16 : decode cX10_add 16 = .ok (.iload_n 3, 1) := by decide +kernel
theorem dX10_add_17 : decode cX10_add 17 = .ok (.aload_n 0, 1) := by decide +kernel
theorem dX10_add_18 : decode cX10_add 18 = .ok (.getfield 25, 3) := by decide +kernel
theorem dX10_add_21 : decode cX10_add 21 = .ok (.aload_n 0, 1) := by decide +kernel
theorem dX10_add_22 : decode cX10_add 22 = .ok (.getfield 9, 3) := by decide +kernel
theorem dX10_add_25 : decode cX10_add 25 = .ok (.iconst 1, 1) := by decide +kernel
theorem dX10_add_26 : decode cX10_add 26 = .ok (.isub, 1) := by decide +kernel
theorem dX10_add_27 : decode cX10_add 27 = .ok (.iaload, 1) := by decide +kernel
theorem dX10_add_28 : decode cX10_add 28 = .ok (.if_icmp .ge 5, 3) := by decide +kernel
theorem dX10_add_31 : decode cX10_add 31 = .ok (.iconst (-1), 1) := by decide +kernel
theorem dX10_add_32 : decode cX10_add 32 = .ok (.ireturn, 1) := by decide +kernel
theorem dX10_add_33 : decode cX10_add 33 = .ok (.aload_n 0, 1) := by decide +kernel
theorem dX10_add_34 : decode cX10_add 34 = .ok (.getfield 17, 3) := by decide +kernel
theorem dX10_add_37 : decode cX10_add 37 = .ok (.aload_n 0, 1) := by decide +kernel
theorem dX10_add_38 : decode cX10_add 38 = .ok (.getfield 9, 3) := by decide +kernel
theorem dX10_add_4 : decode cX10_add 4 = .ok (.bipush 16, 2) := by decide +kernel
theorem dX10_add_41 : decode cX10_add 41 = .ok (.aaload, 1) := by decide +kernel
theorem dX10_add_42 : decode cX10_add 42 = .ok (.aload_n 1, 1) := by decide +kernel
theorem dX10_add_43 : decode cX10_add 43 = .ok (.invokevirtual 32, 3) := by decide +kernel
theorem dX10_add_46 : decode cX10_add 46 = .ok (.aload_n 0, 1) := by decide +kernel
theorem dX10_add_47 : decode cX10_add 47 = .ok (.getfield 21, 3) := by decide +kernel
theorem dX10_add_50 : decode cX10_add 50 = .ok (.aload_n 0, 1) := by decide +kernel
theorem dX10_add_51 : decode cX10_add 51 = .ok (.getfield 9, 3) := by decide +kernel
theorem dX10_add_54 : decode cX10_add 54 = .ok (.iload_n 2, 1) := by decide +kernel
theorem dX10_add_55 : decode cX10_add 55 = .ok (.iastore, 1) := by decide +kernel
theorem dX10_add_56 : decode cX10_add 56 = .ok (.aload_n 0, 1) := by decide +kernel
theorem dX10_add_57 : decode cX10_add 57 = .ok (.getfield 25, 3) := by decide +kernel
theorem dX10_add_6 : decode cX10_add 6 = .ok (.if_icmp .ge 25, 3) := by decide +kernel
theorem dX10_add_60 : decode cX10_add 60 = .ok (.aload_n 0, 1) := by decide +kernel
theorem dX10_add_61 : decode cX10_add 61 = .ok (.getfield 9, 3) := by decide +kernel
theorem dX10_add_64 : decode cX10_add 64 = .ok (.iload_n 3, 1) := by decide +kernel
theorem dX10_add_65 : decode cX10_add 65 = .ok (.iastore, 1) := by decide +kernel
theorem dX10_add_66 : decode cX10_add 66 = .ok (.aload_n 0, 1) := by decide +kernel
theorem dX10_add_67 : decode cX10_add 67 = .ok (.dup, 1) := by decide +kernel
theorem dX10_add_68 : decode cX10_add 68 = .ok (.getfield 9, 3) := by decide +kernel
theorem dX10_add_71 : decode cX10_add 71 = .ok (.iconst 1, 1) := by decide +kernel
theorem dX10_add_72 : decode cX10_add 72 = .ok (.iadd, 1) := by decide +kernel
theorem dX10_add_73 : decode cX10_add 73 = .ok (.putfield 9, 3) := by decide +kernel
theorem dX10_add_76 : decode cX10_add 76 = .ok (.aload_n 0, 1) := by decide +kernel
theorem dX10_add_77 : decode cX10_add 77 = .ok (.getfield 9, 3) := by decide +kernel
theorem dX10_add_80 : decode cX10_add 80 = .ok (.iconst 1, 1) := by decide +kernel
theorem dX10_add_81 : decode cX10_add 81 = .ok (.isub, 1) := by decide +kernel
theorem dX10_add_82 : decode cX10_add 82 = .ok (.ireturn, 1) := by decide +kernel
theorem dX10_add_9 : decode cX10_add 9 = .ok (.aload_n 0, 1) := by decide +kernel
theorem dX10_find_0 : decode cX10_find 0 = .ok (.iload_n 1, 1) := by decide +kernel
theorem dX10_find_1 : decode cX10_find 1 = .ok (.ifCond .lt 26, 3) := by decide +kernel
theorem dX10_find_12 : decode cX10_find 12 = .ok (.iload_n 1, 1) := by decide +kernel
theorem dX10_find_13 : decode cX10_find 13 = .ok (.bipush 16, 2) := by decide +kernel
theorem dX10_find_15 : decode cX10_find 15 = .ok (.if_icmp .ge 12, 3) := by decide +kernel
theorem dX10_find_18 : decode cX10_find 18 = .ok (.aload_n 0, 1) := by decide +kernel
theorem dX10_find_19 : decode cX10_find 19 = .ok (.getfield 17, 3) := by decide +kernel
theorem dX10_find_22 : decode cX10_find 22 = .ok (.iload_n 1, 1) := by decide +kernel
theorem dX10_find_23 : decode cX10_find 23 = .ok (.aaload, 1) := by decide +kernel
theorem dX10_find_24 : decode cX10_find 24 = .ok (.goto 4, 3) := by decide +kernel
theorem dX10_find_27 : decode cX10_find 27 = .ok (.aconst_null, 1) := by decide +kernel
theorem dX10_find_28 : decode cX10_find 28 = .ok (.areturn, 1) := by decide +kernel
theorem dX10_find_4 : decode cX10_find 4 = .ok (.iload_n 1, 1) := by decide +kernel
theorem dX10_find_5 : decode cX10_find 5 = .ok (.aload_n 0, 1) := by decide +kernel
theorem dX10_find_6 : decode cX10_find 6 = .ok (.getfield 9, 3) := by decide +kernel
theorem dX10_find_9 : decode cX10_find 9 = .ok (.if_icmp .ge 18, 3) := by decide +kernel
theorem dX10_latest_0 : decode cX10_latest 0 = .ok (.aload_n 0, 1) := by decide +kernel
theorem dX10_latest_1 : decode cX10_latest 1 = .ok (.getfield 9, 3) := by decide +kernel
theorem dX10_latest_11 : decode cX10_latest 11 = .ok (.aload_n 0, 1) := by decide +kernel
theorem dX10_latest_12 : decode cX10_latest 12 = .ok (.getfield 21, 3) := by decide +kernel
theorem dX10_latest_15 : decode cX10_latest 15 = .ok (.iload_n 3, 1) := by decide +kernel
theorem dX10_latest_16 : decode cX10_latest 16 = .ok (.iaload, 1) := by decide +kernel
theorem dX10_latest_17 : decode cX10_latest 17 = .ok (.iload_n 1, 1) := by decide +kernel
theorem dX10_latest_18 : decode cX10_latest 18 = .ok (.if_icmp .ne 15, 3) := by decide +kernel
theorem dX10_latest_21 : decode cX10_latest 21 = .ok (.aload_n 0, 1) := by decide +kernel
theorem dX10_latest_22 : decode cX10_latest 22 = .ok (.getfield 25, 3) := by decide +kernel
theorem dX10_latest_25 : decode cX10_latest 25 = .ok (.iload_n 3, 1) := by decide +kernel
theorem dX10_latest_26 : decode cX10_latest 26 = .ok (.iaload, 1) := by decide +kernel
theorem dX10_latest_27 : decode cX10_latest 27 = .ok (.iload_n 2, 1) := by decide +kernel
theorem dX10_latest_28 : decode cX10_latest 28 = .ok (.if_icmp .gt 5, 3) := by decide +kernel
theorem dX10_latest_31 : decode cX10_latest 31 = .ok (.iload_n 3, 1) := by decide +kernel
theorem dX10_latest_32 : decode cX10_latest 32 = .ok (.ireturn, 1) := by decide +kernel
theorem dX10_latest_33 : decode cX10_latest 33 = .ok (.iinc 3 (-1), 3) := by decide +kernel
theorem dX10_latest_36 : decode cX10_latest 36 = .ok (.goto (-29), 3) := by decide +kernel
theorem dX10_latest_39 : decode cX10_latest 39 = .ok (.iconst (-1), 1) := by decide +kernel
theorem dX10_latest_4 : decode cX10_latest 4 = .ok (.iconst 1, 1) := by decide +kernel
theorem dX10_latest_40 : decode cX10_latest 40 = .ok (.ireturn, 1) := by decide +kernel
theorem dX10_latest_5 : decode cX10_latest 5 = .ok (.isub, 1) := by decide +kernel
theorem dX10_latest_6 : decode cX10_latest 6 = .ok (.istore_n 3, 1) := by decide +kernel
theorem dX10_latest_7 : decode cX10_latest 7 = .ok (.iload_n 3, 1) := by decide +kernel
theorem dX10_latest_8 : decode cX10_latest 8 = .ok (.ifCond .lt 31, 3) := by decide +kernel
theorem dX11_fetch_0 : decode cX11_fetch 0 = .ok (.aload_n 0, 1) := by decide +kernel
theorem dX11_fetch_1 : decode cX11_fetch 1 = .ok (.getfield 68, 3) := by decide +kernel
theorem dX11_fetch_10 : decode cX11_fetch 10 = .ok (.ifnonnull 5, 3) := by decide +kernel
theorem dX11_fetch_13 : decode cX11_fetch 13 = .ok (.iconst (-1), 1) := by decide +kernel
theorem dX11_fetch_14 : decode cX11_fetch 14 = .ok (.ireturn, 1) := by decide +kernel
theorem dX11_fetch_15 : decode cX11_fetch 15 = .ok (.aload_n 0, 1) := by decide +kernel
theorem dX11_fetch_16 : decode cX11_fetch 16 = .ok (.getfield 19, 3) := by decide +kernel
theorem dX11_fetch_19 : decode cX11_fetch 19 = .ok (.aload_n 2, 1) := by decide +kernel
theorem dX11_fetch_20 : decode cX11_fetch 20 = .ok (.invokevirtual 280, 3) := by decide +kernel
theorem dX11_fetch_23 : decode cX11_fetch 23 = .ok (.aload_n 0, 1) := by decide +kernel
theorem dX11_fetch_24 : decode cX11_fetch 24 = .ok (.getfield 19, 3) := by decide +kernel
theorem dX11_fetch_27 : decode cX11_fetch 27 = .ok (.getfield 117, 3) := by decide +kernel
theorem dX11_fetch_30 : decode cX11_fetch 30 = .ok (.ireturn, 1) := by decide +kernel
theorem dX11_fetch_4 : decode cX11_fetch 4 = .ok (.iload_n 1, 1) := by decide +kernel
theorem dX11_fetch_5 : decode cX11_fetch 5 = .ok (.invokevirtual 277, 3) := by decide +kernel
theorem dX11_fetch_8 : decode cX11_fetch 8 = .ok (.astore_n 2, 1) := by decide +kernel
theorem dX11_fetch_9 : decode cX11_fetch 9 = .ok (.aload_n 2, 1) := by decide +kernel
theorem dX11_join_0 : decode cX11_join 0 = .ok (.aload_n 0, 1) := by decide +kernel
theorem dX11_join_1 : decode cX11_join 1 = .ok (.getfield 61, 3) := by decide +kernel
theorem dX11_join_10 : decode cX11_join 10 = .ok (.getfield 61, 3) := by decide +kernel
theorem dX11_join_13 : decode cX11_join 13 = .ok (.getfield 270, 3) := by decide +kernel
theorem dX11_join_16 : decode cX11_join 16 = .ok (.iload_n 1, 1) := by decide +kernel
theorem dX11_join_17 : decode cX11_join 17 = .ok (.invokevirtual 220, 3) := by decide +kernel
theorem dX11_join_20 : decode cX11_join 20 = .ok (.iload_n 1, 1) := by decide +kernel
theorem dX11_join_21 : decode cX11_join 21 = .ok (.ireturn, 1) := by decide +kernel
theorem dX11_join_4 : decode cX11_join 4 = .ok (.invokevirtual 267, 3) := by decide +kernel
theorem dX11_join_7 : decode cX11_join 7 = .ok (.istore_n 1, 1) := by decide +kernel
theorem dX11_join_8 : decode cX11_join 8 = .ok (.aload_n 0, 1) := by decide +kernel
theorem dX11_join_9 : decode cX11_join 9 = .ok (.aload_n 0, 1) := by decide +kernel
theorem dX11_keep_0 : decode cX11_keep 0 = .ok (.aload_n 0, 1) := by decide +kernel
theorem dX11_keep_1 : decode cX11_keep 1 = .ok (.getfield 26, 3) := by decide +kernel
theorem dX11_keep_10 : decode cX11_keep 10 = .ok (.ifnull 14, 3) := by decide +kernel
theorem dX11_keep_13 : decode cX11_keep 13 = .ok (.iload_n 2, 1) := by decide +kernel
theorem dX11_keep_14 : decode cX11_keep 14 = .ok (.iconst 0, 1) := by decide +kernel
theorem dX11_keep_15 : decode cX11_keep 15 = .ok (.sipush 999, 3) := by decide +kernel
theorem dX11_keep_18 : decode cX11_keep 18 = .ok (.invokestatic 113, 3) := by decide +kernel
theorem dX11_keep_21 : decode cX11_keep 21 = .ok (.ifCond .ne 5, 3) := by decide +kernel
theorem dX11_keep_24 : decode cX11_keep 24 = .ok (.iconst (-1), 1) := by decide +kernel
theorem dX11_keep_25 : decode cX11_keep 25 = .ok (.ireturn, 1) := by decide +kernel
theorem dX11_keep_26 : decode cX11_keep 26 = .ok (.aload_n 0, 1) := by decide +kernel
theorem dX11_keep_27 : decode cX11_keep 27 = .ok (.getfield 68, 3) := by decide +kernel
theorem dX11_keep_30 : decode cX11_keep 30 = .ok (.aload_n 3, 1) := by decide +kernel
theorem dX11_keep_31 : decode cX11_keep 31 = .ok (.getfield 108, 3) := by decide +kernel
theorem dX11_keep_34 : decode cX11_keep 34 = .ok (.iload_n 1, 1) := by decide +kernel
theorem dX11_keep_35 : decode cX11_keep 35 = .ok (.iload_n 2, 1) := by decide +kernel
theorem dX11_keep_36 : decode cX11_keep 36 = .ok (.invokevirtual 273, 3) := by decide +kernel
theorem dX11_keep_39 : decode cX11_keep 39 = .ok (.ireturn, 1) := by decide +kernel
theorem dX11_keep_4 : decode cX11_keep 4 = .ok (.iload_n 1, 1) := by decide +kernel
theorem dX11_keep_5 : decode cX11_keep 5 = .ok (.invokevirtual 104, 3) := by decide +kernel
theorem dX11_keep_8 : decode cX11_keep 8 = .ok (.astore_n 3, 1) := by decide +kernel
theorem dX11_keep_9 : decode cX11_keep 9 = .ok (.aload_n 3, 1) := by decide +kernel
theorem dX11_known_0 : decode cX11_known 0 = .ok (.aload_n 0, 1) := by decide +kernel
theorem dX11_known_1 : decode cX11_known 1 = .ok (.getfield 68, 3) := by decide +kernel
theorem dX11_known_4 : decode cX11_known 4 = .ok (.iload_n 1, 1) := by decide +kernel
theorem dX11_known_5 : decode cX11_known 5 = .ok (.iload_n 2, 1) := by decide +kernel
theorem dX11_known_6 : decode cX11_known 6 = .ok (.invokevirtual 274, 3) := by decide +kernel
theorem dX11_known_9 : decode cX11_known 9 = .ok (.ireturn, 1) := by decide +kernel
theorem dX4_alike_0 : decode cX4_alike 0 = .ok (.iconst 0, 1) := by decide +kernel
theorem dX4_alike_1 : decode cX4_alike 1 = .ok (.istore 5, 2) := by decide +kernel
theorem dX4_alike_10 : decode cX4_alike 10 = .ok (.aload_n 0, 1) := by decide +kernel
theorem dX4_alike_11 : decode cX4_alike 11 = .ok (.getfield 30, 3) := by decide +kernel
theorem dX4_alike_14 : decode cX4_alike 14 = .ok (.iload_n 3, 1) := by decide +kernel
theorem dX4_alike_15 : decode cX4_alike 15 = .ok (.iload 4, 2) := by decide +kernel
theorem dX4_alike_17 : decode cX4_alike 17 = .ok (.isub, 1) := by decide +kernel
theorem dX4_alike_18 : decode cX4_alike 18 = .ok (.iload 5, 2) := by decide +kernel
theorem dX4_alike_20 : decode cX4_alike 20 = .ok (.iadd, 1) := by decide +kernel
theorem dX4_alike_21 : decode cX4_alike 21 = .ok (.iaload, 1) := by decide +kernel
theorem dX4_alike_22 : decode cX4_alike 22 = .ok (.aload_n 0, 1) := by decide +kernel
theorem dX4_alike_23 : decode cX4_alike 23 = .ok (.iload_n 1, 1) := by decide +kernel
theorem dX4_alike_24 : decode cX4_alike 24 = .ok (.iload_n 2, 1) := by decide +kernel
theorem dX4_alike_25 : decode cX4_alike 25 = .ok (.iload 5, 2) := by decide +kernel
theorem dX4_alike_27 : decode cX4_alike 27 = .ok (.invokevirtual 58, 3) := by decide +kernel
theorem dX4_alike_3 : decode cX4_alike 3 = .ok (.iload 5, 2) := by decide +kernel
theorem dX4_alike_30 : decode cX4_alike 30 = .ok (.if_icmp .eq 5, 3) := by decide +kernel
theorem dX4_alike_33 : decode cX4_alike 33 = .ok (.iconst 0, 1) := by decide +kernel
theorem dX4_alike_34 : decode cX4_alike 34 = .ok (.ireturn, 1) := by decide +kernel
theorem dX4_alike_35 : decode cX4_alike 35 = .ok (.iinc 5 1, 3) := by decide +kernel
theorem dX4_alike_38 : decode cX4_alike 38 = .ok (.goto (-35), 3) := by decide +kernel
theorem dX4_alike_41 : decode cX4_alike 41 = .ok (.iconst 1, 1) := by decide +kernel
theorem dX4_alike_42 : decode cX4_alike 42 = .ok (.ireturn, 1) := by decide +kernel
theorem dX4_alike_5 : decode cX4_alike 5 = .ok (.iload 4, 2) := by decide +kernel
theorem dX4_alike_7 : decode cX4_alike 7 = .ok (.if_icmp .ge 34, 3) := by decide +kernel
theorem dX4_joinAll_0 : decode cX4_joinAll 0 = .ok (.aload_n 0, 1) := by decide +kernel
theorem dX4_joinAll_1 : decode cX4_joinAll 1 = .ok (.bipush 41, 2) := by decide +kernel
theorem dX4_joinAll_10 : decode cX4_joinAll 10 = .ok (.invokestatic 37, 3) := by decide +kernel
theorem dX4_joinAll_13 : decode cX4_joinAll 13 = .ok (.aload_n 0, 1) := by decide +kernel
theorem dX4_joinAll_14 : decode cX4_joinAll 14 = .ok (.getfield 19, 3) := by decide +kernel
theorem dX4_joinAll_17 : decode cX4_joinAll 17 = .ok (.ireturn, 1) := by decide +kernel
theorem dX4_joinAll_3 : decode cX4_joinAll 3 = .ok (.putfield 19, 3) := by decide +kernel
theorem dX4_joinAll_6 : decode cX4_joinAll 6 = .ok (.aload_n 0, 1) := by decide +kernel
theorem dX4_joinAll_7 : decode cX4_joinAll 7 = .ok (.iconst 0, 1) := by decide +kernel
theorem dX4_joinAll_8 : decode cX4_joinAll 8 = .ok (.iconst 0, 1) := by decide +kernel
theorem dX4_joinAll_9 : decode cX4_joinAll 9 = .ok (.iconst 0, 1) := by decide +kernel
theorem dX4_layPiece_0 : decode cX4_layPiece 0 = .ok (.iload_n 3, 1) := by decide +kernel
theorem dX4_layPiece_1 : decode cX4_layPiece 1 = .ok (.aload_n 0, 1) := by decide +kernel
theorem dX4_layPiece_10 : decode cX4_layPiece 10 = .ok (.istore 4, 2) := by decide +kernel
theorem dX4_layPiece_12 : decode cX4_layPiece 12 = .ok (.iload 4, 2) := by decide +kernel
theorem dX4_layPiece_14 : decode cX4_layPiece 14 = .ok (.ifCond .le 21, 3) := by decide +kernel
theorem dX4_layPiece_17 : decode cX4_layPiece 17 = .ok (.aload_n 0, 1) := by decide +kernel
theorem dX4_layPiece_18 : decode cX4_layPiece 18 = .ok (.iload_n 1, 1) := by decide +kernel
theorem dX4_layPiece_19 : decode cX4_layPiece 19 = .ok (.iload_n 2, 1) := by decide +kernel
theorem dX4_layPiece_2 : decode cX4_layPiece 2 = .ok (.getfield 27, 3) := by decide +kernel
theorem dX4_layPiece_20 : decode cX4_layPiece 20 = .ok (.iload_n 3, 1) := by decide +kernel
theorem dX4_layPiece_21 : decode cX4_layPiece 21 = .ok (.iload 4, 2) := by decide +kernel
theorem dX4_layPiece_23 : decode cX4_layPiece 23 = .ok (.invokevirtual 54, 3) := by decide +kernel
theorem dX4_layPiece_26 : decode cX4_layPiece 26 = .ok (.ifCond .ne 9, 3) := by decide +kernel
theorem dX4_layPiece_29 : decode cX4_layPiece 29 = .ok (.iinc 4 (-1), 3) := by decide +kernel
theorem dX4_layPiece_32 : decode cX4_layPiece 32 = .ok (.goto (-20), 3) := by decide +kernel
theorem dX4_layPiece_35 : decode cX4_layPiece 35 = .ok (.iload_n 3, 1) := by decide +kernel
theorem dX4_layPiece_36 : decode cX4_layPiece 36 = .ok (.iload 4, 2) := by decide +kernel
theorem dX4_layPiece_38 : decode cX4_layPiece 38 = .ok (.isub, 1) := by decide +kernel
theorem dX4_layPiece_39 : decode cX4_layPiece 39 = .ok (.istore 5, 2) := by decide +kernel
theorem dX4_layPiece_41 : decode cX4_layPiece 41 = .ok (.iload 4, 2) := by decide +kernel
theorem dX4_layPiece_43 : decode cX4_layPiece 43 = .ok (.istore 6, 2) := by decide +kernel
theorem dX4_layPiece_45 : decode cX4_layPiece 45 = .ok (.iload 6, 2) := by decide +kernel
theorem dX4_layPiece_47 : decode cX4_layPiece 47 = .ok (.aload_n 0, 1) := by decide +kernel
theorem dX4_layPiece_48 : decode cX4_layPiece 48 = .ok (.getfield 27, 3) := by decide +kernel
theorem dX4_layPiece_5 : decode cX4_layPiece 5 = .ok (.iload_n 1, 1) := by decide +kernel
theorem dX4_layPiece_51 : decode cX4_layPiece 51 = .ok (.iload_n 1, 1) := by decide +kernel
theorem dX4_layPiece_52 : decode cX4_layPiece 52 = .ok (.iaload, 1) := by decide +kernel
theorem dX4_layPiece_53 : decode cX4_layPiece 53 = .ok (.if_icmp .ge 27, 3) := by decide +kernel
theorem dX4_layPiece_56 : decode cX4_layPiece 56 = .ok (.aload_n 0, 1) := by decide +kernel
theorem dX4_layPiece_57 : decode cX4_layPiece 57 = .ok (.getfield 30, 3) := by decide +kernel
theorem dX4_layPiece_6 : decode cX4_layPiece 6 = .ok (.iaload, 1) := by decide +kernel
theorem dX4_layPiece_60 : decode cX4_layPiece 60 = .ok (.iload 5, 2) := by decide +kernel
theorem dX4_layPiece_62 : decode cX4_layPiece 62 = .ok (.iload 6, 2) := by decide +kernel
theorem dX4_layPiece_64 : decode cX4_layPiece 64 = .ok (.iadd, 1) := by decide +kernel
theorem dX4_layPiece_65 : decode cX4_layPiece 65 = .ok (.aload_n 0, 1) := by decide +kernel
theorem dX4_layPiece_66 : decode cX4_layPiece 66 = .ok (.iload_n 1, 1) := by decide +kernel
theorem dX4_layPiece_67 : decode cX4_layPiece 67 = .ok (.iload_n 2, 1) := by decide +kernel
theorem dX4_layPiece_68 : decode cX4_layPiece 68 = .ok (.iload 6, 2) := by decide +kernel
theorem dX4_layPiece_7 : decode cX4_layPiece 7 = .ok (.invokestatic 49, 3) := by decide +kernel
theorem dX4_layPiece_70 : decode cX4_layPiece 70 = .ok (.invokevirtual 58, 3) := by decide +kernel
theorem dX4_layPiece_73 : decode cX4_layPiece 73 = .ok (.iastore, 1) := by decide +kernel
theorem dX4_layPiece_74 : decode cX4_layPiece 74 = .ok (.iinc 6 1, 3) := by decide +kernel
theorem dX4_layPiece_77 : decode cX4_layPiece 77 = .ok (.goto (-32), 3) := by decide +kernel
theorem dX4_layPiece_80 : decode cX4_layPiece 80 = .ok (.iload 5, 2) := by decide +kernel
theorem dX4_layPiece_82 : decode cX4_layPiece 82 = .ok (.aload_n 0, 1) := by decide +kernel
theorem dX4_layPiece_83 : decode cX4_layPiece 83 = .ok (.getfield 27, 3) := by decide +kernel
theorem dX4_layPiece_86 : decode cX4_layPiece 86 = .ok (.iload_n 1, 1) := by decide +kernel
theorem dX4_layPiece_87 : decode cX4_layPiece 87 = .ok (.iaload, 1) := by decide +kernel
theorem dX4_layPiece_88 : decode cX4_layPiece 88 = .ok (.iadd, 1) := by decide +kernel
theorem dX4_layPiece_89 : decode cX4_layPiece 89 = .ok (.ireturn, 1) := by decide +kernel
theorem dX4_layRest_0 : decode cX4_layRest 0 = .ok (.iload_n 3, 1) := by decide +kernel
theorem dX4_layRest_1 : decode cX4_layRest 1 = .ok (.aload_n 0, 1) := by decide +kernel
theorem dX4_layRest_10 : decode cX4_layRest 10 = .ok (.aload_n 0, 1) := by decide +kernel
theorem dX4_layRest_11 : decode cX4_layRest 11 = .ok (.getfield 9, 3) := by decide +kernel
theorem dX4_layRest_14 : decode cX4_layRest 14 = .ok (.if_icmp .ge 8, 3) := by decide +kernel
theorem dX4_layRest_17 : decode cX4_layRest 17 = .ok (.iload_n 1, 1) := by decide +kernel
theorem dX4_layRest_18 : decode cX4_layRest 18 = .ok (.iconst 5, 1) := by decide +kernel
theorem dX4_layRest_19 : decode cX4_layRest 19 = .ok (.if_icmp .lt 9, 3) := by decide +kernel
theorem dX4_layRest_2 : decode cX4_layRest 2 = .ok (.getfield 19, 3) := by decide +kernel
theorem dX4_layRest_22 : decode cX4_layRest 22 = .ok (.aload_n 0, 1) := by decide +kernel
theorem dX4_layRest_23 : decode cX4_layRest 23 = .ok (.iload_n 3, 1) := by decide +kernel
theorem dX4_layRest_24 : decode cX4_layRest 24 = .ok (.invokevirtual 41, 3) := by decide +kernel
theorem dX4_layRest_27 : decode cX4_layRest 27 = .ok (.return_, 1) := by decide +kernel
theorem dX4_layRest_28 : decode cX4_layRest 28 = .ok (.iconst 0, 1) := by decide +kernel
theorem dX4_layRest_29 : decode cX4_layRest 29 = .ok (.istore 4, 2) := by decide +kernel
theorem dX4_layRest_31 : decode cX4_layRest 31 = .ok (.iload 4, 2) := by decide +kernel
theorem dX4_layRest_33 : decode cX4_layRest 33 = .ok (.aload_n 0, 1) := by decide +kernel
theorem dX4_layRest_34 : decode cX4_layRest 34 = .ok (.getfield 9, 3) := by decide +kernel
theorem dX4_layRest_37 : decode cX4_layRest 37 = .ok (.if_icmp .ge 60, 3) := by decide +kernel
theorem dX4_layRest_40 : decode cX4_layRest 40 = .ok (.iload_n 2, 1) := by decide +kernel
theorem dX4_layRest_41 : decode cX4_layRest 41 = .ok (.iload 4, 2) := by decide +kernel
theorem dX4_layRest_43 : decode cX4_layRest 43 = .ok (.ishr, 1) := by decide +kernel
theorem dX4_layRest_44 : decode cX4_layRest 44 = .ok (.iconst 1, 1) := by decide +kernel
theorem dX4_layRest_45 : decode cX4_layRest 45 = .ok (.iand, 1) := by decide +kernel
theorem dX4_layRest_46 : decode cX4_layRest 46 = .ok (.ifCond .ne 45, 3) := by decide +kernel
theorem dX4_layRest_49 : decode cX4_layRest 49 = .ok (.iload_n 2, 1) := by decide +kernel
theorem dX4_layRest_5 : decode cX4_layRest 5 = .ok (.if_icmp .le 4, 3) := by decide +kernel
theorem dX4_layRest_50 : decode cX4_layRest 50 = .ok (.iconst 1, 1) := by decide +kernel
theorem dX4_layRest_51 : decode cX4_layRest 51 = .ok (.iload 4, 2) := by decide +kernel
theorem dX4_layRest_53 : decode cX4_layRest 53 = .ok (.ishl, 1) := by decide +kernel
theorem dX4_layRest_54 : decode cX4_layRest 54 = .ok (.ior, 1) := by decide +kernel
theorem dX4_layRest_55 : decode cX4_layRest 55 = .ok (.istore 5, 2) := by decide +kernel
theorem dX4_layRest_57 : decode cX4_layRest 57 = .ok (.aload_n 0, 1) := by decide +kernel
theorem dX4_layRest_58 : decode cX4_layRest 58 = .ok (.iload_n 1, 1) := by decide +kernel
theorem dX4_layRest_59 : decode cX4_layRest 59 = .ok (.iconst 1, 1) := by decide +kernel
theorem dX4_layRest_60 : decode cX4_layRest 60 = .ok (.iadd, 1) := by decide +kernel
theorem dX4_layRest_61 : decode cX4_layRest 61 = .ok (.iload 5, 2) := by decide +kernel
theorem dX4_layRest_63 : decode cX4_layRest 63 = .ok (.aload_n 0, 1) := by decide +kernel
theorem dX4_layRest_64 : decode cX4_layRest 64 = .ok (.iload 4, 2) := by decide +kernel
theorem dX4_layRest_66 : decode cX4_layRest 66 = .ok (.iconst 0, 1) := by decide +kernel
theorem dX4_layRest_67 : decode cX4_layRest 67 = .ok (.iload_n 3, 1) := by decide +kernel
theorem dX4_layRest_68 : decode cX4_layRest 68 = .ok (.invokevirtual 45, 3) := by decide +kernel
theorem dX4_layRest_71 : decode cX4_layRest 71 = .ok (.invokestatic 37, 3) := by decide +kernel
theorem dX4_layRest_74 : decode cX4_layRest 74 = .ok (.aload_n 0, 1) := by decide +kernel
theorem dX4_layRest_75 : decode cX4_layRest 75 = .ok (.iload_n 1, 1) := by decide +kernel
theorem dX4_layRest_76 : decode cX4_layRest 76 = .ok (.iconst 1, 1) := by decide +kernel
theorem dX4_layRest_77 : decode cX4_layRest 77 = .ok (.iadd, 1) := by decide +kernel
theorem dX4_layRest_78 : decode cX4_layRest 78 = .ok (.iload 5, 2) := by decide +kernel
theorem dX4_layRest_8 : decode cX4_layRest 8 = .ok (.return_, 1) := by decide +kernel
theorem dX4_layRest_80 : decode cX4_layRest 80 = .ok (.aload_n 0, 1) := by decide +kernel
theorem dX4_layRest_81 : decode cX4_layRest 81 = .ok (.iload 4, 2) := by decide +kernel
theorem dX4_layRest_83 : decode cX4_layRest 83 = .ok (.iconst 1, 1) := by decide +kernel
theorem dX4_layRest_84 : decode cX4_layRest 84 = .ok (.iload_n 3, 1) := by decide +kernel
theorem dX4_layRest_85 : decode cX4_layRest 85 = .ok (.invokevirtual 45, 3) := by decide +kernel
theorem dX4_layRest_88 : decode cX4_layRest 88 = .ok (.invokestatic 37, 3) := by decide +kernel
theorem dX4_layRest_9 : decode cX4_layRest 9 = .ok (.iload_n 1, 1) := by decide +kernel
theorem dX4_layRest_91 : decode cX4_layRest 91 = .ok (.iinc 4 1, 3) := by decide +kernel
theorem dX4_layRest_94 : decode cX4_layRest 94 = .ok (.goto (-63), 3) := by decide +kernel
theorem dX4_layRest_97 : decode cX4_layRest 97 = .ok (.return_, 1) := by decide +kernel
theorem dm_X4_sound : yX4_sound.cls = RX4 ∧ yX4_sound.cls ≠ "java/lang/invoke/MethodHandle" ∧ yX4_sound.cls ≠ "java/lang/invoke/VarHandle" ∧ (parseMethodDescriptor yX4_sound.desc).map (fun d => d.parameters.length) = some 3 := by decide +kernel
theorem dm_X4_alike : yX4_alike.cls = RX4 ∧ yX4_alike.cls ≠ "java/lang/invoke/MethodHandle" ∧ yX4_alike.cls ≠ "java/lang/invoke/VarHandle" ∧ (parseMethodDescriptor yX4_alike.desc).map (fun d => d.parameters.length) = some 4 := by decide +kernel
theorem dm_X4_keepBetter : yX4_keepBetter.cls = RX4 ∧ yX4_keepBetter.cls ≠ "java/lang/invoke/MethodHandle" ∧ yX4_keepBetter.cls ≠ "java/lang/invoke/VarHandle" ∧ (parseMethodDescriptor yX4_keepBetter.desc).map (fun d => d.parameters.length) = some 1 := by decide +kernel
theorem dm_X4_layPiece : yX4_layPiece.cls = RX4 ∧ yX4_layPiece.cls ≠ "java/lang/invoke/MethodHandle" ∧ yX4_layPiece.cls ≠ "java/lang/invoke/VarHandle" ∧ (parseMethodDescriptor yX4_layPiece.desc).map (fun d => d.parameters.length) = some 3 := by decide +kernel
theorem dm_X4_layRest : yX4_layRest.cls = RX4 ∧ yX4_layRest.cls ≠ "java/lang/invoke/MethodHandle" ∧ yX4_layRest.cls ≠ "java/lang/invoke/VarHandle" ∧ (parseMethodDescriptor yX4_layRest.desc).map (fun d => d.parameters.length) = some 4 := by decide +kernel
theorem dm_X4_joinAll : yX4_joinAll.cls = RX4 ∧ yX4_joinAll.cls ≠ "java/lang/invoke/MethodHandle" ∧ yX4_joinAll.cls ≠ "java/lang/invoke/VarHandle" ∧ (parseMethodDescriptor yX4_joinAll.desc).map (fun d => d.parameters.length) = some 0 := by decide +kernel
theorem dm_X10_add : yX10_add.cls = RX10 ∧ yX10_add.cls ≠ "java/lang/invoke/MethodHandle" ∧ yX10_add.cls ≠ "java/lang/invoke/VarHandle" ∧ (parseMethodDescriptor yX10_add.desc).map (fun d => d.parameters.length) = some 3 := by decide +kernel
theorem dm_X10_latest : yX10_latest.cls = RX10 ∧ yX10_latest.cls ≠ "java/lang/invoke/MethodHandle" ∧ yX10_latest.cls ≠ "java/lang/invoke/VarHandle" ∧ (parseMethodDescriptor yX10_latest.desc).map (fun d => d.parameters.length) = some 2 := by decide +kernel
theorem dm_X10_find : yX10_find.cls = RX10 ∧ yX10_find.cls ≠ "java/lang/invoke/MethodHandle" ∧ yX10_find.cls ≠ "java/lang/invoke/VarHandle" ∧ (parseMethodDescriptor yX10_find.desc).map (fun d => d.parameters.length) = some 1 := by decide +kernel
set_option maxRecDepth 100000 in
def wC_Pieces_alike (a0 : Int) (a1 : Int) (a2 : Int) (a3 : Int) (M : zM) (Q : Int → Prop) : Prop := pL1 (fun K3 x1 => ((sI a3) ≤ (sI x1) → Q 1) ∧ ((sI x1) < (sI a3) → ((0 ≤ (sI ((a2 - a3) + x1)) ∧ (sI ((a2 - a3) + x1)) < 40) ∧ wC_Pieces_sound a0 a1 x1 M (fun z12 => ((sI (M 95 (sI ((a2 - a3) + x1)).toNat)) = z12 → K3 (x1 + 1)) ∧ ((sI (M 95 (sI ((a2 - a3) + x1)).toNat)) ≠ z12 → Q 0))))) 0
set_option maxHeartbeats 4000000 in
set_option maxRecDepth 100000 in
theorem cC_Pieces_alike (l : Launch) (D : va_G) (dA : Nat → ClassId) (b : Nat) (M : zM) (a0 : Int) (a1 : Int) (a2 : Int) (a3 : Int)  (Q : Int → Prop) (h : wC_Pieces_alike a0 a1 a2 a3 M Q) : Met l yX4_alike (.code yX4_alike cX4_alike 6 (some .boolean) :: zt) (z_rm 1) (va_Pc [.ref (b + 86), .int (iI a0), .int (iI a1), .int (iI a2), .int (iI a3)] (wPre D dA vwCl (z_tys dA) wC nC b M)) (va_Qi (wQz (fun z9 u9 => u9 = M ∧ Q z9)) (zB D dA vwCl wC nC b) (zA nC b)) 0 0 (zA nC b) := by
  unfold wC_Pieces_alike at h
  refine Met.ofW (cc := cX4_alike) (maxL := 6) (ret := (some .boolean)) (by decide) rfl ?_
  intro p e s m args below meth c s₁ B hml hv
  obtain ⟨hargs, hS, hK⟩ := hv
  have hx := B.exec
  have hb := B.bytes
  have hr := B.returns
  have hts := atoms_spec (ws := .code yX4_alike cX4_alike 6 (some .boolean) :: zt) B.pre
  have hown : s.vm.findClass RX4 = some m.cls := findClass_of_methodNamed B.named
  have hlocks := B.notSynchronized
  have hS0 : va_S (zA nC b) s.heap s.heap [] := va_S.rf
  have hl := lv_entry ([.ref (b + 86), .int (iI a0), .int (iI a1), .int (iI a2), .int (iI a3)]) (n := 6) (Nat.le_of_ble_eq_true rfl)
  have hent : entryFrame m args 6 = F0 m 0 ((lg_sl ([.ref (b + 86), .int (iI a0), .int (iI a1), .int (iI a2), .int (iI a3)]) ++ List.replicate (6 - (lg_sl ([.ref (b + 86), .int (iI a0), .int (iI a1), .int (iI a2), .int (iI a3)])).length) Slot.unset).toArray) [] := by rw [hargs]; exact lg_entry_eq m ([.ref (b + 86), .int (iI a0), .int (iI a1), .int (iI a2), .int (iI a3)]) 6
  rw [hent]
  generalize (lg_sl ([.ref (b + 86), .int (iI a0), .int (iI a1), .int (iI a2), .int (iI a3)]) ++ List.replicate (6 - (lg_sl ([.ref (b + 86), .int (iI a0), .int (iI a1), .int (iI a2), .int (iI a3)])).length) Slot.unset).toArray = ls at hl ⊢
  have hl : lv_has ls 6 [(0, .ref (b + 86)), (1, .int (iI a0)), (2, .int (iI a1)), (3, .int (iI a2)), (4, .int (iI a3))] := hl
  refine z_iconst hx hb dX4_alike_0 ?_
  refine lv_istore (lv' := [(5, .int (iI 0)), (0, .ref (b + 86)), (1, .int (iI a0)), (2, .int (iI a1)), (3, .int (iI a2)), (4, .int (iI a3))]) hx hb dX4_alike_1 hl (by decide) rfl (fun ls hl => ?_)
  obtain ⟨I2, ⟨n3, h4⟩, h5⟩ := h
  have L6 : ∀ (n7 : Nat) (x1 : Int) (H : Heap) (locs : List Loc) (ls : Array Slot), I2 n7 x1 → zR D dA vwCl wC nC b M H → va_S (zA nC b) s.heap H locs → lv_has ls 6 [(0, .ref (b + 86)), (1, .int (iI a0)), (2, .int (iI a1)), (3, .int (iI a2)), (4, .int (iI a3)), (5, .int (iI x1))] → W p l e (headSpec (.code yX4_alike cX4_alike 6 (some .boolean) :: zt) (z_rm 1)).room s m args below meth c H locs 0 0 (MQ below (va_Qi (wQz (fun z9 u9 => u9 = M ∧ Q z9)) (zB D dA vwCl wC nC b) (zA nC b)) args s 0 0 (zA nC b)) (F0 m 3 ls []) := by
    intro n7
    induction n7 using Nat.strongRecOn with
    | ind n7 i8 =>
      intro x1 H locs ls h hS hS0 hl
      have h := h5 n7 x1 h
      refine lv_iload hx hb dX4_alike_3 (lv_at hl 5 rfl) ?_
      refine lv_iload hx hb dX4_alike_5 (lv_at hl 4 rfl) ?_
      refine w_icmp_ge (tgt := 41) hx hb rfl rfl dX4_alike_7 (by decide) (fun c9 => ?_) (fun c9 => ?_)
      · skip
        have h := h.1 c9
        refine z_iconst hx hb dX4_alike_41 ?_
        exact w_zret hx hb hr hlocks hS hS0 (sI_of (by decide)) (by decide) ⟨rfl, h⟩ dX4_alike_42
      · skip
        have h := h.2 c9
        refine lv_aload_n hx hb dX4_alike_10 rfl (lv_at hl 0 rfl) ?_
        refine w_getr (j2 := 95) hx hb hts (z_memU u4) hown hK.1 hS f4_5 (by decide) (zkd_of (rfl : zcd wC 86 = 38) rfl) (zrf_of (rfl : zcd wC 86 = 38) rfl) (Or.inl (hts _ (z_mem k217))) dX4_alike_11 ?_
        refine lv_iload_n hx hb dX4_alike_14 rfl (lv_at hl 3 rfl) ?_
        refine lv_iload hx hb dX4_alike_15 (lv_at hl 4 rfl) ?_
        refine z_isub hx hb dX4_alike_17 ?_
        refine lv_iload hx hb dX4_alike_18 (lv_at hl 5 rfl) ?_
        refine z_iadd hx hb dX4_alike_20 ?_
        obtain ⟨o10, h⟩ := h
        refine w_iald (n := 40) (i := (sI ((a2 - a3) + x1))) hx hb hK.1 (t0 := 0) rfl hS (by decide) (zkd_of (rfl : zcd wC 95 = 43) rfl) (zln_of (rfl : zcd wC 95 = 43) rfl) rfl o10.1 o10.2 (by decide) dX4_alike_21 ?_
        refine lv_aload_n hx hb dX4_alike_22 rfl (lv_at hl 0 rfl) ?_
        refine lv_iload_n hx hb dX4_alike_23 rfl (lv_at hl 1 rfl) ?_
        refine lv_iload_n hx hb dX4_alike_24 rfl (lv_at hl 2 rfl) ?_
        refine lv_iload hx hb dX4_alike_25 (lv_at hl 5 rfl) ?_
        refine w_calli (va_runV (As := [.int (iI a0), .int (iI a1), .int (iI x1)]) (rest := [.int (iI (M 95 (sI ((a2 - a3) + x1)).toNat))]) ⟨hx, hb, hml, hown, hts⟩ (cC_Pieces_sound l D dA b M a0 a1 x1 _ h) (cwV 3 hts (z_gV k834 k835 k1388 k12 k836) rfl rfl rfl dm_X4_sound ⟨Nat.le_of_ble_eq_true rfl, Nat.le_of_ble_eq_true rfl⟩) ⟨wPre_blind, (w_recv hS hK.1 (by decide) (zkd_of (rfl : zcd wC 86 = 38) rfl) (by decide) (rfl : vwCl[4]? = some (RX4, TX4, 6))), w_pre hS hK⟩ rfl rfl hl.1 rfl (lv_room (Nat.le_of_ble_eq_true rfl)) dX4_alike_27 ⟨Nat.le_refl _, Nat.le_refl _⟩) hS0 (fun z12 M11 H locs r13 h hS hS0 => ?_)
        obtain ⟨e14, h⟩ := h
        rw [e14] at hS
        refine w_icmp_eq (tgt := 35) hx hb rfl (sI_of r13) dX4_alike_30 (by decide) (fun c15 => ?_) (fun c15 => ?_)
        · skip
          have h := h.1 c15
          refine z_iinc (lv' := [(5, .int (iI (x1 + 1))), (0, .ref (b + 86)), (1, .int (iI a0)), (2, .int (iI a1)), (3, .int (iI a2)), (4, .int (iI a3))]) hx hb dX4_alike_35 hl (k := 5) rfl (by decide) rfl (fun ls hl => ?_)
          refine lv_goto (tgt := 3) hx hb dX4_alike_38 (by decide) ?_
          obtain ⟨n16, h17, h⟩ := h
          exact i8 n16 h17 (x1 + 1) _ _ _ h hS hS0 (lv_sub hl [1, 2, 3, 4, 5, 0] rfl)
        · skip
          have h := h.2 c15
          refine z_iconst hx hb dX4_alike_33 ?_
          exact w_zret hx hb hr hlocks hS hS0 (sI_of (by decide)) (by decide) ⟨rfl, h⟩ dX4_alike_34
  exact L6 n3 0 _ _ _ h4 hS hS0 (lv_sub hl [1, 2, 3, 4, 5, 0] rfl)

set_option maxRecDepth 100000 in
def wC_Pieces_layPiece (a0 : Int) (a1 : Int) (a2 : Int) (M : zM) (Q : Int → zM → Prop) : Prop := ((0 ≤ (sI a0) ∧ (sI a0) < 5) ∧ pL1 (fun K12 x2 => pJ0 (fun J35 => ((sI x2) ≤ 0 → J35) ∧ (0 < (sI x2) → wC_Pieces_alike a0 a1 a2 x2 M (fun z43 => (z43 ≠ 0 → J35) ∧ (z43 = 0 → K12 (x2 + (-1)))))) (wL1 (fun K45 x20 M21 => ((0 ≤ (sI a0) ∧ (sI a0) < 5) ∧ ((sI (M21 94 (sI a0).toNat)) ≤ (sI x20) → ((0 ≤ (sI a0) ∧ (sI a0) < 5) ∧ Q (sI ((a2 - x2) + (M21 94 (sI a0).toNat))) M21)) ∧ ((sI x20) < (sI (M21 94 (sI a0).toNat)) → wC_Pieces_sound a0 a1 x20 M21 (fun z33 => ((0 ≤ (sI ((a2 - x2) + x20)) ∧ (sI ((a2 - x2) + x20)) < 40) ∧ (∀ M37 : zM, M37 = zup M21 95 (sI ((a2 - x2) + x20)).toNat z33 → K45 (x20 + 1) M37)))))) x2 M)) (min (sI a2) (sI (M 94 (sI a0).toNat))))
set_option maxHeartbeats 4000000 in
set_option maxRecDepth 100000 in
theorem cC_Pieces_layPiece (l : Launch) (D : va_G) (dA : Nat → ClassId) (b : Nat) (M : zM) (a0 : Int) (a1 : Int) (a2 : Int)  (Q : Int → zM → Prop) (h : wC_Pieces_layPiece a0 a1 a2 M Q) : Met l yX4_layPiece (.code yX4_layPiece cX4_layPiece 7 (some .int) :: zt) (z_rm 2) (va_Pc [.ref (b + 86), .int (iI a0), .int (iI a1), .int (iI a2)] (wPre D dA vwCl (z_tys dA) wC nC b M)) (va_Qi (wQi Q) (zB D dA vwCl wC nC b) (zA nC b)) 0 0 (zA nC b) := by
  unfold wC_Pieces_layPiece at h
  refine Met.ofW (cc := cX4_layPiece) (maxL := 7) (ret := (some .int)) (by decide) rfl ?_
  intro p e s m args below meth c s₁ B hml hv
  obtain ⟨hargs, hS, hK⟩ := hv
  have hx := B.exec
  have hb := B.bytes
  have hr := B.returns
  have hts := atoms_spec (ws := .code yX4_layPiece cX4_layPiece 7 (some .int) :: zt) B.pre
  have hown : s.vm.findClass RX4 = some m.cls := findClass_of_methodNamed B.named
  have hlocks := B.notSynchronized
  have hS0 : va_S (zA nC b) s.heap s.heap [] := va_S.rf
  have hl := lv_entry ([.ref (b + 86), .int (iI a0), .int (iI a1), .int (iI a2)]) (n := 7) (Nat.le_of_ble_eq_true rfl)
  have hent : entryFrame m args 7 = F0 m 0 ((lg_sl ([.ref (b + 86), .int (iI a0), .int (iI a1), .int (iI a2)]) ++ List.replicate (7 - (lg_sl ([.ref (b + 86), .int (iI a0), .int (iI a1), .int (iI a2)])).length) Slot.unset).toArray) [] := by rw [hargs]; exact lg_entry_eq m ([.ref (b + 86), .int (iI a0), .int (iI a1), .int (iI a2)]) 7
  rw [hent]
  generalize (lg_sl ([.ref (b + 86), .int (iI a0), .int (iI a1), .int (iI a2)]) ++ List.replicate (7 - (lg_sl ([.ref (b + 86), .int (iI a0), .int (iI a1), .int (iI a2)])).length) Slot.unset).toArray = ls at hl ⊢
  have hl : lv_has ls 7 [(0, .ref (b + 86)), (1, .int (iI a0)), (2, .int (iI a1)), (3, .int (iI a2))] := hl
  refine lv_iload_n hx hb dX4_layPiece_0 rfl (lv_at hl 3 rfl) ?_
  refine lv_aload_n hx hb dX4_layPiece_1 rfl (lv_at hl 0 rfl) ?_
  refine w_getr (j2 := 94) hx hb hts (z_memU u4) hown hK.1 hS f4_4 (by decide) (zkd_of (rfl : zcd wC 86 = 38) rfl) (zrf_of (rfl : zcd wC 86 = 38) rfl) (Or.inl (hts _ (z_mem k216))) dX4_layPiece_2 ?_
  refine lv_iload_n hx hb dX4_layPiece_5 rfl (lv_at hl 1 rfl) ?_
  obtain ⟨o1, h⟩ := h
  refine w_iald (n := 5) (i := (sI a0)) hx hb hK.1 (t0 := 0) rfl hS (by decide) (zkd_of (rfl : zcd wC 94 = 42) rfl) (zln_of (rfl : zcd wC 94 = 42) rfl) rfl o1.1 o1.2 (by decide) dX4_layPiece_6 ?_
  refine w_mmin hx hb (hml.trans hl.1.symm) hown (hts _ (z_mem k830)) (hts _ (z_mem k320)) (hts _ (z_mem k15)) (hts _ (z_mem k321)) (by exact Nat.le_of_ble_eq_true rfl) (by exact Nat.le_of_ble_eq_true rfl) (by exact Nat.le_refl _) (by exact Nat.le_refl _) rfl rfl dX4_layPiece_7 ?_
  refine lv_istore (lv' := [(4, .int (iI (min (sI a2) (sI (M 94 (sI a0).toNat))))), (0, .ref (b + 86)), (1, .int (iI a0)), (2, .int (iI a1)), (3, .int (iI a2))]) hx hb dX4_layPiece_10 hl (by decide) rfl (fun ls hl => ?_)
  obtain ⟨I3, ⟨n4, h5⟩, h6⟩ := h
  have L7 : ∀ (n8 : Nat) (x2 : Int) (H : Heap) (locs : List Loc) (ls : Array Slot), I3 n8 x2 → zR D dA vwCl wC nC b M H → va_S (zA nC b) s.heap H locs → lv_has ls 7 [(0, .ref (b + 86)), (1, .int (iI a0)), (2, .int (iI a1)), (3, .int (iI a2)), (4, .int (iI x2))] → W p l e (headSpec (.code yX4_layPiece cX4_layPiece 7 (some .int) :: zt) (z_rm 2)).room s m args below meth c H locs 0 0 (MQ below (va_Qi (wQi Q) (zB D dA vwCl wC nC b) (zA nC b)) args s 0 0 (zA nC b)) (F0 m 12 ls []) := by
    intro n8
    induction n8 using Nat.strongRecOn with
    | ind n8 i9 =>
      intro x2 H locs ls h hS hS0 hl
      have h := h6 n8 x2 h
      refine lv_iload hx hb dX4_layPiece_12 (lv_at hl 4 rfl) ?_
      obtain ⟨J35, B19, h⟩ := h
      have L18 : ∀ (H : Heap) (locs : List Loc) (ls : Array Slot), J35 → zR D dA vwCl wC nC b M H → va_S (zA nC b) s.heap H locs → lv_has ls 7 [(0, .ref (b + 86)), (1, .int (iI a0)), (2, .int (iI a1)), (3, .int (iI a2)), (4, .int (iI x2))] → W p l e (headSpec (.code yX4_layPiece cX4_layPiece 7 (some .int) :: zt) (z_rm 2)).room s m args below meth c H locs 0 0 (MQ below (va_Qi (wQi Q) (zB D dA vwCl wC nC b) (zA nC b)) args s 0 0 (zA nC b)) (F0 m 35 ls []) := by
        intro  H locs ls h hS hS0 hl
        have h := B19 h
        refine lv_iload_n hx hb dX4_layPiece_35 rfl (lv_at hl 3 rfl) ?_
        refine lv_iload hx hb dX4_layPiece_36 (lv_at hl 4 rfl) ?_
        refine z_isub hx hb dX4_layPiece_38 ?_
        refine lv_istore (lv' := [(5, .int (iI (a2 - x2))), (0, .ref (b + 86)), (1, .int (iI a0)), (2, .int (iI a1)), (3, .int (iI a2)), (4, .int (iI x2))]) hx hb dX4_layPiece_39 hl (by decide) rfl (fun ls hl => ?_)
        refine lv_iload hx hb dX4_layPiece_41 (lv_at hl 5 rfl) ?_
        refine lv_istore (lv' := [(6, .int (iI x2)), (5, .int (iI (a2 - x2))), (0, .ref (b + 86)), (1, .int (iI a0)), (2, .int (iI a1)), (3, .int (iI a2)), (4, .int (iI x2))]) hx hb dX4_layPiece_43 hl (by decide) rfl (fun ls hl => ?_)
        obtain ⟨I22, ⟨n23, h24⟩, h25⟩ := h
        have L26 : ∀ (n27 : Nat) (x20 : Int) (M21 : zM) (H : Heap) (locs : List Loc) (ls : Array Slot), I22 n27 x20 M21 → zR D dA vwCl wC nC b M21 H → va_S (zA nC b) s.heap H locs → lv_has ls 7 [(0, .ref (b + 86)), (1, .int (iI a0)), (2, .int (iI a1)), (5, .int (iI (a2 - x2))), (6, .int (iI x20))] → W p l e (headSpec (.code yX4_layPiece cX4_layPiece 7 (some .int) :: zt) (z_rm 2)).room s m args below meth c H locs 0 0 (MQ below (va_Qi (wQi Q) (zB D dA vwCl wC nC b) (zA nC b)) args s 0 0 (zA nC b)) (F0 m 45 ls []) := by
          intro n27
          induction n27 using Nat.strongRecOn with
          | ind n27 i28 =>
            intro x20 M21 H locs ls h hS hS0 hl
            have h := h25 n27 x20 M21 h
            refine lv_iload hx hb dX4_layPiece_45 (lv_at hl 4 rfl) ?_
            refine lv_aload_n hx hb dX4_layPiece_47 rfl (lv_at hl 0 rfl) ?_
            refine w_getr (j2 := 94) hx hb hts (z_memU u4) hown hK.1 hS f4_4 (by decide) (zkd_of (rfl : zcd wC 86 = 38) rfl) (zrf_of (rfl : zcd wC 86 = 38) rfl) (Or.inl (hts _ (z_mem k216))) dX4_layPiece_48 ?_
            refine lv_iload_n hx hb dX4_layPiece_51 rfl (lv_at hl 1 rfl) ?_
            obtain ⟨o29, h⟩ := h
            refine w_iald (n := 5) (i := (sI a0)) hx hb hK.1 (t0 := 0) rfl hS (by decide) (zkd_of (rfl : zcd wC 94 = 42) rfl) (zln_of (rfl : zcd wC 94 = 42) rfl) rfl o29.1 o29.2 (by decide) dX4_layPiece_52 ?_
            refine w_icmp_ge (tgt := 80) hx hb rfl rfl dX4_layPiece_53 (by decide) (fun c30 => ?_) (fun c30 => ?_)
            · skip
              have h := h.1 c30
              refine lv_iload hx hb dX4_layPiece_80 (lv_at hl 3 rfl) ?_
              refine lv_aload_n hx hb dX4_layPiece_82 rfl (lv_at hl 0 rfl) ?_
              refine w_getr (j2 := 94) hx hb hts (z_memU u4) hown hK.1 hS f4_4 (by decide) (zkd_of (rfl : zcd wC 86 = 38) rfl) (zrf_of (rfl : zcd wC 86 = 38) rfl) (Or.inl (hts _ (z_mem k216))) dX4_layPiece_83 ?_
              refine lv_iload_n hx hb dX4_layPiece_86 rfl (lv_at hl 1 rfl) ?_
              obtain ⟨o31, h⟩ := h
              refine w_iald (n := 5) (i := (sI a0)) hx hb hK.1 (t0 := 0) rfl hS (by decide) (zkd_of (rfl : zcd wC 94 = 42) rfl) (zln_of (rfl : zcd wC 94 = 42) rfl) rfl o31.1 o31.2 (by decide) dX4_layPiece_87 ?_
              refine z_iadd hx hb dX4_layPiece_88 ?_
              exact w_iret hx hb hr hlocks hS hS0 rfl h dX4_layPiece_89
            · skip
              have h := h.2 c30
              refine lv_aload_n hx hb dX4_layPiece_56 rfl (lv_at hl 0 rfl) ?_
              refine w_getr (j2 := 95) hx hb hts (z_memU u4) hown hK.1 hS f4_5 (by decide) (zkd_of (rfl : zcd wC 86 = 38) rfl) (zrf_of (rfl : zcd wC 86 = 38) rfl) (Or.inl (hts _ (z_mem k217))) dX4_layPiece_57 ?_
              refine lv_iload hx hb dX4_layPiece_60 (lv_at hl 3 rfl) ?_
              refine lv_iload hx hb dX4_layPiece_62 (lv_at hl 4 rfl) ?_
              refine z_iadd hx hb dX4_layPiece_64 ?_
              refine lv_aload_n hx hb dX4_layPiece_65 rfl (lv_at hl 0 rfl) ?_
              refine lv_iload_n hx hb dX4_layPiece_66 rfl (lv_at hl 1 rfl) ?_
              refine lv_iload_n hx hb dX4_layPiece_67 rfl (lv_at hl 2 rfl) ?_
              refine lv_iload hx hb dX4_layPiece_68 (lv_at hl 4 rfl) ?_
              refine w_calli (va_runV (As := [.int (iI a0), .int (iI a1), .int (iI x20)]) (rest := [.int (iI ((a2 - x2) + x20)), .ref (b + 95)]) ⟨hx, hb, hml, hown, hts⟩ (cC_Pieces_sound l D dA b M21 a0 a1 x20 _ h) (cwV 3 hts (z_gV k834 k835 k1388 k12 k836) rfl rfl rfl dm_X4_sound ⟨Nat.le_of_ble_eq_true rfl, Nat.le_of_ble_eq_true rfl⟩) ⟨wPre_blind, (w_recv hS hK.1 (by decide) (zkd_of (rfl : zcd wC 86 = 38) rfl) (by decide) (rfl : vwCl[4]? = some (RX4, TX4, 6))), w_pre hS hK⟩ rfl rfl hl.1 rfl (lv_room (Nat.le_of_ble_eq_true rfl)) dX4_layPiece_70 ⟨Nat.le_refl _, Nat.le_refl _⟩) hS0 (fun z33 M32 H locs r34 h hS hS0 => ?_)
              obtain ⟨e35, h⟩ := h
              rw [e35] at hS
              obtain ⟨o36, h⟩ := h
              refine w_iast (z := z33) (n := 40) (i := (sI ((a2 - x2) + x20))) hx hb hK.1 (t0 := 0) rfl hS hS0 (by decide) (zkd_of (rfl : zcd wC 95 = 43) rfl) (zln_of (rfl : zcd wC 95 = 43) rfl) rfl o36.1 o36.2 (by decide) dX4_layPiece_73 (fun H locs hS hS0 => ?_)
              obtain ⟨M37, e38⟩ : ∃ M37 : zM, M37 = zup M21 95 (sI ((a2 - x2) + x20)).toNat z33 := ⟨_, rfl⟩
              rw [← e38] at hS
              have h := h M37 e38
              refine z_iinc (lv' := [(6, .int (iI (x20 + 1))), (0, .ref (b + 86)), (1, .int (iI a0)), (2, .int (iI a1)), (5, .int (iI (a2 - x2)))]) hx hb dX4_layPiece_74 hl (k := 4) rfl (by decide) rfl (fun ls hl => ?_)
              refine lv_goto (tgt := 45) hx hb dX4_layPiece_77 (by decide) ?_
              obtain ⟨n39, h40, h⟩ := h
              exact i28 n39 h40 (x20 + 1) M37 _ _ _ h hS hS0 (lv_sub hl [1, 2, 3, 4, 0] rfl)
        exact L26 n23 x2 M _ _ _ h24 hS hS0 (lv_sub hl [2, 3, 4, 1, 0] rfl)
      refine w_if_le (tgt := 35) hx hb rfl dX4_layPiece_14 (by decide) (fun c41 => ?_) (fun c41 => ?_)
      · skip
        have h := h.1 c41
        exact L18 _ _ _ h hS hS0 (lv_sub hl [0, 1, 2, 3, 4] rfl)
      · skip
        have h := h.2 c41
        refine lv_aload_n hx hb dX4_layPiece_17 rfl (lv_at hl 0 rfl) ?_
        refine lv_iload_n hx hb dX4_layPiece_18 rfl (lv_at hl 1 rfl) ?_
        refine lv_iload_n hx hb dX4_layPiece_19 rfl (lv_at hl 2 rfl) ?_
        refine lv_iload_n hx hb dX4_layPiece_20 rfl (lv_at hl 3 rfl) ?_
        refine lv_iload hx hb dX4_layPiece_21 (lv_at hl 4 rfl) ?_
        refine w_callz (va_runV (As := [.int (iI a0), .int (iI a1), .int (iI a2), .int (iI x2)]) (rest := []) ⟨hx, hb, hml, hown, hts⟩ (cC_Pieces_alike l D dA b M a0 a1 a2 x2 _ h) (cwV 4 hts (z_gV k831 k832 k1387 k12 k833) rfl rfl rfl dm_X4_alike ⟨Nat.le_of_ble_eq_true rfl, Nat.le_of_ble_eq_true rfl⟩) ⟨wPre_blind, (w_recv hS hK.1 (by decide) (zkd_of (rfl : zcd wC 86 = 38) rfl) (by decide) (rfl : vwCl[4]? = some (RX4, TX4, 6))), w_pre hS hK⟩ rfl rfl hl.1 rfl (lv_room (Nat.le_of_ble_eq_true rfl)) dX4_layPiece_23 ⟨Nat.le_refl _, Nat.le_refl _⟩) hS0 (fun z43 M42 H locs r44 h hS hS0 => ?_)
        obtain ⟨e45, h⟩ := h
        rw [e45] at hS
        refine w_if_ne (tgt := 35) hx hb (sI_01 r44) dX4_layPiece_26 (by decide) (fun c46 => ?_) (fun c46 => ?_)
        · skip
          have h := h.1 c46
          exact L18 _ _ _ h hS hS0 (lv_sub hl [0, 1, 2, 3, 4] rfl)
        · skip
          have h := h.2 c46
          refine z_iinc (lv' := [(4, .int (iI (x2 + (-1)))), (0, .ref (b + 86)), (1, .int (iI a0)), (2, .int (iI a1)), (3, .int (iI a2))]) hx hb dX4_layPiece_29 hl (k := 4) rfl (by decide) rfl (fun ls hl => ?_)
          refine lv_goto (tgt := 12) hx hb dX4_layPiece_32 (by decide) ?_
          obtain ⟨n47, h48, h⟩ := h
          exact i9 n47 h48 (x2 + (-1)) _ _ _ h hS hS0 (lv_sub hl [1, 2, 3, 4, 0] rfl)
  exact L7 n4 (min (sI a2) (sI (M 94 (sI a0).toNat))) _ _ _ h5 hS hS0 (lv_sub hl [1, 2, 3, 4, 0] rfl)

set_option maxRecDepth 100000 in
def wC_Pieces_layRest_F (R9 : Int → Int → Int → zM → (zM → Prop) → Prop) (a1 : Int) (a2 : Int) (a3 : Int) (M : zM) (Q : zM → Prop) : Prop := ((sI a3) ≤ (sI (M 86 2)) → ((sI (M 86 0)) ≤ (sI a1) → wC_Pieces_keepBetter a3 M (fun M3 => Q M3)) ∧ ((sI a1) < (sI (M 86 0)) → ((sI a1) < 5 → wL1 (fun K31 x5 M6 => ((sI (M6 86 0)) ≤ (sI x5) → Q M6) ∧ ((sI x5) < (sI (M6 86 0)) → ((andI (shrI a2 x5) 1) ≠ 0 → K31 (x5 + 1) M6) ∧ ((andI (shrI a2 x5) 1) = 0 → wC_Pieces_layPiece x5 0 a3 M6 (fun z19 M18 => R9 (a1 + 1) (orI a2 (shlI 1 x5)) z19 M18 (fun M21 => wC_Pieces_layPiece x5 1 a3 M21 (fun z23 M22 => R9 (a1 + 1) (orI a2 (shlI 1 x5)) z23 M22 (fun M25 => K31 (x5 + 1) M25))))))) 0 M) ∧ (5 ≤ (sI a1) → wC_Pieces_keepBetter a3 M (fun M28 => Q M28)))) ∧ ((sI (M 86 2)) < (sI a3) → Q M)
set_option maxHeartbeats 4000000 in
set_option maxRecDepth 100000 in
theorem cC_Pieces_layRest_F (dd : Nat) (R9 : Int → Int → Int → zM → (zM → Prop) → Prop) (l : Launch) (D : va_G) (dA : Nat → ClassId) (hdd : 3 ≤ dd) (hrec : ∀ (b : Nat) (M : zM) (a1 : Int) (a2 : Int) (a3 : Int)  (Q : zM → Prop), R9 a1 a2 a3 M Q → Met l yX4_layRest (.code yX4_layRest cX4_layRest 6 none :: zt) (z_rm dd) (va_Pc [.ref (b + 86), .int (iI a1), .int (iI a2), .int (iI a3)] (wPre D dA vwCl (z_tys dA) wC nC b M)) (va_Qv (wQv Q) (zB D dA vwCl wC nC b) (zA nC b)) 0 0 (zA nC b)) (b : Nat) (M : zM) (a1 : Int) (a2 : Int) (a3 : Int)  (Q : zM → Prop) (h : wC_Pieces_layRest_F R9 a1 a2 a3 M Q) : Met l yX4_layRest (.code yX4_layRest cX4_layRest 6 none :: zt) (z_rm (dd + 1)) (va_Pc [.ref (b + 86), .int (iI a1), .int (iI a2), .int (iI a3)] (wPre D dA vwCl (z_tys dA) wC nC b M)) (va_Qv (wQv Q) (zB D dA vwCl wC nC b) (zA nC b)) 0 0 (zA nC b) := by
  unfold wC_Pieces_layRest_F at h
  refine Met.ofW (cc := cX4_layRest) (maxL := 6) (ret := none) (by decide) rfl ?_
  intro p e s m args below meth c s₁ B hml hv
  obtain ⟨hargs, hS, hK⟩ := hv
  have hx := B.exec
  have hb := B.bytes
  have hr := B.returns
  have hts := atoms_spec (ws := .code yX4_layRest cX4_layRest 6 none :: zt) B.pre
  have hown : s.vm.findClass RX4 = some m.cls := findClass_of_methodNamed B.named
  have hlocks := B.notSynchronized
  have hS0 : va_S (zA nC b) s.heap s.heap [] := va_S.rf
  have hl := lv_entry ([.ref (b + 86), .int (iI a1), .int (iI a2), .int (iI a3)]) (n := 6) (Nat.le_of_ble_eq_true rfl)
  have hent : entryFrame m args 6 = F0 m 0 ((lg_sl ([.ref (b + 86), .int (iI a1), .int (iI a2), .int (iI a3)]) ++ List.replicate (6 - (lg_sl ([.ref (b + 86), .int (iI a1), .int (iI a2), .int (iI a3)])).length) Slot.unset).toArray) [] := by rw [hargs]; exact lg_entry_eq m ([.ref (b + 86), .int (iI a1), .int (iI a2), .int (iI a3)]) 6
  rw [hent]
  generalize (lg_sl ([.ref (b + 86), .int (iI a1), .int (iI a2), .int (iI a3)]) ++ List.replicate (6 - (lg_sl ([.ref (b + 86), .int (iI a1), .int (iI a2), .int (iI a3)])).length) Slot.unset).toArray = ls at hl ⊢
  have hl : lv_has ls 6 [(0, .ref (b + 86)), (1, .int (iI a1)), (2, .int (iI a2)), (3, .int (iI a3))] := hl
  refine lv_iload_n hx hb dX4_layRest_0 rfl (lv_at hl 3 rfl) ?_
  refine lv_aload_n hx hb dX4_layRest_1 rfl (lv_at hl 0 rfl) ?_
  refine w_geti hx hb hts (z_memU u4) hown hK.1 hS f4_2 (by decide) (zkd_of (rfl : zcd wC 86 = 38) rfl) (Or.inl (hts _ (z_mem k214))) dX4_layRest_2 ?_
  refine w_icmp_le (tgt := 9) hx hb rfl rfl dX4_layRest_5 (by decide) (fun c1 => ?_) (fun c1 => ?_)
  · skip
    have h := h.1 c1
    refine lv_iload_n hx hb dX4_layRest_9 rfl (lv_at hl 1 rfl) ?_
    refine lv_aload_n hx hb dX4_layRest_10 rfl (lv_at hl 0 rfl) ?_
    refine w_geti hx hb hts (z_memU u4) hown hK.1 hS f4_0 (by decide) (zkd_of (rfl : zcd wC 86 = 38) rfl) (Or.inl (hts _ (z_mem k210))) dX4_layRest_11 ?_
    refine w_icmp_ge (tgt := 22) hx hb rfl rfl dX4_layRest_14 (by decide) (fun c2 => ?_) (fun c2 => ?_)
    · skip
      have h := h.1 c2
      refine lv_aload_n hx hb dX4_layRest_22 rfl (lv_at hl 0 rfl) ?_
      refine lv_iload_n hx hb dX4_layRest_23 rfl (lv_at hl 3 rfl) ?_
      refine w_callv (va_runV (As := [.int (iI a3)]) (rest := []) ⟨hx, hb, hml, hown, hts⟩ (cC_Pieces_keepBetter l D dA b M a3 _ h) (cwV 1 hts (z_gV k820 k821 k1384 k12 k822) rfl rfl rfl dm_X4_keepBetter ⟨by simp only [z_rm, headSpec]; omega, by simp only [z_rm, headSpec]; omega⟩) ⟨wPre_blind, (w_recv hS hK.1 (by decide) (zkd_of (rfl : zcd wC 86 = 38) rfl) (by decide) (rfl : vwCl[4]? = some (RX4, TX4, 6))), w_pre hS hK⟩ rfl rfl hl.1 rfl (lv_room (Nat.le_of_ble_eq_true rfl)) dX4_layRest_24 ⟨Nat.le_refl _, Nat.le_refl _⟩) hS0 (fun M3 H locs h hS hS0 => ?_)
      exact w_vret hx hb hr hlocks hS hS0 h dX4_layRest_27
    · skip
      have h := h.2 c2
      refine lv_iload_n hx hb dX4_layRest_17 rfl (lv_at hl 1 rfl) ?_
      refine z_iconst hx hb dX4_layRest_18 ?_
      refine w_icmp_lt (tgt := 28) hx hb rfl (sI_of (by decide)) dX4_layRest_19 (by decide) (fun c4 => ?_) (fun c4 => ?_)
      · skip
        have h := h.1 c4
        refine z_iconst hx hb dX4_layRest_28 ?_
        refine lv_istore (lv' := [(4, .int (iI 0)), (0, .ref (b + 86)), (1, .int (iI a1)), (2, .int (iI a2)), (3, .int (iI a3))]) hx hb dX4_layRest_29 hl (by decide) rfl (fun ls hl => ?_)
        obtain ⟨I7, ⟨n8, h9⟩, h10⟩ := h
        have L11 : ∀ (n12 : Nat) (x5 : Int) (M6 : zM) (H : Heap) (locs : List Loc) (ls : Array Slot), I7 n12 x5 M6 → zR D dA vwCl wC nC b M6 H → va_S (zA nC b) s.heap H locs → lv_has ls 6 [(0, .ref (b + 86)), (1, .int (iI a1)), (2, .int (iI a2)), (3, .int (iI a3)), (4, .int (iI x5))] → W p l e (headSpec (.code yX4_layRest cX4_layRest 6 none :: zt) (z_rm (dd + 1))).room s m args below meth c H locs 0 0 (MQ below (va_Qv (wQv Q) (zB D dA vwCl wC nC b) (zA nC b)) args s 0 0 (zA nC b)) (F0 m 31 ls []) := by
          intro n12
          induction n12 using Nat.strongRecOn with
          | ind n12 i13 =>
            intro x5 M6 H locs ls h hS hS0 hl
            have h := h10 n12 x5 M6 h
            refine lv_iload hx hb dX4_layRest_31 (lv_at hl 4 rfl) ?_
            refine lv_aload_n hx hb dX4_layRest_33 rfl (lv_at hl 0 rfl) ?_
            refine w_geti hx hb hts (z_memU u4) hown hK.1 hS f4_0 (by decide) (zkd_of (rfl : zcd wC 86 = 38) rfl) (Or.inl (hts _ (z_mem k210))) dX4_layRest_34 ?_
            refine w_icmp_ge (tgt := 97) hx hb rfl rfl dX4_layRest_37 (by decide) (fun c14 => ?_) (fun c14 => ?_)
            · skip
              have h := h.1 c14
              exact w_vret hx hb hr hlocks hS hS0 h dX4_layRest_97
            · skip
              have h := h.2 c14
              refine lv_iload_n hx hb dX4_layRest_40 rfl (lv_at hl 2 rfl) ?_
              refine lv_iload hx hb dX4_layRest_41 (lv_at hl 4 rfl) ?_
              refine w_ishr hx hb dX4_layRest_43 ?_
              refine z_iconst hx hb dX4_layRest_44 ?_
              refine w_iand hx hb dX4_layRest_45 ?_
              refine w_if_ne (tgt := 91) hx hb (sI_of (andI_R _ _)) dX4_layRest_46 (by decide) (fun c15 => ?_) (fun c15 => ?_)
              · skip
                have h := h.1 c15
                refine z_iinc (lv' := [(4, .int (iI (x5 + 1))), (0, .ref (b + 86)), (1, .int (iI a1)), (2, .int (iI a2)), (3, .int (iI a3))]) hx hb dX4_layRest_91 hl (k := 4) rfl (by decide) rfl (fun ls hl => ?_)
                refine lv_goto (tgt := 31) hx hb dX4_layRest_94 (by decide) ?_
                obtain ⟨n16, h17, h⟩ := h
                exact i13 n16 h17 (x5 + 1) M6 _ _ _ h hS hS0 (lv_sub hl [1, 2, 3, 4, 0] rfl)
              · skip
                have h := h.2 c15
                refine lv_iload_n hx hb dX4_layRest_49 rfl (lv_at hl 2 rfl) ?_
                refine z_iconst hx hb dX4_layRest_50 ?_
                refine lv_iload hx hb dX4_layRest_51 (lv_at hl 4 rfl) ?_
                refine w_ishl hx hb dX4_layRest_53 ?_
                refine w_ior hx hb dX4_layRest_54 ?_
                refine lv_istore (lv' := [(5, .int (iI (orI a2 (shlI 1 x5)))), (0, .ref (b + 86)), (1, .int (iI a1)), (2, .int (iI a2)), (3, .int (iI a3)), (4, .int (iI x5))]) hx hb dX4_layRest_55 hl (by decide) rfl (fun ls hl => ?_)
                refine lv_aload_n hx hb dX4_layRest_57 rfl (lv_at hl 1 rfl) ?_
                refine lv_iload_n hx hb dX4_layRest_58 rfl (lv_at hl 2 rfl) ?_
                refine z_iconst hx hb dX4_layRest_59 ?_
                refine z_iadd hx hb dX4_layRest_60 ?_
                refine lv_iload hx hb dX4_layRest_61 (lv_at hl 0 rfl) ?_
                refine lv_aload_n hx hb dX4_layRest_63 rfl (lv_at hl 1 rfl) ?_
                refine lv_iload hx hb dX4_layRest_64 (lv_at hl 5 rfl) ?_
                refine z_iconst hx hb dX4_layRest_66 ?_
                refine lv_iload_n hx hb dX4_layRest_67 rfl (lv_at hl 4 rfl) ?_
                refine w_calli (va_runV (As := [.int (iI x5), .int (iI 0), .int (iI a3)]) (rest := [.int (iI (orI a2 (shlI 1 x5))), .int (iI (a1 + 1)), .ref (b + 86)]) ⟨hx, hb, hml, hown, hts⟩ (cC_Pieces_layPiece l D dA b M6 x5 0 a3 _ h) (cwV 3 hts (z_gV k827 k828 k1386 k12 k829) rfl rfl rfl dm_X4_layPiece ⟨by simp only [z_rm, headSpec]; omega, by simp only [z_rm, headSpec]; omega⟩) ⟨wPre_blind, (w_recv hS hK.1 (by decide) (zkd_of (rfl : zcd wC 86 = 38) rfl) (by decide) (rfl : vwCl[4]? = some (RX4, TX4, 6))), w_pre hS hK⟩ rfl rfl hl.1 rfl (lv_room (Nat.le_of_ble_eq_true rfl)) dX4_layRest_68 ⟨Nat.le_refl _, Nat.le_refl _⟩) hS0 (fun z19 M18 H locs r20 h hS hS0 => ?_)
                refine w_callv (va_runS (As := [.ref (b + 86), .int (iI (a1 + 1)), .int (iI (orI a2 (shlI 1 x5))), .int (iI z19)]) (rest := []) ⟨hx, hb, hml, hown, hts⟩ (hrec b M18 (a1 + 1) (orI a2 (shlI 1 x5)) z19 _ h) (va_cwS 4 hts (z_gS k817 k818 k12 k819) rfl rfl rfl dm_X4_layRest.2 ⟨by simp only [z_rm, headSpec]; omega, by simp only [z_rm, headSpec]; omega⟩) ⟨wPre_blind, w_pre hS hK⟩ rfl rfl hl.1 rfl (lv_room (Nat.le_of_ble_eq_true rfl)) dX4_layRest_71 ⟨Nat.le_refl _, Nat.le_refl _⟩) hS0 (fun M21 H locs h hS hS0 => ?_)
                refine lv_aload_n hx hb dX4_layRest_74 rfl (lv_at hl 1 rfl) ?_
                refine lv_iload_n hx hb dX4_layRest_75 rfl (lv_at hl 2 rfl) ?_
                refine z_iconst hx hb dX4_layRest_76 ?_
                refine z_iadd hx hb dX4_layRest_77 ?_
                refine lv_iload hx hb dX4_layRest_78 (lv_at hl 0 rfl) ?_
                refine lv_aload_n hx hb dX4_layRest_80 rfl (lv_at hl 1 rfl) ?_
                refine lv_iload hx hb dX4_layRest_81 (lv_at hl 5 rfl) ?_
                refine z_iconst hx hb dX4_layRest_83 ?_
                refine lv_iload_n hx hb dX4_layRest_84 rfl (lv_at hl 4 rfl) ?_
                refine w_calli (va_runV (As := [.int (iI x5), .int (iI 1), .int (iI a3)]) (rest := [.int (iI (orI a2 (shlI 1 x5))), .int (iI (a1 + 1)), .ref (b + 86)]) ⟨hx, hb, hml, hown, hts⟩ (cC_Pieces_layPiece l D dA b M21 x5 1 a3 _ h) (cwV 3 hts (z_gV k827 k828 k1386 k12 k829) rfl rfl rfl dm_X4_layPiece ⟨by simp only [z_rm, headSpec]; omega, by simp only [z_rm, headSpec]; omega⟩) ⟨wPre_blind, (w_recv hS hK.1 (by decide) (zkd_of (rfl : zcd wC 86 = 38) rfl) (by decide) (rfl : vwCl[4]? = some (RX4, TX4, 6))), w_pre hS hK⟩ rfl rfl hl.1 rfl (lv_room (Nat.le_of_ble_eq_true rfl)) dX4_layRest_85 ⟨Nat.le_refl _, Nat.le_refl _⟩) hS0 (fun z23 M22 H locs r24 h hS hS0 => ?_)
                refine w_callv (va_runS (As := [.ref (b + 86), .int (iI (a1 + 1)), .int (iI (orI a2 (shlI 1 x5))), .int (iI z23)]) (rest := []) ⟨hx, hb, hml, hown, hts⟩ (hrec b M22 (a1 + 1) (orI a2 (shlI 1 x5)) z23 _ h) (va_cwS 4 hts (z_gS k817 k818 k12 k819) rfl rfl rfl dm_X4_layRest.2 ⟨by simp only [z_rm, headSpec]; omega, by simp only [z_rm, headSpec]; omega⟩) ⟨wPre_blind, w_pre hS hK⟩ rfl rfl hl.1 rfl (lv_room (Nat.le_of_ble_eq_true rfl)) dX4_layRest_88 ⟨Nat.le_refl _, Nat.le_refl _⟩) hS0 (fun M25 H locs h hS hS0 => ?_)
                refine z_iinc (lv' := [(4, .int (iI (x5 + 1))), (5, .int (iI (orI a2 (shlI 1 x5)))), (0, .ref (b + 86)), (1, .int (iI a1)), (2, .int (iI a2)), (3, .int (iI a3))]) hx hb dX4_layRest_91 hl (k := 5) rfl (by decide) rfl (fun ls hl => ?_)
                refine lv_goto (tgt := 31) hx hb dX4_layRest_94 (by decide) ?_
                obtain ⟨n26, h27, h⟩ := h
                exact i13 n26 h27 (x5 + 1) M25 _ _ _ h hS hS0 (lv_sub hl [2, 3, 4, 5, 0] rfl)
        exact L11 n8 0 M _ _ _ h9 hS hS0 (lv_sub hl [1, 2, 3, 4, 0] rfl)
      · skip
        have h := h.2 c4
        refine lv_aload_n hx hb dX4_layRest_22 rfl (lv_at hl 0 rfl) ?_
        refine lv_iload_n hx hb dX4_layRest_23 rfl (lv_at hl 3 rfl) ?_
        refine w_callv (va_runV (As := [.int (iI a3)]) (rest := []) ⟨hx, hb, hml, hown, hts⟩ (cC_Pieces_keepBetter l D dA b M a3 _ h) (cwV 1 hts (z_gV k820 k821 k1384 k12 k822) rfl rfl rfl dm_X4_keepBetter ⟨by simp only [z_rm, headSpec]; omega, by simp only [z_rm, headSpec]; omega⟩) ⟨wPre_blind, (w_recv hS hK.1 (by decide) (zkd_of (rfl : zcd wC 86 = 38) rfl) (by decide) (rfl : vwCl[4]? = some (RX4, TX4, 6))), w_pre hS hK⟩ rfl rfl hl.1 rfl (lv_room (Nat.le_of_ble_eq_true rfl)) dX4_layRest_24 ⟨Nat.le_refl _, Nat.le_refl _⟩) hS0 (fun M28 H locs h hS hS0 => ?_)
        exact w_vret hx hb hr hlocks hS hS0 h dX4_layRest_27
  · skip
    have h := h.2 c1
    exact w_vret hx hb hr hlocks hS hS0 h dX4_layRest_8

def wC_Pieces_layRest : Nat → Int → Int → Int → zM → (zM → Prop) → Prop
  | 0 => fun _ _ _ _ _ => False
  | n + 1 => wC_Pieces_layRest_F (wC_Pieces_layRest n)
set_option maxHeartbeats 4000000 in
set_option maxRecDepth 100000 in
theorem cC_Pieces_layRest (n : Nat) (l : Launch) (D : va_G) (dA : Nat → ClassId) : ∀ (b : Nat) (M : zM) (a1 : Int) (a2 : Int) (a3 : Int)  (Q : zM → Prop), wC_Pieces_layRest n a1 a2 a3 M Q → Met l yX4_layRest (.code yX4_layRest cX4_layRest 6 none :: zt) (z_rm (1 * n + 3)) (va_Pc [.ref (b + 86), .int (iI a1), .int (iI a2), .int (iI a3)] (wPre D dA vwCl (z_tys dA) wC nC b M)) (va_Qv (wQv Q) (zB D dA vwCl wC nC b) (zA nC b)) 0 0 (zA nC b) := by
  induction n with
  | zero => intro b M a1 a2 a3  Q h; exact h.elim
  | succ n ih =>
    intro b M a1 a2 a3  Q h
    rw [show 1 * (n + 1) + 3 = 1 * n + 3 + 0 + 1 from by omega]
    exact cC_Pieces_layRest_F (1 * n + 3) _ l D dA (by omega) ih b M a1 a2 a3  Q h

set_option maxRecDepth 100000 in
def wC_Pieces_joinAll  (M : zM) (Q : Int → zM → Prop) : Prop := (∀ M1 : zM, M1 = zup M 86 2 41 → wC_Pieces_layRest 6 0 0 0 M1 (fun M3 => Q (sI (M3 86 2)) M3))
set_option maxHeartbeats 4000000 in
set_option maxRecDepth 100000 in
theorem cC_Pieces_joinAll (l : Launch) (D : va_G) (dA : Nat → ClassId) (b : Nat) (M : zM)   (Q : Int → zM → Prop) (h : wC_Pieces_joinAll  M Q) : Met l yX4_joinAll (.code yX4_joinAll cX4_joinAll 1 (some .int) :: zt) (z_rm 10) (va_Pc [.ref (b + 86)] (wPre D dA vwCl (z_tys dA) wC nC b M)) (va_Qi (wQi Q) (zB D dA vwCl wC nC b) (zA nC b)) 0 0 (zA nC b) := by
  unfold wC_Pieces_joinAll at h
  refine Met.ofW (cc := cX4_joinAll) (maxL := 1) (ret := (some .int)) (by decide) rfl ?_
  intro p e s m args below meth c s₁ B hml hv
  obtain ⟨hargs, hS, hK⟩ := hv
  have hx := B.exec
  have hb := B.bytes
  have hr := B.returns
  have hts := atoms_spec (ws := .code yX4_joinAll cX4_joinAll 1 (some .int) :: zt) B.pre
  have hown : s.vm.findClass RX4 = some m.cls := findClass_of_methodNamed B.named
  have hlocks := B.notSynchronized
  have hS0 : va_S (zA nC b) s.heap s.heap [] := va_S.rf
  have hl := lv_entry ([.ref (b + 86)]) (n := 1) (Nat.le_of_ble_eq_true rfl)
  have hent : entryFrame m args 1 = F0 m 0 ((lg_sl ([.ref (b + 86)]) ++ List.replicate (1 - (lg_sl ([.ref (b + 86)])).length) Slot.unset).toArray) [] := by rw [hargs]; exact lg_entry_eq m ([.ref (b + 86)]) 1
  rw [hent]
  generalize (lg_sl ([.ref (b + 86)]) ++ List.replicate (1 - (lg_sl ([.ref (b + 86)])).length) Slot.unset).toArray = ls at hl ⊢
  have hl : lv_has ls 1 [(0, .ref (b + 86))] := hl
  refine lv_aload_n hx hb dX4_joinAll_0 rfl (lv_at hl 0 rfl) ?_
  refine z_bipush hx hb (by decide) dX4_joinAll_1 ?_
  refine w_puti hx hb hts (z_memU u4) tyX4 tyX4_ok nmX4 hown hK.1 hS hS0 f4_2 (by decide) (zkd_of (rfl : zcd wC 86 = 38) rfl) (Or.inl (hts _ (z_mem k214))) rfl (z := 41) (by decide +kernel) dX4_joinAll_3 (fun H locs hS hS0 => ?_)
  obtain ⟨M1, e2⟩ : ∃ M1 : zM, M1 = zup M 86 2 41 := ⟨_, rfl⟩
  rw [← e2] at hS
  have h := h M1 e2
  refine lv_aload_n hx hb dX4_joinAll_6 rfl (lv_at hl 0 rfl) ?_
  refine z_iconst hx hb dX4_joinAll_7 ?_
  refine z_iconst hx hb dX4_joinAll_8 ?_
  refine z_iconst hx hb dX4_joinAll_9 ?_
  refine w_callv (va_runS (As := [.ref (b + 86), .int (iI 0), .int (iI 0), .int (iI 0)]) (rest := []) ⟨hx, hb, hml, hown, hts⟩ (cC_Pieces_layRest 6 l D dA b M1 0 0 0 _ h) (va_cwS 4 hts (z_gS k817 k818 k12 k819) rfl rfl rfl dm_X4_layRest.2 ⟨Nat.le_of_ble_eq_true rfl, Nat.le_of_ble_eq_true rfl⟩) ⟨wPre_blind, w_pre hS hK⟩ rfl rfl hl.1 rfl (lv_room (Nat.le_of_ble_eq_true rfl)) dX4_joinAll_10 ⟨Nat.le_refl _, Nat.le_refl _⟩) hS0 (fun M3 H locs h hS hS0 => ?_)
  refine lv_aload_n hx hb dX4_joinAll_13 rfl (lv_at hl 0 rfl) ?_
  refine w_geti hx hb hts (z_memU u4) hown hK.1 hS f4_2 (by decide) (zkd_of (rfl : zcd wC 86 = 38) rfl) (Or.inl (hts _ (z_mem k214))) dX4_joinAll_14 ?_
  exact w_iret hx hb hr hlocks hS hS0 rfl h dX4_joinAll_17

set_option maxRecDepth 100000 in
def wC_join  (M : zM) (Q : Int → zM → Prop) : Prop := wC_Pieces_joinAll  M (fun z2 M1 => wC_tell 87 z2 M1 (fun M4 => Q z2 M4))
set_option maxHeartbeats 4000000 in
set_option maxRecDepth 100000 in
theorem cC_join (l : Launch) (D : va_G) (dA : Nat → ClassId) (b : Nat) (M : zM)   (Q : Int → zM → Prop) (h : wC_join  M Q) : Met l yX11_join (.code yX11_join cX11_join 2 (some .int) :: zt) (z_rm 11) (va_Pc [.ref (b + 0)] (wPre D dA vwCl (z_tys dA) wC nC b M)) (va_Qi (wQi Q) (zB D dA vwCl wC nC b) (zA nC b)) 0 0 (zA nC b) := by
  unfold wC_join at h
  refine Met.ofW (cc := cX11_join) (maxL := 2) (ret := (some .int)) (by decide) rfl ?_
  intro p e s m args below meth c s₁ B hml hv
  obtain ⟨hargs, hS, hK⟩ := hv
  have hx := B.exec
  have hb := B.bytes
  have hr := B.returns
  have hts := atoms_spec (ws := .code yX11_join cX11_join 2 (some .int) :: zt) B.pre
  have hown : s.vm.findClass RX11 = some m.cls := findClass_of_methodNamed B.named
  have hlocks := B.notSynchronized
  have hS0 : va_S (zA nC b) s.heap s.heap [] := va_S.rf
  have hl := lv_entry ([.ref (b + 0)]) (n := 2) (Nat.le_of_ble_eq_true rfl)
  have hent : entryFrame m args 2 = F0 m 0 ((lg_sl ([.ref (b + 0)]) ++ List.replicate (2 - (lg_sl ([.ref (b + 0)])).length) Slot.unset).toArray) [] := by rw [hargs]; exact lg_entry_eq m ([.ref (b + 0)]) 2
  rw [hent]
  generalize (lg_sl ([.ref (b + 0)]) ++ List.replicate (2 - (lg_sl ([.ref (b + 0)])).length) Slot.unset).toArray = ls at hl ⊢
  have hl : lv_has ls 2 [(0, .ref (b + 0))] := hl
  refine lv_aload_n hx hb dX11_join_0 rfl (lv_at hl 0 rfl) ?_
  refine w_getr (j2 := 86) hx hb hts (z_memU u11) hown hK.1 hS f11_7 (by decide) (zkd_of (rfl : zcd wC 0 = 0) rfl) (zrf_of (rfl : zcd wC 0 = 0) rfl) (Or.inl (hts _ (z_mem k249))) dX11_join_1 ?_
  refine w_calli (va_runV (As := []) (rest := []) ⟨hx, hb, hml, hown, hts⟩ (cC_Pieces_joinAll l D dA b M  _ h) (cwV 0 hts (z_gV k813 k814 k815 k12 k816) rfl rfl rfl dm_X4_joinAll ⟨Nat.le_of_ble_eq_true rfl, Nat.le_of_ble_eq_true rfl⟩) ⟨wPre_blind, (w_recv hS hK.1 (by decide) (zkd_of (rfl : zcd wC 86 = 38) rfl) (by decide) (rfl : vwCl[4]? = some (RX4, TX4, 6))), w_pre hS hK⟩ rfl rfl hl.1 rfl (lv_room (Nat.le_of_ble_eq_true rfl)) dX11_join_4 ⟨Nat.le_refl _, Nat.le_refl _⟩) hS0 (fun z2 M1 H locs r3 h hS hS0 => ?_)
  refine lv_istore_n (lv' := [(1, .int (iI z2)), (0, .ref (b + 0))]) hx hb dX11_join_7 rfl hl (by decide) rfl (fun ls hl => ?_)
  refine lv_aload_n hx hb dX11_join_8 rfl (lv_at hl 1 rfl) ?_
  refine lv_aload_n hx hb dX11_join_9 rfl (lv_at hl 1 rfl) ?_
  refine w_getr (j2 := 86) hx hb hts (z_memU u11) hown hK.1 hS f11_7 (by decide) (zkd_of (rfl : zcd wC 0 = 0) rfl) (zrf_of (rfl : zcd wC 0 = 0) rfl) (Or.inl (hts _ (z_mem k249))) dX11_join_10 ?_
  refine w_getr (j2 := 87) hx hb hts (z_memU u4) hown hK.1 hS f4_1 (by decide) (zkd_of (rfl : zcd wC 86 = 38) rfl) (zrf_of (rfl : zcd wC 86 = 38) rfl) (Or.inl (hts _ (z_mem k213))) dX11_join_13 ?_
  refine lv_iload_n hx hb dX11_join_16 rfl (lv_at hl 0 rfl) ?_
  refine w_callv (va_runV (As := [.ref (b + 87), .int (iI z2)]) (rest := []) ⟨hx, hb, hml, hown, hts⟩ (cC_tell l D dA b M1 87 z2 (by decide) (zkd_of (rfl : zcd wC 87 = 39) rfl) (Nat.lt_of_le_of_lt (Nat.le_of_eq (zln_of (rfl : zcd wC 87 = 39) rfl)) (by decide)) _ h) (cwV 2 hts (z_gV k653 k654 k1375 k1 k655) rfl rfl rfl dm_X11_tell ⟨Nat.le_of_ble_eq_true rfl, Nat.le_of_ble_eq_true rfl⟩) ⟨wPre_blind, (w_recv hS hK.1 (by decide) (zkd_of (rfl : zcd wC 0 = 0) rfl) (by decide) (rfl : vwCl[11]? = some (RX11, TX11, 11))), w_pre hS hK⟩ rfl rfl hl.1 rfl (lv_room (Nat.le_of_ble_eq_true rfl)) dX11_join_17 ⟨Nat.le_refl _, Nat.le_refl _⟩) hS0 (fun M4 H locs h hS hS0 => ?_)
  refine lv_iload_n hx hb dX11_join_20 rfl (lv_at hl 0 rfl) ?_
  exact w_iret hx hb hr hlocks hS hS0 (sI_of r3) h dX11_join_21

set_option maxRecDepth 100000 in
def wC_Versions_add (a0 : Nat) (a1 : Int) (a2 : Int) (M : zM) (Q : Int → zM → Prop) : Prop := (16 ≤ (sI (M 96 0)) → Q (-1) M) ∧ ((sI (M 96 0)) < 16 → pJ0 (fun J33 => ((sI (M 96 0)) ≤ 0 → J33) ∧ (0 < (sI (M 96 0)) → ((0 ≤ (sI ((M 96 0) - 1)) ∧ (sI ((M 96 0) - 1)) < 16) ∧ ((sI (M 99 (sI ((M 96 0) - 1)).toNat)) ≤ (sI a2) → J33) ∧ ((sI a2) < (sI (M 99 (sI ((M 96 0) - 1)).toNat)) → Q (-1) M)))) (((0 ≤ (sI (M 96 0)) ∧ (sI (M 96 0)) < 16) ∧ wC_Strip_copy (101 + 2 * (sI (M 96 0)).toNat) a0 M (fun M14 => ((0 ≤ (sI (M14 96 0)) ∧ (sI (M14 96 0)) < 16) ∧ (∀ M16 : zM, M16 = zup M14 98 (sI (M14 96 0)).toNat a1 → ((0 ≤ (sI (M16 96 0)) ∧ (sI (M16 96 0)) < 16) ∧ (∀ M19 : zM, M19 = zup M16 99 (sI (M16 96 0)).toNat a2 → (∀ M21 : zM, M21 = zup M19 96 0 ((M19 96 0) + 1) → Q (sI ((M21 96 0) - 1)) M21)))))))))
set_option maxHeartbeats 4000000 in
set_option maxRecDepth 100000 in
theorem cC_Versions_add (l : Launch) (D : va_G) (dA : Nat → ClassId) (b : Nat) (M : zM) (a0 : Nat) (a1 : Int) (a2 : Int) (lt_a0 : a0 < nC) (cd_a0 : zcd wC a0 = 6) (Q : Int → zM → Prop) (h : wC_Versions_add a0 a1 a2 M Q) : Met l yX10_add (.code yX10_add cX10_add 4 (some .int) :: zt) (z_rm 2) (va_Pc [.ref (b + 96), .ref (b + a0), .int (iI a1), .int (iI a2)] (wPre D dA vwCl (z_tys dA) wC nC b M)) (va_Qi (wQi Q) (zB D dA vwCl wC nC b) (zA nC b)) 0 0 (zA nC b) := by
  unfold wC_Versions_add at h
  refine Met.ofW (cc := cX10_add) (maxL := 4) (ret := (some .int)) (by decide) rfl ?_
  intro p e s m args below meth c s₁ B hml hv
  obtain ⟨hargs, hS, hK⟩ := hv
  have hx := B.exec
  have hb := B.bytes
  have hr := B.returns
  have hts := atoms_spec (ws := .code yX10_add cX10_add 4 (some .int) :: zt) B.pre
  have hown : s.vm.findClass RX10 = some m.cls := findClass_of_methodNamed B.named
  have hlocks := B.notSynchronized
  have hS0 : va_S (zA nC b) s.heap s.heap [] := va_S.rf
  have hl := lv_entry ([.ref (b + 96), .ref (b + a0), .int (iI a1), .int (iI a2)]) (n := 4) (Nat.le_of_ble_eq_true rfl)
  have hent : entryFrame m args 4 = F0 m 0 ((lg_sl ([.ref (b + 96), .ref (b + a0), .int (iI a1), .int (iI a2)]) ++ List.replicate (4 - (lg_sl ([.ref (b + 96), .ref (b + a0), .int (iI a1), .int (iI a2)])).length) Slot.unset).toArray) [] := by rw [hargs]; exact lg_entry_eq m ([.ref (b + 96), .ref (b + a0), .int (iI a1), .int (iI a2)]) 4
  rw [hent]
  generalize (lg_sl ([.ref (b + 96), .ref (b + a0), .int (iI a1), .int (iI a2)]) ++ List.replicate (4 - (lg_sl ([.ref (b + 96), .ref (b + a0), .int (iI a1), .int (iI a2)])).length) Slot.unset).toArray = ls at hl ⊢
  have hl : lv_has ls 4 [(0, .ref (b + 96)), (1, .ref (b + a0)), (2, .int (iI a1)), (3, .int (iI a2))] := hl
  obtain ⟨lt1, cd2⟩ := nx_strip a0 lt_a0 cd_a0
  refine lv_aload_n hx hb dX10_add_0 rfl (lv_at hl 0 rfl) ?_
  refine w_geti hx hb hts (z_memU u10) hown hK.1 hS f10_0 (by decide) (zkd_of (rfl : zcd wC 96 = 44) rfl) (Or.inl (hts _ (z_mem k231))) dX10_add_1 ?_
  refine z_bipush hx hb (by decide) dX10_add_4 ?_
  refine w_icmp_ge (tgt := 31) hx hb rfl (sI_of (by decide)) dX10_add_6 (by decide) (fun c3 => ?_) (fun c3 => ?_)
  · skip
    have h := h.1 c3
    refine z_iconst hx hb dX10_add_31 ?_
    exact w_iret hx hb hr hlocks hS hS0 (sI_of (by decide)) h dX10_add_32
  · skip
    have h := h.2 c3
    refine lv_aload_n hx hb dX10_add_9 rfl (lv_at hl 0 rfl) ?_
    refine w_geti hx hb hts (z_memU u10) hown hK.1 hS f10_0 (by decide) (zkd_of (rfl : zcd wC 96 = 44) rfl) (Or.inl (hts _ (z_mem k231))) dX10_add_10 ?_
    obtain ⟨J33, B8, h⟩ := h
    have L7 : ∀ (H : Heap) (locs : List Loc) (ls : Array Slot), J33 → zR D dA vwCl wC nC b M H → va_S (zA nC b) s.heap H locs → lv_has ls 4 [(0, .ref (b + 96)), (1, .ref (b + a0)), (2, .int (iI a1)), (3, .int (iI a2))] → W p l e (headSpec (.code yX10_add cX10_add 4 (some .int) :: zt) (z_rm 2)).room s m args below meth c H locs 0 0 (MQ below (va_Qi (wQi Q) (zB D dA vwCl wC nC b) (zA nC b)) args s 0 0 (zA nC b)) (F0 m 33 ls []) := by
      intro  H locs ls h hS hS0 hl
      have h := B8 h
      refine lv_aload_n hx hb dX10_add_33 rfl (lv_at hl 0 rfl) ?_
      refine w_getr (j2 := 97) hx hb hts (z_memU u10) hown hK.1 hS f10_1 (by decide) (zkd_of (rfl : zcd wC 96 = 44) rfl) (zrf_of (rfl : zcd wC 96 = 44) rfl) (Or.inl (hts _ (z_mem k233))) dX10_add_34 ?_
      refine lv_aload_n hx hb dX10_add_37 rfl (lv_at hl 0 rfl) ?_
      refine w_geti hx hb hts (z_memU u10) hown hK.1 hS f10_0 (by decide) (zkd_of (rfl : zcd wC 96 = 44) rfl) (Or.inl (hts _ (z_mem k231))) dX10_add_38 ?_
      obtain ⟨o9, h⟩ := h
      refine w_aald (n := 16) (i := (sI (M 96 0))) (j2 := (101 + 2 * (sI (M 96 0)).toNat)) hx hb hK.1 (t0 := 4) (r := 4) (by decide) rfl rfl hS (by decide) (zkd_of (rfl : zcd wC 97 = 45) rfl) (zln_of (rfl : zcd wC 97 = 45) rfl) rfl o9.1 o9.2 (by decide) (zrf_of (rfl : zcd wC 97 = 45) rfl) dX10_add_41 ?_
      obtain ⟨lt10, cd11⟩ : (101 + 2 * (sI (M 96 0)).toNat) < nC ∧ zcd wC (101 + 2 * (sI (M 96 0)).toNat) = 6 := (by decide : ∀ k : Nat, k < 16 → (101 + 2 * k) < nC ∧ zcd wC (101 + 2 * k) = 6) (sI (M 96 0)).toNat (by clear h; have h0 := o9.1; have h1 := o9.2; omega)
      obtain ⟨lt12, cd13⟩ := nx_strip (101 + 2 * (sI (M 96 0)).toNat) lt10 cd11
      refine lv_aload_n hx hb dX10_add_42 rfl (lv_at hl 1 rfl) ?_
      refine w_callv (va_runV (As := [.ref (b + a0)]) (rest := []) ⟨hx, hb, hml, hown, hts⟩ (cC_Strip_copy l D dA b M (101 + 2 * (sI (M 96 0)).toNat) a0 lt10 cd11 lt_a0 cd_a0 _ h) (cwV 1 hts (z_gV k845 k361 k362 k3 k363) rfl rfl rfl dm_X8_copy ⟨Nat.le_of_ble_eq_true rfl, Nat.le_of_ble_eq_true rfl⟩) ⟨wPre_blind, (w_recv hS hK.1 lt10 (zkd_of cd11 rfl) (by decide) (rfl : vwCl[8]? = some (RX8, TX8, 2))), w_pre hS hK⟩ rfl rfl hl.1 rfl (lv_room (Nat.le_of_ble_eq_true rfl)) dX10_add_43 ⟨Nat.le_refl _, Nat.le_refl _⟩) hS0 (fun M14 H locs h hS hS0 => ?_)
      refine lv_aload_n hx hb dX10_add_46 rfl (lv_at hl 0 rfl) ?_
      refine w_getr (j2 := 98) hx hb hts (z_memU u10) hown hK.1 hS f10_2 (by decide) (zkd_of (rfl : zcd wC 96 = 44) rfl) (zrf_of (rfl : zcd wC 96 = 44) rfl) (Or.inl (hts _ (z_mem k234))) dX10_add_47 ?_
      refine lv_aload_n hx hb dX10_add_50 rfl (lv_at hl 0 rfl) ?_
      refine w_geti hx hb hts (z_memU u10) hown hK.1 hS f10_0 (by decide) (zkd_of (rfl : zcd wC 96 = 44) rfl) (Or.inl (hts _ (z_mem k231))) dX10_add_51 ?_
      refine lv_iload_n hx hb dX10_add_54 rfl (lv_at hl 2 rfl) ?_
      obtain ⟨o15, h⟩ := h
      refine w_iast (z := a1) (n := 16) (i := (sI (M14 96 0))) hx hb hK.1 (t0 := 0) rfl hS hS0 (by decide) (zkd_of (rfl : zcd wC 98 = 46) rfl) (zln_of (rfl : zcd wC 98 = 46) rfl) rfl o15.1 o15.2 (by decide) dX10_add_55 (fun H locs hS hS0 => ?_)
      obtain ⟨M16, e17⟩ : ∃ M16 : zM, M16 = zup M14 98 (sI (M14 96 0)).toNat a1 := ⟨_, rfl⟩
      rw [← e17] at hS
      have h := h M16 e17
      refine lv_aload_n hx hb dX10_add_56 rfl (lv_at hl 0 rfl) ?_
      refine w_getr (j2 := 99) hx hb hts (z_memU u10) hown hK.1 hS f10_3 (by decide) (zkd_of (rfl : zcd wC 96 = 44) rfl) (zrf_of (rfl : zcd wC 96 = 44) rfl) (Or.inl (hts _ (z_mem k235))) dX10_add_57 ?_
      refine lv_aload_n hx hb dX10_add_60 rfl (lv_at hl 0 rfl) ?_
      refine w_geti hx hb hts (z_memU u10) hown hK.1 hS f10_0 (by decide) (zkd_of (rfl : zcd wC 96 = 44) rfl) (Or.inl (hts _ (z_mem k231))) dX10_add_61 ?_
      refine lv_iload_n hx hb dX10_add_64 rfl (lv_at hl 3 rfl) ?_
      obtain ⟨o18, h⟩ := h
      refine w_iast (z := a2) (n := 16) (i := (sI (M16 96 0))) hx hb hK.1 (t0 := 0) rfl hS hS0 (by decide) (zkd_of (rfl : zcd wC 99 = 47) rfl) (zln_of (rfl : zcd wC 99 = 47) rfl) rfl o18.1 o18.2 (by decide) dX10_add_65 (fun H locs hS hS0 => ?_)
      obtain ⟨M19, e20⟩ : ∃ M19 : zM, M19 = zup M16 99 (sI (M16 96 0)).toNat a2 := ⟨_, rfl⟩
      rw [← e20] at hS
      have h := h M19 e20
      refine lv_aload_n hx hb dX10_add_66 rfl (lv_at hl 0 rfl) ?_
      refine lv_dup hx hb dX10_add_67 rfl ?_
      refine w_geti hx hb hts (z_memU u10) hown hK.1 hS f10_0 (by decide) (zkd_of (rfl : zcd wC 96 = 44) rfl) (Or.inl (hts _ (z_mem k231))) dX10_add_68 ?_
      refine z_iconst hx hb dX10_add_71 ?_
      refine z_iadd hx hb dX10_add_72 ?_
      refine w_puti hx hb hts (z_memU u10) tyX10 tyX10_ok nmX10 hown hK.1 hS hS0 f10_0 (by decide) (zkd_of (rfl : zcd wC 96 = 44) rfl) (Or.inl (hts _ (z_mem k231))) rfl (z := ((M19 96 0) + 1)) (by decide +kernel) dX10_add_73 (fun H locs hS hS0 => ?_)
      obtain ⟨M21, e22⟩ : ∃ M21 : zM, M21 = zup M19 96 0 ((M19 96 0) + 1) := ⟨_, rfl⟩
      rw [← e22] at hS
      have h := h M21 e22
      refine lv_aload_n hx hb dX10_add_76 rfl (lv_at hl 0 rfl) ?_
      refine w_geti hx hb hts (z_memU u10) hown hK.1 hS f10_0 (by decide) (zkd_of (rfl : zcd wC 96 = 44) rfl) (Or.inl (hts _ (z_mem k231))) dX10_add_77 ?_
      refine z_iconst hx hb dX10_add_80 ?_
      refine z_isub hx hb dX10_add_81 ?_
      exact w_iret hx hb hr hlocks hS hS0 rfl h dX10_add_82
    refine w_if_le (tgt := 33) hx hb rfl dX10_add_13 (by decide) (fun c23 => ?_) (fun c23 => ?_)
    · skip
      have h := h.1 c23
      exact L7 _ _ _ h hS hS0 (lv_sub hl [0, 1, 2, 3] rfl)
    · skip
      have h := h.2 c23
      refine lv_iload_n hx hb dX10_add_16 rfl (lv_at hl 3 rfl) ?_
      refine lv_aload_n hx hb dX10_add_17 rfl (lv_at hl 0 rfl) ?_
      refine w_getr (j2 := 99) hx hb hts (z_memU u10) hown hK.1 hS f10_3 (by decide) (zkd_of (rfl : zcd wC 96 = 44) rfl) (zrf_of (rfl : zcd wC 96 = 44) rfl) (Or.inl (hts _ (z_mem k235))) dX10_add_18 ?_
      refine lv_aload_n hx hb dX10_add_21 rfl (lv_at hl 0 rfl) ?_
      refine w_geti hx hb hts (z_memU u10) hown hK.1 hS f10_0 (by decide) (zkd_of (rfl : zcd wC 96 = 44) rfl) (Or.inl (hts _ (z_mem k231))) dX10_add_22 ?_
      refine z_iconst hx hb dX10_add_25 ?_
      refine z_isub hx hb dX10_add_26 ?_
      obtain ⟨o24, h⟩ := h
      refine w_iald (n := 16) (i := (sI ((M 96 0) - 1))) hx hb hK.1 (t0 := 0) rfl hS (by decide) (zkd_of (rfl : zcd wC 99 = 47) rfl) (zln_of (rfl : zcd wC 99 = 47) rfl) rfl o24.1 o24.2 (by decide) dX10_add_27 ?_
      refine w_icmp_ge (tgt := 33) hx hb rfl rfl dX10_add_28 (by decide) (fun c25 => ?_) (fun c25 => ?_)
      · skip
        have h := h.1 c25
        exact L7 _ _ _ h hS hS0 (lv_sub hl [0, 1, 2, 3] rfl)
      · skip
        have h := h.2 c25
        refine z_iconst hx hb dX10_add_31 ?_
        exact w_iret hx hb hr hlocks hS hS0 (sI_of (by decide)) h dX10_add_32

set_option maxRecDepth 100000 in
def wC_keep (a0 : Int) (a1 : Int) (M : zM) (Q : Int → zM → Prop) : Prop := wC_Studio_find a0 M (fun z2 => (z2 = none → Q (-1) M) ∧ (∀ q4, z2 = some q4 → (q4 < nC ∧ zcd wC q4 = 14) ∧ (wC_within a1 0 999 M (fun z14 => (z14 ≠ 0 → wC_Versions_add (q4 + 1) a0 a1 M (fun z19 M18 => Q z19 M18)) ∧ (z14 = 0 → Q (-1) M)))))
set_option maxHeartbeats 4000000 in
set_option maxRecDepth 100000 in
theorem cC_keep (l : Launch) (D : va_G) (dA : Nat → ClassId) (b : Nat) (M : zM) (a0 : Int) (a1 : Int)  (Q : Int → zM → Prop) (h : wC_keep a0 a1 M Q) : Met l yX11_keep (.code yX11_keep cX11_keep 4 (some .int) :: zt) (z_rm 3) (va_Pc [.ref (b + 0), .int (iI a0), .int (iI a1)] (wPre D dA vwCl (z_tys dA) wC nC b M)) (va_Qi (wQi Q) (zB D dA vwCl wC nC b) (zA nC b)) 0 0 (zA nC b) := by
  unfold wC_keep at h
  refine Met.ofW (cc := cX11_keep) (maxL := 4) (ret := (some .int)) (by decide) rfl ?_
  intro p e s m args below meth c s₁ B hml hv
  obtain ⟨hargs, hS, hK⟩ := hv
  have hx := B.exec
  have hb := B.bytes
  have hr := B.returns
  have hts := atoms_spec (ws := .code yX11_keep cX11_keep 4 (some .int) :: zt) B.pre
  have hown : s.vm.findClass RX11 = some m.cls := findClass_of_methodNamed B.named
  have hlocks := B.notSynchronized
  have hS0 : va_S (zA nC b) s.heap s.heap [] := va_S.rf
  have hl := lv_entry ([.ref (b + 0), .int (iI a0), .int (iI a1)]) (n := 4) (Nat.le_of_ble_eq_true rfl)
  have hent : entryFrame m args 4 = F0 m 0 ((lg_sl ([.ref (b + 0), .int (iI a0), .int (iI a1)]) ++ List.replicate (4 - (lg_sl ([.ref (b + 0), .int (iI a0), .int (iI a1)])).length) Slot.unset).toArray) [] := by rw [hargs]; exact lg_entry_eq m ([.ref (b + 0), .int (iI a0), .int (iI a1)]) 4
  rw [hent]
  generalize (lg_sl ([.ref (b + 0), .int (iI a0), .int (iI a1)]) ++ List.replicate (4 - (lg_sl ([.ref (b + 0), .int (iI a0), .int (iI a1)])).length) Slot.unset).toArray = ls at hl ⊢
  have hl : lv_has ls 4 [(0, .ref (b + 0)), (1, .int (iI a0)), (2, .int (iI a1))] := hl
  refine lv_aload_n hx hb dX11_keep_0 rfl (lv_at hl 0 rfl) ?_
  refine w_getr (j2 := 32) hx hb hts (z_memU u11) hown hK.1 hS f11_2 (by decide) (zkd_of (rfl : zcd wC 0 = 0) rfl) (zrf_of (rfl : zcd wC 0 = 0) rfl) (Or.inl (hts _ (z_mem k244))) dX11_keep_1 ?_
  refine lv_iload_n hx hb dX11_keep_4 rfl (lv_at hl 1 rfl) ?_
  refine w_callq (va_runV (As := [.int (iI a0)]) (rest := []) ⟨hx, hb, hml, hown, hts⟩ (cC_Studio_find l D dA b M a0 _ h) (cwV 1 hts (z_gV k411 k412 k413 k4 k414) rfl rfl rfl dm_X9_find ⟨Nat.le_of_ble_eq_true rfl, Nat.le_of_ble_eq_true rfl⟩) ⟨wPre_blind, (w_recv hS hK.1 (by decide) (zkd_of (rfl : zcd wC 32 = 8) rfl) (by decide) (rfl : vwCl[9]? = some (RX9, TX9, 3))), w_pre hS hK⟩ rfl rfl hl.1 rfl (lv_room (Nat.le_of_ble_eq_true rfl)) dX11_keep_5 ⟨Nat.le_refl _, Nat.le_refl _⟩) hS0 (fun z2 M1 H locs h hS hS0 => ?_)
  obtain ⟨e3, h⟩ := h
  rw [e3] at hS
  rcases z2 with _ | q4
  · skip
    have h := h.1 rfl
    refine lv_astore_nN (lv' := [(3, .null), (0, .ref (b + 0)), (1, .int (iI a0)), (2, .int (iI a1))]) hx hb dX11_keep_8 rfl hl (by decide) rfl (fun ls hl => ?_)
    refine lv_aload_nN hx hb dX11_keep_9 rfl (lv_at hl 0 rfl) ?_
    refine lv_ifnullN (tgt := 24) hx hb dX11_keep_10 (by decide) ?_
    refine z_iconst hx hb dX11_keep_24 ?_
    exact w_iret hx hb hr hlocks hS hS0 (sI_of (by decide)) h dX11_keep_25
  · skip
    obtain ⟨⟨lt5, cd6⟩, h⟩ := h.2 q4 rfl
    obtain ⟨lt7, cd8, lt9, cd10, lt11, cd12⟩ := nx_ring q4 lt5 cd6
    refine lv_astore_n (lv' := [(3, .ref (b + q4)), (0, .ref (b + 0)), (1, .int (iI a0)), (2, .int (iI a1))]) hx hb dX11_keep_8 rfl hl (by decide) rfl (fun ls hl => ?_)
    refine lv_aload_n hx hb dX11_keep_9 rfl (lv_at hl 0 rfl) ?_
    refine lv_ifnull hx hb dX11_keep_10 ?_
    refine lv_iload_n hx hb dX11_keep_13 rfl (lv_at hl 3 rfl) ?_
    refine z_iconst hx hb dX11_keep_14 ?_
    refine z_sipush hx hb (by decide) dX11_keep_15 ?_
    refine w_callz (va_runS (As := [.int (iI a1), .int (iI 0), .int (iI 999)]) (rest := []) ⟨hx, hb, hml, hown, hts⟩ (cC_within l D dA b M a1 0 999 _ h) (va_cwS 3 hts (z_gS k382 k383 k1 k384) rfl rfl rfl dm_X11_within.2 ⟨Nat.le_of_ble_eq_true rfl, Nat.le_of_ble_eq_true rfl⟩) ⟨wPre_blind, w_pre hS hK⟩ rfl rfl hl.1 rfl (lv_room (Nat.le_of_ble_eq_true rfl)) dX11_keep_18 ⟨Nat.le_refl _, Nat.le_refl _⟩) hS0 (fun z14 M13 H locs r15 h hS hS0 => ?_)
    obtain ⟨e16, h⟩ := h
    rw [e16] at hS
    refine w_if_ne (tgt := 26) hx hb (sI_01 r15) dX11_keep_21 (by decide) (fun c17 => ?_) (fun c17 => ?_)
    · skip
      have h := h.1 c17
      refine lv_aload_n hx hb dX11_keep_26 rfl (lv_at hl 1 rfl) ?_
      refine w_getr (j2 := 96) hx hb hts (z_memU u11) hown hK.1 hS f11_8 (by decide) (zkd_of (rfl : zcd wC 0 = 0) rfl) (zrf_of (rfl : zcd wC 0 = 0) rfl) (Or.inl (hts _ (z_mem k250))) dX11_keep_27 ?_
      refine lv_aload_n hx hb dX11_keep_30 rfl (lv_at hl 0 rfl) ?_
      refine w_getr (j2 := (q4 + 1)) hx hb hts (z_memU u6) hown hK.1 hS f6_0 lt5 (zkd_of cd6 rfl) (zrf_of cd6 rfl) (Or.inl (hts _ (z_mem k96))) dX11_keep_31 ?_
      refine lv_iload_n hx hb dX11_keep_34 rfl (lv_at hl 2 rfl) ?_
      refine lv_iload_n hx hb dX11_keep_35 rfl (lv_at hl 3 rfl) ?_
      refine w_calli (va_runV (As := [.ref (b + (q4 + 1)), .int (iI a0), .int (iI a1)]) (rest := []) ⟨hx, hb, hml, hown, hts⟩ (cC_Versions_add l D dA b M (q4 + 1) a0 a1 lt7 cd8 _ h) (cwV 3 hts (z_gV k841 k842 k843 k13 k844) rfl rfl rfl dm_X10_add ⟨Nat.le_of_ble_eq_true rfl, Nat.le_of_ble_eq_true rfl⟩) ⟨wPre_blind, (w_recv hS hK.1 (by decide) (zkd_of (rfl : zcd wC 96 = 44) rfl) (by decide) (rfl : vwCl[10]? = some (RX10, TX10, 5))), w_pre hS hK⟩ rfl rfl hl.1 rfl (lv_room (Nat.le_of_ble_eq_true rfl)) dX11_keep_36 ⟨Nat.le_refl _, Nat.le_refl _⟩) hS0 (fun z19 M18 H locs r20 h hS hS0 => ?_)
      exact w_iret hx hb hr hlocks hS hS0 (sI_of r20) h dX11_keep_39
    · skip
      have h := h.2 c17
      refine z_iconst hx hb dX11_keep_24 ?_
      exact w_iret hx hb hr hlocks hS hS0 (sI_of (by decide)) h dX11_keep_25

set_option maxRecDepth 100000 in
def wC_Versions_latest (a0 : Int) (a1 : Int) (M : zM) (Q : Int → Prop) : Prop := pL1 (fun K7 x1 => ((sI x1) < 0 → Q (-1)) ∧ (0 ≤ (sI x1) → ((0 ≤ (sI x1) ∧ (sI x1) < 16) ∧ ((sI (M 98 (sI x1).toNat)) ≠ (sI a0) → K7 (x1 + (-1))) ∧ ((sI (M 98 (sI x1).toNat)) = (sI a0) → ((0 ≤ (sI x1) ∧ (sI x1) < 16) ∧ ((sI a1) < (sI (M 99 (sI x1).toNat)) → K7 (x1 + (-1))) ∧ ((sI (M 99 (sI x1).toNat)) ≤ (sI a1) → Q (sI x1))))))) ((M 96 0) - 1)
set_option maxHeartbeats 4000000 in
set_option maxRecDepth 100000 in
theorem cC_Versions_latest (l : Launch) (D : va_G) (dA : Nat → ClassId) (b : Nat) (M : zM) (a0 : Int) (a1 : Int)  (Q : Int → Prop) (h : wC_Versions_latest a0 a1 M Q) : Met l yX10_latest (.code yX10_latest cX10_latest 4 (some .int) :: zt) (z_rm 0) (va_Pc [.ref (b + 96), .int (iI a0), .int (iI a1)] (wPre D dA vwCl (z_tys dA) wC nC b M)) (va_Qi (wQi (fun z9 u9 => u9 = M ∧ Q z9)) (zB D dA vwCl wC nC b) (zA nC b)) 0 0 (zA nC b) := by
  unfold wC_Versions_latest at h
  refine Met.ofW (cc := cX10_latest) (maxL := 4) (ret := (some .int)) (by decide) rfl ?_
  intro p e s m args below meth c s₁ B hml hv
  obtain ⟨hargs, hS, hK⟩ := hv
  have hx := B.exec
  have hb := B.bytes
  have hr := B.returns
  have hts := atoms_spec (ws := .code yX10_latest cX10_latest 4 (some .int) :: zt) B.pre
  have hown : s.vm.findClass RX10 = some m.cls := findClass_of_methodNamed B.named
  have hlocks := B.notSynchronized
  have hS0 : va_S (zA nC b) s.heap s.heap [] := va_S.rf
  have hl := lv_entry ([.ref (b + 96), .int (iI a0), .int (iI a1)]) (n := 4) (Nat.le_of_ble_eq_true rfl)
  have hent : entryFrame m args 4 = F0 m 0 ((lg_sl ([.ref (b + 96), .int (iI a0), .int (iI a1)]) ++ List.replicate (4 - (lg_sl ([.ref (b + 96), .int (iI a0), .int (iI a1)])).length) Slot.unset).toArray) [] := by rw [hargs]; exact lg_entry_eq m ([.ref (b + 96), .int (iI a0), .int (iI a1)]) 4
  rw [hent]
  generalize (lg_sl ([.ref (b + 96), .int (iI a0), .int (iI a1)]) ++ List.replicate (4 - (lg_sl ([.ref (b + 96), .int (iI a0), .int (iI a1)])).length) Slot.unset).toArray = ls at hl ⊢
  have hl : lv_has ls 4 [(0, .ref (b + 96)), (1, .int (iI a0)), (2, .int (iI a1))] := hl
  refine lv_aload_n hx hb dX10_latest_0 rfl (lv_at hl 0 rfl) ?_
  refine w_geti hx hb hts (z_memU u10) hown hK.1 hS f10_0 (by decide) (zkd_of (rfl : zcd wC 96 = 44) rfl) (Or.inl (hts _ (z_mem k231))) dX10_latest_1 ?_
  refine z_iconst hx hb dX10_latest_4 ?_
  refine z_isub hx hb dX10_latest_5 ?_
  refine lv_istore_n (lv' := [(3, .int (iI ((M 96 0) - 1))), (0, .ref (b + 96)), (1, .int (iI a0)), (2, .int (iI a1))]) hx hb dX10_latest_6 rfl hl (by decide) rfl (fun ls hl => ?_)
  obtain ⟨I2, ⟨n3, h4⟩, h5⟩ := h
  have L6 : ∀ (n7 : Nat) (x1 : Int) (H : Heap) (locs : List Loc) (ls : Array Slot), I2 n7 x1 → zR D dA vwCl wC nC b M H → va_S (zA nC b) s.heap H locs → lv_has ls 4 [(0, .ref (b + 96)), (1, .int (iI a0)), (2, .int (iI a1)), (3, .int (iI x1))] → W p l e (headSpec (.code yX10_latest cX10_latest 4 (some .int) :: zt) (z_rm 0)).room s m args below meth c H locs 0 0 (MQ below (va_Qi (wQi (fun z9 u9 => u9 = M ∧ Q z9)) (zB D dA vwCl wC nC b) (zA nC b)) args s 0 0 (zA nC b)) (F0 m 7 ls []) := by
    intro n7
    induction n7 using Nat.strongRecOn with
    | ind n7 i8 =>
      intro x1 H locs ls h hS hS0 hl
      have h := h5 n7 x1 h
      refine lv_iload_n hx hb dX10_latest_7 rfl (lv_at hl 3 rfl) ?_
      refine w_if_lt (tgt := 39) hx hb rfl dX10_latest_8 (by decide) (fun c9 => ?_) (fun c9 => ?_)
      · skip
        have h := h.1 c9
        refine z_iconst hx hb dX10_latest_39 ?_
        exact w_iret hx hb hr hlocks hS hS0 (sI_of (by decide)) ⟨rfl, h⟩ dX10_latest_40
      · skip
        have h := h.2 c9
        refine lv_aload_n hx hb dX10_latest_11 rfl (lv_at hl 0 rfl) ?_
        refine w_getr (j2 := 98) hx hb hts (z_memU u10) hown hK.1 hS f10_2 (by decide) (zkd_of (rfl : zcd wC 96 = 44) rfl) (zrf_of (rfl : zcd wC 96 = 44) rfl) (Or.inl (hts _ (z_mem k234))) dX10_latest_12 ?_
        refine lv_iload_n hx hb dX10_latest_15 rfl (lv_at hl 3 rfl) ?_
        obtain ⟨o10, h⟩ := h
        refine w_iald (n := 16) (i := (sI x1)) hx hb hK.1 (t0 := 0) rfl hS (by decide) (zkd_of (rfl : zcd wC 98 = 46) rfl) (zln_of (rfl : zcd wC 98 = 46) rfl) rfl o10.1 o10.2 (by decide) dX10_latest_16 ?_
        refine lv_iload_n hx hb dX10_latest_17 rfl (lv_at hl 1 rfl) ?_
        refine w_icmp_ne (tgt := 33) hx hb rfl rfl dX10_latest_18 (by decide) (fun c11 => ?_) (fun c11 => ?_)
        · skip
          have h := h.1 c11
          refine z_iinc (lv' := [(3, .int (iI (x1 + (-1)))), (0, .ref (b + 96)), (1, .int (iI a0)), (2, .int (iI a1))]) hx hb dX10_latest_33 hl (k := 3) rfl (by decide) rfl (fun ls hl => ?_)
          refine lv_goto (tgt := 7) hx hb dX10_latest_36 (by decide) ?_
          obtain ⟨n12, h13, h⟩ := h
          exact i8 n12 h13 (x1 + (-1)) _ _ _ h hS hS0 (lv_sub hl [1, 2, 3, 0] rfl)
        · skip
          have h := h.2 c11
          refine lv_aload_n hx hb dX10_latest_21 rfl (lv_at hl 0 rfl) ?_
          refine w_getr (j2 := 99) hx hb hts (z_memU u10) hown hK.1 hS f10_3 (by decide) (zkd_of (rfl : zcd wC 96 = 44) rfl) (zrf_of (rfl : zcd wC 96 = 44) rfl) (Or.inl (hts _ (z_mem k235))) dX10_latest_22 ?_
          refine lv_iload_n hx hb dX10_latest_25 rfl (lv_at hl 3 rfl) ?_
          obtain ⟨o14, h⟩ := h
          refine w_iald (n := 16) (i := (sI x1)) hx hb hK.1 (t0 := 0) rfl hS (by decide) (zkd_of (rfl : zcd wC 99 = 47) rfl) (zln_of (rfl : zcd wC 99 = 47) rfl) rfl o14.1 o14.2 (by decide) dX10_latest_26 ?_
          refine lv_iload_n hx hb dX10_latest_27 rfl (lv_at hl 2 rfl) ?_
          refine w_icmp_gt (tgt := 33) hx hb rfl rfl dX10_latest_28 (by decide) (fun c15 => ?_) (fun c15 => ?_)
          · skip
            have h := h.1 c15
            refine z_iinc (lv' := [(3, .int (iI (x1 + (-1)))), (0, .ref (b + 96)), (1, .int (iI a0)), (2, .int (iI a1))]) hx hb dX10_latest_33 hl (k := 3) rfl (by decide) rfl (fun ls hl => ?_)
            refine lv_goto (tgt := 7) hx hb dX10_latest_36 (by decide) ?_
            obtain ⟨n16, h17, h⟩ := h
            exact i8 n16 h17 (x1 + (-1)) _ _ _ h hS hS0 (lv_sub hl [1, 2, 3, 0] rfl)
          · skip
            have h := h.2 c15
            refine lv_iload_n hx hb dX10_latest_31 rfl (lv_at hl 3 rfl) ?_
            exact w_iret hx hb hr hlocks hS hS0 rfl ⟨rfl, h⟩ dX10_latest_32
  exact L6 n3 ((M 96 0) - 1) _ _ _ h4 hS hS0 (lv_sub hl [1, 2, 3, 0] rfl)

set_option maxRecDepth 100000 in
def wC_known (a0 : Int) (a1 : Int) (M : zM) (Q : Int → Prop) : Prop := wC_Versions_latest a0 a1 M (fun z2 => Q z2)
set_option maxHeartbeats 4000000 in
set_option maxRecDepth 100000 in
theorem cC_known (l : Launch) (D : va_G) (dA : Nat → ClassId) (b : Nat) (M : zM) (a0 : Int) (a1 : Int)  (Q : Int → Prop) (h : wC_known a0 a1 M Q) : Met l yX11_known (.code yX11_known cX11_known 3 (some .int) :: zt) (z_rm 1) (va_Pc [.ref (b + 0), .int (iI a0), .int (iI a1)] (wPre D dA vwCl (z_tys dA) wC nC b M)) (va_Qi (wQi (fun z9 u9 => u9 = M ∧ Q z9)) (zB D dA vwCl wC nC b) (zA nC b)) 0 0 (zA nC b) := by
  unfold wC_known at h
  refine Met.ofW (cc := cX11_known) (maxL := 3) (ret := (some .int)) (by decide) rfl ?_
  intro p e s m args below meth c s₁ B hml hv
  obtain ⟨hargs, hS, hK⟩ := hv
  have hx := B.exec
  have hb := B.bytes
  have hr := B.returns
  have hts := atoms_spec (ws := .code yX11_known cX11_known 3 (some .int) :: zt) B.pre
  have hown : s.vm.findClass RX11 = some m.cls := findClass_of_methodNamed B.named
  have hlocks := B.notSynchronized
  have hS0 : va_S (zA nC b) s.heap s.heap [] := va_S.rf
  have hl := lv_entry ([.ref (b + 0), .int (iI a0), .int (iI a1)]) (n := 3) (Nat.le_of_ble_eq_true rfl)
  have hent : entryFrame m args 3 = F0 m 0 ((lg_sl ([.ref (b + 0), .int (iI a0), .int (iI a1)]) ++ List.replicate (3 - (lg_sl ([.ref (b + 0), .int (iI a0), .int (iI a1)])).length) Slot.unset).toArray) [] := by rw [hargs]; exact lg_entry_eq m ([.ref (b + 0), .int (iI a0), .int (iI a1)]) 3
  rw [hent]
  generalize (lg_sl ([.ref (b + 0), .int (iI a0), .int (iI a1)]) ++ List.replicate (3 - (lg_sl ([.ref (b + 0), .int (iI a0), .int (iI a1)])).length) Slot.unset).toArray = ls at hl ⊢
  have hl : lv_has ls 3 [(0, .ref (b + 0)), (1, .int (iI a0)), (2, .int (iI a1))] := hl
  refine lv_aload_n hx hb dX11_known_0 rfl (lv_at hl 0 rfl) ?_
  refine w_getr (j2 := 96) hx hb hts (z_memU u11) hown hK.1 hS f11_8 (by decide) (zkd_of (rfl : zcd wC 0 = 0) rfl) (zrf_of (rfl : zcd wC 0 = 0) rfl) (Or.inl (hts _ (z_mem k250))) dX11_known_1 ?_
  refine lv_iload_n hx hb dX11_known_4 rfl (lv_at hl 1 rfl) ?_
  refine lv_iload_n hx hb dX11_known_5 rfl (lv_at hl 2 rfl) ?_
  refine w_calli (va_runV (As := [.int (iI a0), .int (iI a1)]) (rest := []) ⟨hx, hb, hml, hown, hts⟩ (cC_Versions_latest l D dA b M a0 a1 _ h) (cwV 2 hts (z_gV k850 k851 k852 k13 k853) rfl rfl rfl dm_X10_latest ⟨Nat.le_of_ble_eq_true rfl, Nat.le_of_ble_eq_true rfl⟩) ⟨wPre_blind, (w_recv hS hK.1 (by decide) (zkd_of (rfl : zcd wC 96 = 44) rfl) (by decide) (rfl : vwCl[10]? = some (RX10, TX10, 5))), w_pre hS hK⟩ rfl rfl hl.1 rfl (lv_room (Nat.le_of_ble_eq_true rfl)) dX11_known_6 ⟨Nat.le_refl _, Nat.le_refl _⟩) hS0 (fun z2 M1 H locs r3 h hS hS0 => ?_)
  obtain ⟨e4, h⟩ := h
  rw [e4] at hS
  exact w_iret hx hb hr hlocks hS hS0 (sI_of r3) ⟨rfl, h⟩ dX11_known_9

set_option maxRecDepth 100000 in
def wC_Versions_find (a0 : Int) (M : zM) (Q : Option Nat → Prop) : Prop := ((sI a0) < 0 → Q none) ∧ (0 ≤ (sI a0) → ((sI (M 96 0)) ≤ (sI a0) → Q none) ∧ ((sI a0) < (sI (M 96 0)) → (16 ≤ (sI a0) → Q none) ∧ ((sI a0) < 16 → ((0 ≤ (sI a0) ∧ (sI a0) < 16) ∧ Q (some (101 + 2 * (sI a0).toNat))))))
set_option maxHeartbeats 4000000 in
set_option maxRecDepth 100000 in
theorem cC_Versions_find (l : Launch) (D : va_G) (dA : Nat → ClassId) (b : Nat) (M : zM) (a0 : Int)  (Q : Option Nat → Prop) (h : wC_Versions_find a0 M Q) : Met l yX10_find (.code yX10_find cX10_find 2 (some (.object "TapeRings$Strip")) :: zt) (z_rm 0) (va_Pc [.ref (b + 96), .int (iI a0)] (wPre D dA vwCl (z_tys dA) wC nC b M)) (va_Qq (wQq b (fun z9 u9 => u9 = M ∧ Q z9)) (zB D dA vwCl wC nC b) (zA nC b)) 0 0 (zA nC b) := by
  unfold wC_Versions_find at h
  refine Met.ofW (cc := cX10_find) (maxL := 2) (ret := (some (.object "TapeRings$Strip"))) (by decide) rfl ?_
  intro p e s m args below meth c s₁ B hml hv
  obtain ⟨hargs, hS, hK⟩ := hv
  have hx := B.exec
  have hb := B.bytes
  have hr := B.returns
  have hts := atoms_spec (ws := .code yX10_find cX10_find 2 (some (.object "TapeRings$Strip")) :: zt) B.pre
  have hown : s.vm.findClass RX10 = some m.cls := findClass_of_methodNamed B.named
  have hlocks := B.notSynchronized
  have hS0 : va_S (zA nC b) s.heap s.heap [] := va_S.rf
  have hl := lv_entry ([.ref (b + 96), .int (iI a0)]) (n := 2) (Nat.le_of_ble_eq_true rfl)
  have hent : entryFrame m args 2 = F0 m 0 ((lg_sl ([.ref (b + 96), .int (iI a0)]) ++ List.replicate (2 - (lg_sl ([.ref (b + 96), .int (iI a0)])).length) Slot.unset).toArray) [] := by rw [hargs]; exact lg_entry_eq m ([.ref (b + 96), .int (iI a0)]) 2
  rw [hent]
  generalize (lg_sl ([.ref (b + 96), .int (iI a0)]) ++ List.replicate (2 - (lg_sl ([.ref (b + 96), .int (iI a0)])).length) Slot.unset).toArray = ls at hl ⊢
  have hl : lv_has ls 2 [(0, .ref (b + 96)), (1, .int (iI a0))] := hl
  refine lv_iload_n hx hb dX10_find_0 rfl (lv_at hl 1 rfl) ?_
  refine w_if_lt (tgt := 27) hx hb rfl dX10_find_1 (by decide) (fun c1 => ?_) (fun c1 => ?_)
  · skip
    have h := h.1 c1
    refine lv_null hx hb dX10_find_27 ?_
    exact w_aret hx hb hr (Or.inl ⟨_, rfl⟩) hlocks hS hS0 none rfl ⟨rfl, h⟩ dX10_find_28
  · skip
    have h := h.2 c1
    refine lv_iload_n hx hb dX10_find_4 rfl (lv_at hl 1 rfl) ?_
    refine lv_aload_n hx hb dX10_find_5 rfl (lv_at hl 0 rfl) ?_
    refine w_geti hx hb hts (z_memU u10) hown hK.1 hS f10_0 (by decide) (zkd_of (rfl : zcd wC 96 = 44) rfl) (Or.inl (hts _ (z_mem k231))) dX10_find_6 ?_
    refine w_icmp_ge (tgt := 27) hx hb rfl rfl dX10_find_9 (by decide) (fun c2 => ?_) (fun c2 => ?_)
    · skip
      have h := h.1 c2
      refine lv_null hx hb dX10_find_27 ?_
      exact w_aret hx hb hr (Or.inl ⟨_, rfl⟩) hlocks hS hS0 none rfl ⟨rfl, h⟩ dX10_find_28
    · skip
      have h := h.2 c2
      refine lv_iload_n hx hb dX10_find_12 rfl (lv_at hl 1 rfl) ?_
      refine z_bipush hx hb (by decide) dX10_find_13 ?_
      refine w_icmp_ge (tgt := 27) hx hb rfl (sI_of (by decide)) dX10_find_15 (by decide) (fun c3 => ?_) (fun c3 => ?_)
      · skip
        have h := h.1 c3
        refine lv_null hx hb dX10_find_27 ?_
        exact w_aret hx hb hr (Or.inl ⟨_, rfl⟩) hlocks hS hS0 none rfl ⟨rfl, h⟩ dX10_find_28
      · skip
        have h := h.2 c3
        refine lv_aload_n hx hb dX10_find_18 rfl (lv_at hl 0 rfl) ?_
        refine w_getr (j2 := 97) hx hb hts (z_memU u10) hown hK.1 hS f10_1 (by decide) (zkd_of (rfl : zcd wC 96 = 44) rfl) (zrf_of (rfl : zcd wC 96 = 44) rfl) (Or.inl (hts _ (z_mem k233))) dX10_find_19 ?_
        refine lv_iload_n hx hb dX10_find_22 rfl (lv_at hl 1 rfl) ?_
        obtain ⟨o4, h⟩ := h
        refine w_aald (n := 16) (i := (sI a0)) (j2 := (101 + 2 * (sI a0).toNat)) hx hb hK.1 (t0 := 4) (r := 4) (by decide) rfl rfl hS (by decide) (zkd_of (rfl : zcd wC 97 = 45) rfl) (zln_of (rfl : zcd wC 97 = 45) rfl) rfl o4.1 o4.2 (by decide) (zrf_of (rfl : zcd wC 97 = 45) rfl) dX10_find_23 ?_
        obtain ⟨lt5, cd6⟩ : (101 + 2 * (sI a0).toNat) < nC ∧ zcd wC (101 + 2 * (sI a0).toNat) = 6 := (by decide : ∀ k : Nat, k < 16 → (101 + 2 * k) < nC ∧ zcd wC (101 + 2 * k) = 6) (sI a0).toNat (by clear h; have h0 := o4.1; have h1 := o4.2; omega)
        obtain ⟨lt7, cd8⟩ := nx_strip (101 + 2 * (sI a0).toNat) lt5 cd6
        refine lv_goto (tgt := 28) hx hb dX10_find_24 (by decide) ?_
        exact w_aret hx hb hr (Or.inl ⟨_, rfl⟩) hlocks hS hS0 (some (101 + 2 * (sI a0).toNat)) rfl ⟨rfl, h⟩ dX10_find_28

set_option maxRecDepth 100000 in
def wC_fetch (a0 : Int) (M : zM) (Q : Int → zM → Prop) : Prop := wC_Versions_find a0 M (fun z2 => (z2 = none → Q (-1) M) ∧ (∀ q4, z2 = some q4 → (q4 < nC ∧ zcd wC q4 = 6) ∧ (wC_Strip_copy 30 q4 M (fun M9 => Q (sI (M9 30 1)) M9))))
set_option maxHeartbeats 4000000 in
set_option maxRecDepth 100000 in
theorem cC_fetch (l : Launch) (D : va_G) (dA : Nat → ClassId) (b : Nat) (M : zM) (a0 : Int)  (Q : Int → zM → Prop) (h : wC_fetch a0 M Q) : Met l yX11_fetch (.code yX11_fetch cX11_fetch 3 (some .int) :: zt) (z_rm 2) (va_Pc [.ref (b + 0), .int (iI a0)] (wPre D dA vwCl (z_tys dA) wC nC b M)) (va_Qi (wQi Q) (zB D dA vwCl wC nC b) (zA nC b)) 0 0 (zA nC b) := by
  unfold wC_fetch at h
  refine Met.ofW (cc := cX11_fetch) (maxL := 3) (ret := (some .int)) (by decide) rfl ?_
  intro p e s m args below meth c s₁ B hml hv
  obtain ⟨hargs, hS, hK⟩ := hv
  have hx := B.exec
  have hb := B.bytes
  have hr := B.returns
  have hts := atoms_spec (ws := .code yX11_fetch cX11_fetch 3 (some .int) :: zt) B.pre
  have hown : s.vm.findClass RX11 = some m.cls := findClass_of_methodNamed B.named
  have hlocks := B.notSynchronized
  have hS0 : va_S (zA nC b) s.heap s.heap [] := va_S.rf
  have hl := lv_entry ([.ref (b + 0), .int (iI a0)]) (n := 3) (Nat.le_of_ble_eq_true rfl)
  have hent : entryFrame m args 3 = F0 m 0 ((lg_sl ([.ref (b + 0), .int (iI a0)]) ++ List.replicate (3 - (lg_sl ([.ref (b + 0), .int (iI a0)])).length) Slot.unset).toArray) [] := by rw [hargs]; exact lg_entry_eq m ([.ref (b + 0), .int (iI a0)]) 3
  rw [hent]
  generalize (lg_sl ([.ref (b + 0), .int (iI a0)]) ++ List.replicate (3 - (lg_sl ([.ref (b + 0), .int (iI a0)])).length) Slot.unset).toArray = ls at hl ⊢
  have hl : lv_has ls 3 [(0, .ref (b + 0)), (1, .int (iI a0))] := hl
  refine lv_aload_n hx hb dX11_fetch_0 rfl (lv_at hl 0 rfl) ?_
  refine w_getr (j2 := 96) hx hb hts (z_memU u11) hown hK.1 hS f11_8 (by decide) (zkd_of (rfl : zcd wC 0 = 0) rfl) (zrf_of (rfl : zcd wC 0 = 0) rfl) (Or.inl (hts _ (z_mem k250))) dX11_fetch_1 ?_
  refine lv_iload_n hx hb dX11_fetch_4 rfl (lv_at hl 1 rfl) ?_
  refine w_callq (va_runV (As := [.int (iI a0)]) (rest := []) ⟨hx, hb, hml, hown, hts⟩ (cC_Versions_find l D dA b M a0 _ h) (cwV 1 hts (z_gV k858 k859 k860 k13 k861) rfl rfl rfl dm_X10_find ⟨Nat.le_of_ble_eq_true rfl, Nat.le_of_ble_eq_true rfl⟩) ⟨wPre_blind, (w_recv hS hK.1 (by decide) (zkd_of (rfl : zcd wC 96 = 44) rfl) (by decide) (rfl : vwCl[10]? = some (RX10, TX10, 5))), w_pre hS hK⟩ rfl rfl hl.1 rfl (lv_room (Nat.le_of_ble_eq_true rfl)) dX11_fetch_5 ⟨Nat.le_refl _, Nat.le_refl _⟩) hS0 (fun z2 M1 H locs h hS hS0 => ?_)
  obtain ⟨e3, h⟩ := h
  rw [e3] at hS
  rcases z2 with _ | q4
  · skip
    have h := h.1 rfl
    refine lv_astore_nN (lv' := [(2, .null), (0, .ref (b + 0)), (1, .int (iI a0))]) hx hb dX11_fetch_8 rfl hl (by decide) rfl (fun ls hl => ?_)
    refine lv_aload_nN hx hb dX11_fetch_9 rfl (lv_at hl 0 rfl) ?_
    refine lv_ifnonnullN hx hb dX11_fetch_10 ?_
    refine z_iconst hx hb dX11_fetch_13 ?_
    exact w_iret hx hb hr hlocks hS hS0 (sI_of (by decide)) h dX11_fetch_14
  · skip
    obtain ⟨⟨lt5, cd6⟩, h⟩ := h.2 q4 rfl
    obtain ⟨lt7, cd8⟩ := nx_strip q4 lt5 cd6
    refine lv_astore_n (lv' := [(2, .ref (b + q4)), (0, .ref (b + 0)), (1, .int (iI a0))]) hx hb dX11_fetch_8 rfl hl (by decide) rfl (fun ls hl => ?_)
    refine lv_aload_n hx hb dX11_fetch_9 rfl (lv_at hl 0 rfl) ?_
    refine lv_ifnonnull (tgt := 15) hx hb dX11_fetch_10 (by decide) ?_
    refine lv_aload_n hx hb dX11_fetch_15 rfl (lv_at hl 1 rfl) ?_
    refine w_getr (j2 := 30) hx hb hts (z_memU u11) hown hK.1 hS f11_1 (by decide) (zkd_of (rfl : zcd wC 0 = 0) rfl) (zrf_of (rfl : zcd wC 0 = 0) rfl) (Or.inl (hts _ (z_mem k243))) dX11_fetch_16 ?_
    refine lv_aload_n hx hb dX11_fetch_19 rfl (lv_at hl 0 rfl) ?_
    refine w_callv (va_runV (As := [.ref (b + q4)]) (rest := []) ⟨hx, hb, hml, hown, hts⟩ (cC_Strip_copy l D dA b M 30 q4 (by decide) (rfl : zcd wC 30 = 6) lt5 cd6 _ h) (cwV 1 hts (z_gV k862 k361 k362 k3 k363) rfl rfl rfl dm_X8_copy ⟨Nat.le_of_ble_eq_true rfl, Nat.le_of_ble_eq_true rfl⟩) ⟨wPre_blind, (w_recv hS hK.1 (by decide) (zkd_of (rfl : zcd wC 30 = 6) rfl) (by decide) (rfl : vwCl[8]? = some (RX8, TX8, 2))), w_pre hS hK⟩ rfl rfl hl.1 rfl (lv_room (Nat.le_of_ble_eq_true rfl)) dX11_fetch_20 ⟨Nat.le_refl _, Nat.le_refl _⟩) hS0 (fun M9 H locs h hS hS0 => ?_)
    refine lv_aload_n hx hb dX11_fetch_23 rfl (lv_at hl 1 rfl) ?_
    refine w_getr (j2 := 30) hx hb hts (z_memU u11) hown hK.1 hS f11_1 (by decide) (zkd_of (rfl : zcd wC 0 = 0) rfl) (zrf_of (rfl : zcd wC 0 = 0) rfl) (Or.inl (hts _ (z_mem k243))) dX11_fetch_24 ?_
    refine w_geti hx hb hts (z_memU u8) hown hK.1 hS f8_1 (by decide) (zkd_of (rfl : zcd wC 30 = 6) rfl) (Or.inl (hts _ (z_mem k50))) dX11_fetch_27 ?_
    exact w_iret hx hb hr hlocks hS hS0 rfl h dX11_fetch_30
