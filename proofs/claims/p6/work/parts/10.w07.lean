/-! the W layer, 7 -/
theorem dJ7_fill_53178_0 : decode cJ7_fill_53178 0 = .ok (.iconst 0, 1) := by decide +kernel
theorem dJ7_fill_53178_1 : decode cJ7_fill_53178 1 = .ok (.istore_n 2, 1) := by decide +kernel
theorem dJ7_fill_53178_10 : decode cJ7_fill_53178 10 = .ok (.aload_n 0, 1) := by decide +kernel
theorem dJ7_fill_53178_11 : decode cJ7_fill_53178 11 = .ok (.iload_n 2, 1) := by decide +kernel
theorem dJ7_fill_53178_12 : decode cJ7_fill_53178 12 = .ok (.iload_n 1, 1) := by decide +kernel
theorem dJ7_fill_53178_13 : decode cJ7_fill_53178 13 = .ok (.iastore, 1) := by decide +kernel
theorem dJ7_fill_53178_14 : decode cJ7_fill_53178 14 = .ok (.iinc 2 1, 3) := by decide +kernel
theorem dJ7_fill_53178_17 : decode cJ7_fill_53178 17 = .ok (.goto (-12), 3) := by decide +kernel
theorem dJ7_fill_53178_2 : decode cJ7_fill_53178 2 = .ok (.aload_n 0, 1) := by decide +kernel
theorem dJ7_fill_53178_20 : decode cJ7_fill_53178 20 = .ok (.return_, 1) := by decide +kernel
theorem dJ7_fill_53178_3 : decode cJ7_fill_53178 3 = .ok (.arraylength, 1) := by decide +kernel
theorem dJ7_fill_53178_4 : decode cJ7_fill_53178 4 = .ok (.istore_n 3, 1) := by decide +kernel
theorem dJ7_fill_53178_5 : decode cJ7_fill_53178 5 = .ok (.iload_n 2, 1) := by decide +kernel
theorem dJ7_fill_53178_6 : decode cJ7_fill_53178 6 = .ok (.iload_n 3, 1) := by decide +kernel
theorem dJ7_fill_53178_7 : decode cJ7_fill_53178 7 = .ok (.if_icmp .ge 13, 3) := by decide +kernel
theorem dX11_isSound_0 : decode cX11_isSound 0 = .ok (.iload_n 0, 1) := by decide +kernel
theorem dX11_isSound_1 : decode cX11_isSound 1 = .ok (.iconst 1, 1) := by decide +kernel
theorem dX11_isSound_2 : decode cX11_isSound 2 = .ok (.bipush 9, 2) := by decide +kernel
theorem dX11_isSound_4 : decode cX11_isSound 4 = .ok (.invokestatic 113, 3) := by decide +kernel
theorem dX11_isSound_7 : decode cX11_isSound 7 = .ok (.ireturn, 1) := by decide +kernel
theorem dX11_kept_0 : decode cX11_kept 0 = .ok (.aload_n 0, 1) := by decide +kernel
theorem dX11_kept_1 : decode cX11_kept 1 = .ok (.getfield 40, 3) := by decide +kernel
theorem dX11_kept_11 : decode cX11_kept 11 = .ok (.ireturn, 1) := by decide +kernel
theorem dX11_kept_4 : decode cX11_kept 4 = .ok (.aload_n 0, 1) := by decide +kernel
theorem dX11_kept_5 : decode cX11_kept 5 = .ok (.getfield 26, 3) := by decide +kernel
theorem dX11_kept_8 : decode cX11_kept 8 = .ok (.invokevirtual 211, 3) := by decide +kernel
theorem dX11_mark_0 : decode cX11_mark 0 = .ok (.iload_n 1, 1) := by decide +kernel
theorem dX11_mark_1 : decode cX11_mark 1 = .ok (.iconst 0, 1) := by decide +kernel
theorem dX11_mark_10 : decode cX11_mark 10 = .ok (.iload_n 2, 1) := by decide +kernel
theorem dX11_mark_11 : decode cX11_mark 11 = .ok (.invokestatic 205, 3) := by decide +kernel
theorem dX11_mark_14 : decode cX11_mark 14 = .ok (.ifCond .ne 5, 3) := by decide +kernel
theorem dX11_mark_17 : decode cX11_mark 17 = .ok (.iconst (-1), 1) := by decide +kernel
theorem dX11_mark_18 : decode cX11_mark 18 = .ok (.ireturn, 1) := by decide +kernel
theorem dX11_mark_19 : decode cX11_mark 19 = .ok (.aload_n 0, 1) := by decide +kernel
theorem dX11_mark_2 : decode cX11_mark 2 = .ok (.ldc 204, 2) := by decide +kernel
theorem dX11_mark_20 : decode cX11_mark 20 = .ok (.getfield 40, 3) := by decide +kernel
theorem dX11_mark_23 : decode cX11_mark 23 = .ok (.iload_n 1, 1) := by decide +kernel
theorem dX11_mark_24 : decode cX11_mark 24 = .ok (.iload_n 2, 1) := by decide +kernel
theorem dX11_mark_25 : decode cX11_mark 25 = .ok (.invokevirtual 208, 3) := by decide +kernel
theorem dX11_mark_28 : decode cX11_mark 28 = .ok (.ireturn, 1) := by decide +kernel
theorem dX11_mark_4 : decode cX11_mark 4 = .ok (.invokestatic 113, 3) := by decide +kernel
theorem dX11_mark_7 : decode cX11_mark 7 = .ok (.ifCond .eq 10, 3) := by decide +kernel
theorem dX11_often_0 : decode cX11_often 0 = .ok (.aload_n 0, 1) := by decide +kernel
theorem dX11_often_1 : decode cX11_often 1 = .ok (.getfield 33, 3) := by decide +kernel
theorem dX11_often_11 : decode cX11_often 11 = .ok (.aload_n 0, 1) := by decide +kernel
theorem dX11_often_12 : decode cX11_often 12 = .ok (.getfield 33, 3) := by decide +kernel
theorem dX11_often_15 : decode cX11_often 15 = .ok (.invokevirtual 201, 3) := by decide +kernel
theorem dX11_often_18 : decode cX11_often 18 = .ok (.lreturn, 1) := by decide +kernel
theorem dX11_often_4 : decode cX11_often 4 = .ok (.aload_n 0, 1) := by decide +kernel
theorem dX11_often_5 : decode cX11_often 5 = .ok (.getfield 26, 3) := by decide +kernel
theorem dX11_often_8 : decode cX11_often 8 = .ok (.invokevirtual 182, 3) := by decide +kernel
theorem dX5_addCosts_0 : decode cX5_addCosts 0 = .ok (.iconst 1, 1) := by decide +kernel
theorem dX5_addCosts_1 : decode cX5_addCosts 1 = .ok (.aload_n 0, 1) := by decide +kernel
theorem dX5_addCosts_10 : decode cX5_addCosts 10 = .ok (.iload 4, 2) := by decide +kernel
theorem dX5_addCosts_12 : decode cX5_addCosts 12 = .ok (.iload_n 3, 1) := by decide +kernel
theorem dX5_addCosts_13 : decode cX5_addCosts 13 = .ok (.if_icmp .ge 58, 3) := by decide +kernel
theorem dX5_addCosts_16 : decode cX5_addCosts 16 = .ok (.ldc 49, 2) := by decide +kernel
theorem dX5_addCosts_18 : decode cX5_addCosts 18 = .ok (.istore 5, 2) := by decide +kernel
theorem dX5_addCosts_2 : decode cX5_addCosts 2 = .ok (.getfield 18, 3) := by decide +kernel
theorem dX5_addCosts_20 : decode cX5_addCosts 20 = .ok (.iconst 0, 1) := by decide +kernel
theorem dX5_addCosts_21 : decode cX5_addCosts 21 = .ok (.istore 6, 2) := by decide +kernel
theorem dX5_addCosts_23 : decode cX5_addCosts 23 = .ok (.iload 6, 2) := by decide +kernel
theorem dX5_addCosts_25 : decode cX5_addCosts 25 = .ok (.iload_n 3, 1) := by decide +kernel
theorem dX5_addCosts_26 : decode cX5_addCosts 26 = .ok (.if_icmp .ge 33, 3) := by decide +kernel
theorem dX5_addCosts_29 : decode cX5_addCosts 29 = .ok (.iload 5, 2) := by decide +kernel
theorem dX5_addCosts_31 : decode cX5_addCosts 31 = .ok (.aload_n 0, 1) := by decide +kernel
theorem dX5_addCosts_32 : decode cX5_addCosts 32 = .ok (.getfield 33, 3) := by decide +kernel
theorem dX5_addCosts_35 : decode cX5_addCosts 35 = .ok (.iload 6, 2) := by decide +kernel
theorem dX5_addCosts_37 : decode cX5_addCosts 37 = .ok (.iaload, 1) := by decide +kernel
theorem dX5_addCosts_38 : decode cX5_addCosts 38 = .ok (.aload_n 1, 1) := by decide +kernel
theorem dX5_addCosts_39 : decode cX5_addCosts 39 = .ok (.iload 4, 2) := by decide +kernel
theorem dX5_addCosts_41 : decode cX5_addCosts 41 = .ok (.iload 6, 2) := by decide +kernel
theorem dX5_addCosts_43 : decode cX5_addCosts 43 = .ok (.iconst (-1), 1) := by decide +kernel
theorem dX5_addCosts_44 : decode cX5_addCosts 44 = .ok (.ixor, 1) := by decide +kernel
theorem dX5_addCosts_45 : decode cX5_addCosts 45 = .ok (.iand, 1) := by decide +kernel
theorem dX5_addCosts_46 : decode cX5_addCosts 46 = .ok (.iaload, 1) := by decide +kernel
theorem dX5_addCosts_47 : decode cX5_addCosts 47 = .ok (.iadd, 1) := by decide +kernel
theorem dX5_addCosts_48 : decode cX5_addCosts 48 = .ok (.invokestatic 113, 3) := by decide +kernel
theorem dX5_addCosts_5 : decode cX5_addCosts 5 = .ok (.ishl, 1) := by decide +kernel
theorem dX5_addCosts_51 : decode cX5_addCosts 51 = .ok (.istore 5, 2) := by decide +kernel
theorem dX5_addCosts_53 : decode cX5_addCosts 53 = .ok (.iinc 6 1, 3) := by decide +kernel
theorem dX5_addCosts_56 : decode cX5_addCosts 56 = .ok (.goto (-33), 3) := by decide +kernel
theorem dX5_addCosts_59 : decode cX5_addCosts 59 = .ok (.aload_n 2, 1) := by decide +kernel
theorem dX5_addCosts_6 : decode cX5_addCosts 6 = .ok (.istore_n 3, 1) := by decide +kernel
theorem dX5_addCosts_60 : decode cX5_addCosts 60 = .ok (.iload 4, 2) := by decide +kernel
theorem dX5_addCosts_62 : decode cX5_addCosts 62 = .ok (.iload 5, 2) := by decide +kernel
theorem dX5_addCosts_64 : decode cX5_addCosts 64 = .ok (.iastore, 1) := by decide +kernel
theorem dX5_addCosts_65 : decode cX5_addCosts 65 = .ok (.iinc 4 1, 3) := by decide +kernel
theorem dX5_addCosts_68 : decode cX5_addCosts 68 = .ok (.goto (-58), 3) := by decide +kernel
theorem dX5_addCosts_7 : decode cX5_addCosts 7 = .ok (.iconst 0, 1) := by decide +kernel
theorem dX5_addCosts_71 : decode cX5_addCosts 71 = .ok (.return_, 1) := by decide +kernel
theorem dX5_addCosts_8 : decode cX5_addCosts 8 = .ok (.istore 4, 2) := by decide +kernel
theorem dX5_add_0 : decode cX5_add 0 = .ok (.aload_n 0, 1) := by decide +kernel
theorem dX5_add_1 : decode cX5_add 1 = .ok (.getfield 18, 3) := by decide +kernel
theorem dX5_add_10 : decode cX5_add 10 = .ok (.ireturn, 1) := by decide +kernel
theorem dX5_add_11 : decode cX5_add 11 = .ok (.aload_n 0, 1) := by decide +kernel
theorem dX5_add_12 : decode cX5_add 12 = .ok (.getfield 9, 3) := by decide +kernel
theorem dX5_add_15 : decode cX5_add 15 = .ok (.aload_n 0, 1) := by decide +kernel
theorem dX5_add_16 : decode cX5_add 16 = .ok (.getfield 18, 3) := by decide +kernel
theorem dX5_add_19 : decode cX5_add 19 = .ok (.iload_n 1, 1) := by decide +kernel
theorem dX5_add_20 : decode cX5_add 20 = .ok (.iastore, 1) := by decide +kernel
theorem dX5_add_21 : decode cX5_add 21 = .ok (.aload_n 0, 1) := by decide +kernel
theorem dX5_add_22 : decode cX5_add 22 = .ok (.getfield 15, 3) := by decide +kernel
theorem dX5_add_25 : decode cX5_add 25 = .ok (.aload_n 0, 1) := by decide +kernel
theorem dX5_add_26 : decode cX5_add 26 = .ok (.getfield 18, 3) := by decide +kernel
theorem dX5_add_29 : decode cX5_add 29 = .ok (.iload_n 2, 1) := by decide +kernel
theorem dX5_add_30 : decode cX5_add 30 = .ok (.iastore, 1) := by decide +kernel
theorem dX5_add_31 : decode cX5_add 31 = .ok (.aload_n 0, 1) := by decide +kernel
theorem dX5_add_32 : decode cX5_add 32 = .ok (.dup, 1) := by decide +kernel
theorem dX5_add_33 : decode cX5_add 33 = .ok (.getfield 18, 3) := by decide +kernel
theorem dX5_add_36 : decode cX5_add 36 = .ok (.iconst 1, 1) := by decide +kernel
theorem dX5_add_37 : decode cX5_add 37 = .ok (.iadd, 1) := by decide +kernel
theorem dX5_add_38 : decode cX5_add 38 = .ok (.putfield 18, 3) := by decide +kernel
theorem dX5_add_4 : decode cX5_add 4 = .ok (.bipush 6, 2) := by decide +kernel
theorem dX5_add_41 : decode cX5_add 41 = .ok (.aload_n 0, 1) := by decide +kernel
theorem dX5_add_42 : decode cX5_add 42 = .ok (.getfield 18, 3) := by decide +kernel
theorem dX5_add_45 : decode cX5_add 45 = .ok (.ireturn, 1) := by decide +kernel
theorem dX5_add_6 : decode cX5_add 6 = .ok (.if_icmp .lt 5, 3) := by decide +kernel
theorem dX5_add_9 : decode cX5_add 9 = .ok (.iconst (-1), 1) := by decide +kernel
theorem dX5_cost_0 : decode cX5_cost 0 = .ok (.iconst 5, 1) := by decide +kernel
theorem dX5_cost_1 : decode cX5_cost 1 = .ok (.iload_n 1, 1) := by decide +kernel
theorem dX5_cost_12 : decode cX5_cost 12 = .ok (.iadd, 1) := by decide +kernel
theorem dX5_cost_13 : decode cX5_cost 13 = .ok (.ireturn, 1) := by decide +kernel
theorem dX5_cost_2 : decode cX5_cost 2 = .ok (.imul, 1) := by decide +kernel
theorem dX5_cost_3 : decode cX5_cost 3 = .ok (.iload_n 2, 1) := by decide +kernel
theorem dX5_cost_4 : decode cX5_cost 4 = .ok (.aload_n 0, 1) := by decide +kernel
theorem dX5_cost_5 : decode cX5_cost 5 = .ok (.getfield 118, 3) := by decide +kernel
theorem dX5_cost_8 : decode cX5_cost 8 = .ok (.isub, 1) := by decide +kernel
theorem dX5_cost_9 : decode cX5_cost 9 = .ok (.invokestatic 121, 3) := by decide +kernel
theorem dX5_listCheapest_0 : decode cX5_listCheapest 0 = .ok (.aload_n 0, 1) := by decide +kernel
theorem dX5_listCheapest_1 : decode cX5_listCheapest 1 = .ok (.getfield 33, 3) := by decide +kernel
theorem dX5_listCheapest_10 : decode cX5_listCheapest 10 = .ok (.istore_n 3, 1) := by decide +kernel
theorem dX5_listCheapest_11 : decode cX5_listCheapest 11 = .ok (.iconst 0, 1) := by decide +kernel
theorem dX5_listCheapest_12 : decode cX5_listCheapest 12 = .ok (.istore 4, 2) := by decide +kernel
theorem dX5_listCheapest_14 : decode cX5_listCheapest 14 = .ok (.iload 4, 2) := by decide +kernel
theorem dX5_listCheapest_16 : decode cX5_listCheapest 16 = .ok (.aload_n 1, 1) := by decide +kernel
theorem dX5_listCheapest_17 : decode cX5_listCheapest 17 = .ok (.getfield 85, 3) := by decide +kernel
theorem dX5_listCheapest_20 : decode cX5_listCheapest 20 = .ok (.getfield 89, 3) := by decide +kernel
theorem dX5_listCheapest_23 : decode cX5_listCheapest 23 = .ok (.if_icmp .ge 69, 3) := by decide +kernel
theorem dX5_listCheapest_26 : decode cX5_listCheapest 26 = .ok (.iconst 0, 1) := by decide +kernel
theorem dX5_listCheapest_27 : decode cX5_listCheapest 27 = .ok (.istore 5, 2) := by decide +kernel
theorem dX5_listCheapest_29 : decode cX5_listCheapest 29 = .ok (.iload 5, 2) := by decide +kernel
theorem dX5_listCheapest_31 : decode cX5_listCheapest 31 = .ok (.aload_n 1, 1) := by decide +kernel
theorem dX5_listCheapest_32 : decode cX5_listCheapest 32 = .ok (.getfield 85, 3) := by decide +kernel
theorem dX5_listCheapest_35 : decode cX5_listCheapest 35 = .ok (.getfield 89, 3) := by decide +kernel
theorem dX5_listCheapest_38 : decode cX5_listCheapest 38 = .ok (.iload 4, 2) := by decide +kernel
theorem dX5_listCheapest_4 : decode cX5_listCheapest 4 = .ok (.ldc 49, 2) := by decide +kernel
theorem dX5_listCheapest_40 : decode cX5_listCheapest 40 = .ok (.isub, 1) := by decide +kernel
theorem dX5_listCheapest_41 : decode cX5_listCheapest 41 = .ok (.if_icmp .ge 45, 3) := by decide +kernel
theorem dX5_listCheapest_44 : decode cX5_listCheapest 44 = .ok (.iload_n 3, 1) := by decide +kernel
theorem dX5_listCheapest_45 : decode cX5_listCheapest 45 = .ok (.aload_n 2, 1) := by decide +kernel
theorem dX5_listCheapest_46 : decode cX5_listCheapest 46 = .ok (.arraylength, 1) := by decide +kernel
theorem dX5_listCheapest_47 : decode cX5_listCheapest 47 = .ok (.if_icmp .ge 39, 3) := by decide +kernel
theorem dX5_listCheapest_50 : decode cX5_listCheapest 50 = .ok (.aload_n 0, 1) := by decide +kernel
theorem dX5_listCheapest_51 : decode cX5_listCheapest 51 = .ok (.getfield 33, 3) := by decide +kernel
theorem dX5_listCheapest_54 : decode cX5_listCheapest 54 = .ok (.aload_n 2, 1) := by decide +kernel
theorem dX5_listCheapest_55 : decode cX5_listCheapest 55 = .ok (.iload_n 3, 1) := by decide +kernel
theorem dX5_listCheapest_56 : decode cX5_listCheapest 56 = .ok (.iaload, 1) := by decide +kernel
theorem dX5_listCheapest_57 : decode cX5_listCheapest 57 = .ok (.aload_n 0, 1) := by decide +kernel
theorem dX5_listCheapest_58 : decode cX5_listCheapest 58 = .ok (.getfield 33, 3) := by decide +kernel
theorem dX5_listCheapest_6 : decode cX5_listCheapest 6 = .ok (.invokestatic 50, 3) := by decide +kernel
theorem dX5_listCheapest_61 : decode cX5_listCheapest 61 = .ok (.aload_n 2, 1) := by decide +kernel
theorem dX5_listCheapest_62 : decode cX5_listCheapest 62 = .ok (.iload_n 3, 1) := by decide +kernel
theorem dX5_listCheapest_63 : decode cX5_listCheapest 63 = .ok (.iaload, 1) := by decide +kernel
theorem dX5_listCheapest_64 : decode cX5_listCheapest 64 = .ok (.iaload, 1) := by decide +kernel
theorem dX5_listCheapest_65 : decode cX5_listCheapest 65 = .ok (.aload_n 1, 1) := by decide +kernel
theorem dX5_listCheapest_66 : decode cX5_listCheapest 66 = .ok (.iload 4, 2) := by decide +kernel
theorem dX5_listCheapest_68 : decode cX5_listCheapest 68 = .ok (.iload 5, 2) := by decide +kernel
theorem dX5_listCheapest_70 : decode cX5_listCheapest 70 = .ok (.invokestatic 110, 3) := by decide +kernel
theorem dX5_listCheapest_73 : decode cX5_listCheapest 73 = .ok (.invokestatic 113, 3) := by decide +kernel
theorem dX5_listCheapest_76 : decode cX5_listCheapest 76 = .ok (.iastore, 1) := by decide +kernel
theorem dX5_listCheapest_77 : decode cX5_listCheapest 77 = .ok (.iinc 3 1, 3) := by decide +kernel
theorem dX5_listCheapest_80 : decode cX5_listCheapest 80 = .ok (.iinc 5 1, 3) := by decide +kernel
theorem dX5_listCheapest_83 : decode cX5_listCheapest 83 = .ok (.goto (-54), 3) := by decide +kernel
theorem dX5_listCheapest_86 : decode cX5_listCheapest 86 = .ok (.iinc 4 1, 3) := by decide +kernel
theorem dX5_listCheapest_89 : decode cX5_listCheapest 89 = .ok (.goto (-75), 3) := by decide +kernel
theorem dX5_listCheapest_9 : decode cX5_listCheapest 9 = .ok (.iconst 0, 1) := by decide +kernel
theorem dX5_listCheapest_92 : decode cX5_listCheapest 92 = .ok (.return_, 1) := by decide +kernel
theorem dX5_listTrue_0 : decode cX5_listTrue 0 = .ok (.iconst 0, 1) := by decide +kernel
theorem dX5_listTrue_1 : decode cX5_listTrue 1 = .ok (.istore 4, 2) := by decide +kernel
theorem dX5_listTrue_10 : decode cX5_listTrue 10 = .ok (.istore 5, 2) := by decide +kernel
theorem dX5_listTrue_101 : decode cX5_listTrue 101 = .ok (.goto (-32), 3) := by decide +kernel
theorem dX5_listTrue_104 : decode cX5_listTrue 104 = .ok (.iinc 5 (-1), 3) := by decide +kernel
theorem dX5_listTrue_107 : decode cX5_listTrue 107 = .ok (.goto (-95), 3) := by decide +kernel
theorem dX5_listTrue_110 : decode cX5_listTrue 110 = .ok (.return_, 1) := by decide +kernel
theorem dX5_listTrue_12 : decode cX5_listTrue 12 = .ok (.iload 5, 2) := by decide +kernel
theorem dX5_listTrue_14 : decode cX5_listTrue 14 = .ok (.ifCond .le 96, 3) := by decide +kernel
theorem dX5_listTrue_17 : decode cX5_listTrue 17 = .ok (.aload_n 1, 1) := by decide +kernel
theorem dX5_listTrue_18 : decode cX5_listTrue 18 = .ok (.aload_n 0, 1) := by decide +kernel
theorem dX5_listTrue_19 : decode cX5_listTrue 19 = .ok (.getfield 36, 3) := by decide +kernel
theorem dX5_listTrue_22 : decode cX5_listTrue 22 = .ok (.iload 5, 2) := by decide +kernel
theorem dX5_listTrue_24 : decode cX5_listTrue 24 = .ok (.invokevirtual 94, 3) := by decide +kernel
theorem dX5_listTrue_27 : decode cX5_listTrue 27 = .ok (.iconst 0, 1) := by decide +kernel
theorem dX5_listTrue_28 : decode cX5_listTrue 28 = .ok (.istore 6, 2) := by decide +kernel
theorem dX5_listTrue_3 : decode cX5_listTrue 3 = .ok (.aload_n 1, 1) := by decide +kernel
theorem dX5_listTrue_30 : decode cX5_listTrue 30 = .ok (.iload 6, 2) := by decide +kernel
theorem dX5_listTrue_32 : decode cX5_listTrue 32 = .ok (.aload_n 0, 1) := by decide +kernel
theorem dX5_listTrue_33 : decode cX5_listTrue 33 = .ok (.getfield 18, 3) := by decide +kernel
theorem dX5_listTrue_36 : decode cX5_listTrue 36 = .ok (.if_icmp .ge 30, 3) := by decide +kernel
theorem dX5_listTrue_39 : decode cX5_listTrue 39 = .ok (.aload_n 0, 1) := by decide +kernel
theorem dX5_listTrue_4 : decode cX5_listTrue 4 = .ok (.getfield 85, 3) := by decide +kernel
theorem dX5_listTrue_40 : decode cX5_listTrue 40 = .ok (.getfield 39, 3) := by decide +kernel
theorem dX5_listTrue_43 : decode cX5_listTrue 43 = .ok (.iload 6, 2) := by decide +kernel
theorem dX5_listTrue_45 : decode cX5_listTrue 45 = .ok (.aload_n 2, 1) := by decide +kernel
theorem dX5_listTrue_46 : decode cX5_listTrue 46 = .ok (.aload_n 0, 1) := by decide +kernel
theorem dX5_listTrue_47 : decode cX5_listTrue 47 = .ok (.getfield 9, 3) := by decide +kernel
theorem dX5_listTrue_50 : decode cX5_listTrue 50 = .ok (.iload 6, 2) := by decide +kernel
theorem dX5_listTrue_52 : decode cX5_listTrue 52 = .ok (.iaload, 1) := by decide +kernel
theorem dX5_listTrue_53 : decode cX5_listTrue 53 = .ok (.i2l, 1) := by decide +kernel
theorem dX5_listTrue_54 : decode cX5_listTrue 54 = .ok (.iload 5, 2) := by decide +kernel
theorem dX5_listTrue_56 : decode cX5_listTrue 56 = .ok (.invokevirtual 97, 3) := by decide +kernel
theorem dX5_listTrue_59 : decode cX5_listTrue 59 = .ok (.iastore, 1) := by decide +kernel
theorem dX5_listTrue_60 : decode cX5_listTrue 60 = .ok (.iinc 6 1, 3) := by decide +kernel
theorem dX5_listTrue_63 : decode cX5_listTrue 63 = .ok (.goto (-33), 3) := by decide +kernel
theorem dX5_listTrue_66 : decode cX5_listTrue 66 = .ok (.iconst 0, 1) := by decide +kernel
theorem dX5_listTrue_67 : decode cX5_listTrue 67 = .ok (.istore 6, 2) := by decide +kernel
theorem dX5_listTrue_69 : decode cX5_listTrue 69 = .ok (.iload 6, 2) := by decide +kernel
theorem dX5_listTrue_7 : decode cX5_listTrue 7 = .ok (.getfield 89, 3) := by decide +kernel
theorem dX5_listTrue_71 : decode cX5_listTrue 71 = .ok (.iload 5, 2) := by decide +kernel
theorem dX5_listTrue_73 : decode cX5_listTrue 73 = .ok (.if_icmp .ge 31, 3) := by decide +kernel
theorem dX5_listTrue_76 : decode cX5_listTrue 76 = .ok (.iload 4, 2) := by decide +kernel
theorem dX5_listTrue_78 : decode cX5_listTrue 78 = .ok (.aload_n 3, 1) := by decide +kernel
theorem dX5_listTrue_79 : decode cX5_listTrue 79 = .ok (.arraylength, 1) := by decide +kernel
theorem dX5_listTrue_80 : decode cX5_listTrue 80 = .ok (.if_icmp .ge 24, 3) := by decide +kernel
theorem dX5_listTrue_83 : decode cX5_listTrue 83 = .ok (.aload_n 3, 1) := by decide +kernel
theorem dX5_listTrue_84 : decode cX5_listTrue 84 = .ok (.iload 4, 2) := by decide +kernel
theorem dX5_listTrue_86 : decode cX5_listTrue 86 = .ok (.aload_n 0, 1) := by decide +kernel
theorem dX5_listTrue_87 : decode cX5_listTrue 87 = .ok (.iload 6, 2) := by decide +kernel
theorem dX5_listTrue_89 : decode cX5_listTrue 89 = .ok (.iload 5, 2) := by decide +kernel
theorem dX5_listTrue_91 : decode cX5_listTrue 91 = .ok (.invokevirtual 103, 3) := by decide +kernel
theorem dX5_listTrue_94 : decode cX5_listTrue 94 = .ok (.iastore, 1) := by decide +kernel
theorem dX5_listTrue_95 : decode cX5_listTrue 95 = .ok (.iinc 4 1, 3) := by decide +kernel
theorem dX5_listTrue_98 : decode cX5_listTrue 98 = .ok (.iinc 6 1, 3) := by decide +kernel
theorem dX5_marksTrue_0 : decode cX5_marksTrue 0 = .ok (.iconst 0, 1) := by decide +kernel
theorem dX5_marksTrue_1 : decode cX5_marksTrue 1 = .ok (.istore_n 2, 1) := by decide +kernel
theorem dX5_marksTrue_12 : decode cX5_marksTrue 12 = .ok (.iload_n 2, 1) := by decide +kernel
theorem dX5_marksTrue_13 : decode cX5_marksTrue 13 = .ok (.aload_n 1, 1) := by decide +kernel
theorem dX5_marksTrue_14 : decode cX5_marksTrue 14 = .ok (.aload_n 0, 1) := by decide +kernel
theorem dX5_marksTrue_15 : decode cX5_marksTrue 15 = .ok (.getfield 9, 3) := by decide +kernel
theorem dX5_marksTrue_18 : decode cX5_marksTrue 18 = .ok (.iload_n 3, 1) := by decide +kernel
theorem dX5_marksTrue_19 : decode cX5_marksTrue 19 = .ok (.iaload, 1) := by decide +kernel
theorem dX5_marksTrue_2 : decode cX5_marksTrue 2 = .ok (.iconst 0, 1) := by decide +kernel
theorem dX5_marksTrue_20 : decode cX5_marksTrue 20 = .ok (.i2l, 1) := by decide +kernel
theorem dX5_marksTrue_21 : decode cX5_marksTrue 21 = .ok (.invokevirtual 42, 3) := by decide +kernel
theorem dX5_marksTrue_24 : decode cX5_marksTrue 24 = .ok (.aload_n 0, 1) := by decide +kernel
theorem dX5_marksTrue_25 : decode cX5_marksTrue 25 = .ok (.getfield 15, 3) := by decide +kernel
theorem dX5_marksTrue_28 : decode cX5_marksTrue 28 = .ok (.iload_n 3, 1) := by decide +kernel
theorem dX5_marksTrue_29 : decode cX5_marksTrue 29 = .ok (.iaload, 1) := by decide +kernel
theorem dX5_marksTrue_3 : decode cX5_marksTrue 3 = .ok (.istore_n 3, 1) := by decide +kernel
theorem dX5_marksTrue_30 : decode cX5_marksTrue 30 = .ok (.ishr, 1) := by decide +kernel
theorem dX5_marksTrue_31 : decode cX5_marksTrue 31 = .ok (.iconst 1, 1) := by decide +kernel
theorem dX5_marksTrue_32 : decode cX5_marksTrue 32 = .ok (.iand, 1) := by decide +kernel
theorem dX5_marksTrue_33 : decode cX5_marksTrue 33 = .ok (.iload_n 3, 1) := by decide +kernel
theorem dX5_marksTrue_34 : decode cX5_marksTrue 34 = .ok (.ishl, 1) := by decide +kernel
theorem dX5_marksTrue_35 : decode cX5_marksTrue 35 = .ok (.ior, 1) := by decide +kernel
theorem dX5_marksTrue_36 : decode cX5_marksTrue 36 = .ok (.istore_n 2, 1) := by decide +kernel
theorem dX5_marksTrue_37 : decode cX5_marksTrue 37 = .ok (.iinc 3 1, 3) := by decide +kernel
theorem dX5_marksTrue_4 : decode cX5_marksTrue 4 = .ok (.iload_n 3, 1) := by decide +kernel
theorem dX5_marksTrue_40 : decode cX5_marksTrue 40 = .ok (.goto (-36), 3) := by decide +kernel
theorem dX5_marksTrue_43 : decode cX5_marksTrue 43 = .ok (.iload_n 2, 1) := by decide +kernel
theorem dX5_marksTrue_44 : decode cX5_marksTrue 44 = .ok (.ireturn, 1) := by decide +kernel
theorem dX5_marksTrue_5 : decode cX5_marksTrue 5 = .ok (.aload_n 0, 1) := by decide +kernel
theorem dX5_marksTrue_6 : decode cX5_marksTrue 6 = .ok (.getfield 18, 3) := by decide +kernel
theorem dX5_marksTrue_9 : decode cX5_marksTrue 9 = .ok (.if_icmp .ge 34, 3) := by decide +kernel
theorem dX5_trueFrom_0 : decode cX5_trueFrom 0 = .ok (.iconst 0, 1) := by decide +kernel
theorem dX5_trueFrom_1 : decode cX5_trueFrom 1 = .ok (.istore_n 3, 1) := by decide +kernel
theorem dX5_trueFrom_11 : decode cX5_trueFrom 11 = .ok (.if_icmp .ge 44, 3) := by decide +kernel
theorem dX5_trueFrom_14 : decode cX5_trueFrom 14 = .ok (.iload_n 3, 1) := by decide +kernel
theorem dX5_trueFrom_15 : decode cX5_trueFrom 15 = .ok (.aload_n 0, 1) := by decide +kernel
theorem dX5_trueFrom_16 : decode cX5_trueFrom 16 = .ok (.getfield 36, 3) := by decide +kernel
theorem dX5_trueFrom_19 : decode cX5_trueFrom 19 = .ok (.iload_n 1, 1) := by decide +kernel
theorem dX5_trueFrom_2 : decode cX5_trueFrom 2 = .ok (.iconst 0, 1) := by decide +kernel
theorem dX5_trueFrom_20 : decode cX5_trueFrom 20 = .ok (.aload_n 0, 1) := by decide +kernel
theorem dX5_trueFrom_21 : decode cX5_trueFrom 21 = .ok (.getfield 39, 3) := by decide +kernel
theorem dX5_trueFrom_24 : decode cX5_trueFrom 24 = .ok (.iload 4, 2) := by decide +kernel
theorem dX5_trueFrom_26 : decode cX5_trueFrom 26 = .ok (.iaload, 1) := by decide +kernel
theorem dX5_trueFrom_27 : decode cX5_trueFrom 27 = .ok (.iadd, 1) := by decide +kernel
theorem dX5_trueFrom_28 : decode cX5_trueFrom 28 = .ok (.i2l, 1) := by decide +kernel
theorem dX5_trueFrom_29 : decode cX5_trueFrom 29 = .ok (.iload_n 2, 1) := by decide +kernel
theorem dX5_trueFrom_3 : decode cX5_trueFrom 3 = .ok (.istore 4, 2) := by decide +kernel
theorem dX5_trueFrom_30 : decode cX5_trueFrom 30 = .ok (.invokestatic 107, 3) := by decide +kernel
theorem dX5_trueFrom_33 : decode cX5_trueFrom 33 = .ok (.iaload, 1) := by decide +kernel
theorem dX5_trueFrom_34 : decode cX5_trueFrom 34 = .ok (.aload_n 0, 1) := by decide +kernel
theorem dX5_trueFrom_35 : decode cX5_trueFrom 35 = .ok (.getfield 15, 3) := by decide +kernel
theorem dX5_trueFrom_38 : decode cX5_trueFrom 38 = .ok (.iload 4, 2) := by decide +kernel
theorem dX5_trueFrom_40 : decode cX5_trueFrom 40 = .ok (.iaload, 1) := by decide +kernel
theorem dX5_trueFrom_41 : decode cX5_trueFrom 41 = .ok (.ishr, 1) := by decide +kernel
theorem dX5_trueFrom_42 : decode cX5_trueFrom 42 = .ok (.iconst 1, 1) := by decide +kernel
theorem dX5_trueFrom_43 : decode cX5_trueFrom 43 = .ok (.iand, 1) := by decide +kernel
theorem dX5_trueFrom_44 : decode cX5_trueFrom 44 = .ok (.iload 4, 2) := by decide +kernel
theorem dX5_trueFrom_46 : decode cX5_trueFrom 46 = .ok (.ishl, 1) := by decide +kernel
theorem dX5_trueFrom_47 : decode cX5_trueFrom 47 = .ok (.ior, 1) := by decide +kernel
theorem dX5_trueFrom_48 : decode cX5_trueFrom 48 = .ok (.istore_n 3, 1) := by decide +kernel
theorem dX5_trueFrom_49 : decode cX5_trueFrom 49 = .ok (.iinc 4 1, 3) := by decide +kernel
theorem dX5_trueFrom_5 : decode cX5_trueFrom 5 = .ok (.iload 4, 2) := by decide +kernel
theorem dX5_trueFrom_52 : decode cX5_trueFrom 52 = .ok (.goto (-47), 3) := by decide +kernel
theorem dX5_trueFrom_55 : decode cX5_trueFrom 55 = .ok (.iload_n 3, 1) := by decide +kernel
theorem dX5_trueFrom_56 : decode cX5_trueFrom 56 = .ok (.ireturn, 1) := by decide +kernel
theorem dX5_trueFrom_7 : decode cX5_trueFrom 7 = .ok (.aload_n 0, 1) := by decide +kernel
theorem dX5_trueFrom_8 : decode cX5_trueFrom 8 = .ok (.getfield 18, 3) := by decide +kernel
theorem dm_X11_isSound : yX11_isSound.cls = RX11 ∧ yX11_isSound.cls ≠ "java/lang/invoke/MethodHandle" ∧ yX11_isSound.cls ≠ "java/lang/invoke/VarHandle" ∧ (parseMethodDescriptor yX11_isSound.desc).map (fun d => d.parameters.length) = some 1 := by decide +kernel
theorem dm_X5_add : yX5_add.cls = RX5 ∧ yX5_add.cls ≠ "java/lang/invoke/MethodHandle" ∧ yX5_add.cls ≠ "java/lang/invoke/VarHandle" ∧ (parseMethodDescriptor yX5_add.desc).map (fun d => d.parameters.length) = some 2 := by decide +kernel
theorem dm_X5_marksTrue : yX5_marksTrue.cls = RX5 ∧ yX5_marksTrue.cls ≠ "java/lang/invoke/MethodHandle" ∧ yX5_marksTrue.cls ≠ "java/lang/invoke/VarHandle" ∧ (parseMethodDescriptor yX5_marksTrue.desc).map (fun d => d.parameters.length) = some 1 := by decide +kernel
theorem dm_X5_trueFrom : yX5_trueFrom.cls = RX5 ∧ yX5_trueFrom.cls ≠ "java/lang/invoke/MethodHandle" ∧ yX5_trueFrom.cls ≠ "java/lang/invoke/VarHandle" ∧ (parseMethodDescriptor yX5_trueFrom.desc).map (fun d => d.parameters.length) = some 2 := by decide +kernel
theorem dm_J7_fill_53178 : yJ7_fill_53178.cls = RJ7 ∧ yJ7_fill_53178.cls ≠ "java/lang/invoke/MethodHandle" ∧ yJ7_fill_53178.cls ≠ "java/lang/invoke/VarHandle" ∧ (parseMethodDescriptor yJ7_fill_53178.desc).map (fun d => d.parameters.length) = some 2 := by decide +kernel
theorem dm_X5_cost : yX5_cost.cls = RX5 ∧ yX5_cost.cls ≠ "java/lang/invoke/MethodHandle" ∧ yX5_cost.cls ≠ "java/lang/invoke/VarHandle" ∧ (parseMethodDescriptor yX5_cost.desc).map (fun d => d.parameters.length) = some 3 := by decide +kernel
set_option maxRecDepth 100000 in
def wC_often  (M : zM) (Q : Int → zM → Prop) : Prop := wC_Meeting_look  M (fun M1 => wC_Meeting_howOften  M1 (fun z3 => Q z3 M1))
set_option maxHeartbeats 4000000 in
set_option maxRecDepth 100000 in
theorem cC_often (l : Launch) (D : va_G) (dA : Nat → ClassId) (b : Nat) (M : zM)   (Q : Int → zM → Prop) (h : wC_often  M Q) : Met l yX11_often (.code yX11_often cX11_often 1 (some .long) :: zt) (z_rm 6) (va_Pc [.ref (b + 0)] (wPre D dA vwCl (z_tys dA) wC nC b M)) (va_Ql (wQl Q) (zB D dA vwCl wC nC b) (zA nC b)) 0 0 (zA nC b) := by
  unfold wC_often at h
  refine Met.ofW (cc := cX11_often) (maxL := 1) (ret := (some .long)) (by decide) rfl ?_
  intro p e s m args below meth c s₁ B hml hv
  obtain ⟨hargs, hS, hK⟩ := hv
  have hx := B.exec
  have hb := B.bytes
  have hr := B.returns
  have hts := atoms_spec (ws := .code yX11_often cX11_often 1 (some .long) :: zt) B.pre
  have hown : s.vm.findClass RX11 = some m.cls := findClass_of_methodNamed B.named
  have hlocks := B.notSynchronized
  have hS0 : va_S (zA nC b) s.heap s.heap [] := va_S.rf
  have hl := lv_entry ([.ref (b + 0)]) (n := 1) (Nat.le_of_ble_eq_true rfl)
  have hent : entryFrame m args 1 = F0 m 0 ((lg_sl ([.ref (b + 0)]) ++ List.replicate (1 - (lg_sl ([.ref (b + 0)])).length) Slot.unset).toArray) [] := by rw [hargs]; exact lg_entry_eq m ([.ref (b + 0)]) 1
  rw [hent]
  generalize (lg_sl ([.ref (b + 0)]) ++ List.replicate (1 - (lg_sl ([.ref (b + 0)])).length) Slot.unset).toArray = ls at hl ⊢
  have hl : lv_has ls 1 [(0, .ref (b + 0))] := hl
  refine lv_aload_n hx hb dX11_often_0 rfl (lv_at hl 0 rfl) ?_
  refine w_getr (j2 := 57) hx hb hts (z_memU u11) hown hK.1 hS f11_3 (by decide) (zkd_of (rfl : zcd wC 0 = 0) rfl) (zrf_of (rfl : zcd wC 0 = 0) rfl) (Or.inl (hts _ (z_mem k245))) dX11_often_1 ?_
  refine lv_aload_n hx hb dX11_often_4 rfl (lv_at hl 0 rfl) ?_
  refine w_getr (j2 := 32) hx hb hts (z_memU u11) hown hK.1 hS f11_2 (by decide) (zkd_of (rfl : zcd wC 0 = 0) rfl) (zrf_of (rfl : zcd wC 0 = 0) rfl) (Or.inl (hts _ (z_mem k244))) dX11_often_5 ?_
  refine w_callv (va_runV (As := [.ref (b + 32)]) (rest := []) ⟨hx, hb, hml, hown, hts⟩ (cC_Meeting_look l D dA b M  _ h) (cwV 1 hts (z_gV k511 k512 k513 k7 k514) rfl rfl rfl dm_X1_look ⟨Nat.le_of_ble_eq_true rfl, Nat.le_of_ble_eq_true rfl⟩) ⟨wPre_blind, (w_recv hS hK.1 (by decide) (zkd_of (rfl : zcd wC 57 = 16) rfl) (by decide) (rfl : vwCl[1]? = some (RX1, TX1, 4))), w_pre hS hK⟩ rfl rfl hl.1 rfl (lv_room (Nat.le_of_ble_eq_true rfl)) dX11_often_8 ⟨Nat.le_refl _, Nat.le_refl _⟩) hS0 (fun M1 H locs h hS hS0 => ?_)
  refine lv_aload_n hx hb dX11_often_11 rfl (lv_at hl 0 rfl) ?_
  refine w_getr (j2 := 57) hx hb hts (z_memU u11) hown hK.1 hS f11_3 (by decide) (zkd_of (rfl : zcd wC 0 = 0) rfl) (zrf_of (rfl : zcd wC 0 = 0) rfl) (Or.inl (hts _ (z_mem k245))) dX11_often_12 ?_
  refine w_calll (va_runV (As := []) (rest := []) ⟨hx, hb, hml, hown, hts⟩ (cC_Meeting_howOften l D dA b M1  _ h) (cwV 0 hts (z_gV k595 k572 k573 k7 k574) rfl rfl rfl dm_X1_howOften ⟨Nat.le_of_ble_eq_true rfl, Nat.le_of_ble_eq_true rfl⟩) ⟨wPre_blind, (w_recv hS hK.1 (by decide) (zkd_of (rfl : zcd wC 57 = 16) rfl) (by decide) (rfl : vwCl[1]? = some (RX1, TX1, 4))), w_pre hS hK⟩ rfl rfl hl.1 rfl (lv_room (Nat.le_of_ble_eq_true rfl)) dX11_often_15 ⟨Nat.le_refl _, Nat.le_refl _⟩) hS0 (fun z3 M2 H locs r4 h hS hS0 => ?_)
  obtain ⟨e5, h⟩ := h
  rw [e5] at hS
  exact w_lret hx hb hr hlocks hS hS0 (sL_of r4) h dX11_often_18

set_option maxRecDepth 100000 in
def wC_isSound (a0 : Int) (M : zM) (Q : Int → Prop) : Prop := wC_within a0 1 9 M (fun z2 => Q z2)
set_option maxHeartbeats 4000000 in
set_option maxRecDepth 100000 in
theorem cC_isSound (l : Launch) (D : va_G) (dA : Nat → ClassId) (b : Nat) (M : zM) (a0 : Int)  (Q : Int → Prop) (h : wC_isSound a0 M Q) : Met l yX11_isSound (.code yX11_isSound cX11_isSound 1 (some .boolean) :: zt) (z_rm 1) (va_Pc [.int (iI a0)] (wPre D dA vwCl (z_tys dA) wC nC b M)) (va_Qi (wQz (fun z9 u9 => u9 = M ∧ Q z9)) (zB D dA vwCl wC nC b) (zA nC b)) 0 0 (zA nC b) := by
  unfold wC_isSound at h
  refine Met.ofW (cc := cX11_isSound) (maxL := 1) (ret := (some .boolean)) (by decide) rfl ?_
  intro p e s m args below meth c s₁ B hml hv
  obtain ⟨hargs, hS, hK⟩ := hv
  have hx := B.exec
  have hb := B.bytes
  have hr := B.returns
  have hts := atoms_spec (ws := .code yX11_isSound cX11_isSound 1 (some .boolean) :: zt) B.pre
  have hown : s.vm.findClass RX11 = some m.cls := findClass_of_methodNamed B.named
  have hlocks := B.notSynchronized
  have hS0 : va_S (zA nC b) s.heap s.heap [] := va_S.rf
  have hl := lv_entry ([.int (iI a0)]) (n := 1) (Nat.le_of_ble_eq_true rfl)
  have hent : entryFrame m args 1 = F0 m 0 ((lg_sl ([.int (iI a0)]) ++ List.replicate (1 - (lg_sl ([.int (iI a0)])).length) Slot.unset).toArray) [] := by rw [hargs]; exact lg_entry_eq m ([.int (iI a0)]) 1
  rw [hent]
  generalize (lg_sl ([.int (iI a0)]) ++ List.replicate (1 - (lg_sl ([.int (iI a0)])).length) Slot.unset).toArray = ls at hl ⊢
  have hl : lv_has ls 1 [(0, .int (iI a0))] := hl
  refine lv_iload_n hx hb dX11_isSound_0 rfl (lv_at hl 0 rfl) ?_
  refine z_iconst hx hb dX11_isSound_1 ?_
  refine z_bipush hx hb (by decide) dX11_isSound_2 ?_
  refine w_callz (va_runS (As := [.int (iI a0), .int (iI 1), .int (iI 9)]) (rest := []) ⟨hx, hb, hml, hown, hts⟩ (cC_within l D dA b M a0 1 9 _ h) (va_cwS 3 hts (z_gS k382 k383 k1 k384) rfl rfl rfl dm_X11_within.2 ⟨Nat.le_of_ble_eq_true rfl, Nat.le_of_ble_eq_true rfl⟩) ⟨wPre_blind, w_pre hS hK⟩ rfl rfl hl.1 rfl (lv_room (Nat.le_of_ble_eq_true rfl)) dX11_isSound_4 ⟨Nat.le_refl _, Nat.le_refl _⟩) hS0 (fun z2 M1 H locs r3 h hS hS0 => ?_)
  obtain ⟨e4, h⟩ := h
  rw [e4] at hS
  exact w_zret hx hb hr hlocks hS hS0 (sI_01 r3) r3 ⟨rfl, h⟩ dX11_isSound_7

set_option maxRecDepth 100000 in
def wC_Planner_add (a0 : Int) (a1 : Int) (M : zM) (Q : Int → zM → Prop) : Prop := ((sI (M 60 2)) < 6 → ((0 ≤ (sI (M 60 2)) ∧ (sI (M 60 2)) < 6) ∧ (∀ M3 : zM, M3 = zup M 61 (sI (M 60 2)).toNat a0 → ((0 ≤ (sI (M3 60 2)) ∧ (sI (M3 60 2)) < 6) ∧ (∀ M6 : zM, M6 = zup M3 62 (sI (M3 60 2)).toNat a1 → (∀ M8 : zM, M8 = zup M6 60 2 ((M6 60 2) + 1) → Q (sI (M8 60 2)) M8)))))) ∧ (6 ≤ (sI (M 60 2)) → Q (-1) M)
set_option maxHeartbeats 4000000 in
set_option maxRecDepth 100000 in
theorem cC_Planner_add (l : Launch) (D : va_G) (dA : Nat → ClassId) (b : Nat) (M : zM) (a0 : Int) (a1 : Int)  (Q : Int → zM → Prop) (h : wC_Planner_add a0 a1 M Q) : Met l yX5_add (.code yX5_add cX5_add 3 (some .int) :: zt) (z_rm 0) (va_Pc [.ref (b + 60), .int (iI a0), .int (iI a1)] (wPre D dA vwCl (z_tys dA) wC nC b M)) (va_Qi (wQi Q) (zB D dA vwCl wC nC b) (zA nC b)) 0 0 (zA nC b) := by
  unfold wC_Planner_add at h
  refine Met.ofW (cc := cX5_add) (maxL := 3) (ret := (some .int)) (by decide) rfl ?_
  intro p e s m args below meth c s₁ B hml hv
  obtain ⟨hargs, hS, hK⟩ := hv
  have hx := B.exec
  have hb := B.bytes
  have hr := B.returns
  have hts := atoms_spec (ws := .code yX5_add cX5_add 3 (some .int) :: zt) B.pre
  have hown : s.vm.findClass RX5 = some m.cls := findClass_of_methodNamed B.named
  have hlocks := B.notSynchronized
  have hS0 : va_S (zA nC b) s.heap s.heap [] := va_S.rf
  have hl := lv_entry ([.ref (b + 60), .int (iI a0), .int (iI a1)]) (n := 3) (Nat.le_of_ble_eq_true rfl)
  have hent : entryFrame m args 3 = F0 m 0 ((lg_sl ([.ref (b + 60), .int (iI a0), .int (iI a1)]) ++ List.replicate (3 - (lg_sl ([.ref (b + 60), .int (iI a0), .int (iI a1)])).length) Slot.unset).toArray) [] := by rw [hargs]; exact lg_entry_eq m ([.ref (b + 60), .int (iI a0), .int (iI a1)]) 3
  rw [hent]
  generalize (lg_sl ([.ref (b + 60), .int (iI a0), .int (iI a1)]) ++ List.replicate (3 - (lg_sl ([.ref (b + 60), .int (iI a0), .int (iI a1)])).length) Slot.unset).toArray = ls at hl ⊢
  have hl : lv_has ls 3 [(0, .ref (b + 60)), (1, .int (iI a0)), (2, .int (iI a1))] := hl
  refine lv_aload_n hx hb dX5_add_0 rfl (lv_at hl 0 rfl) ?_
  refine w_geti hx hb hts (z_memU u5) hown hK.1 hS f5_2 (by decide) (zkd_of (rfl : zcd wC 60 = 19) rfl) (Or.inl (hts _ (z_mem k145))) dX5_add_1 ?_
  refine z_bipush hx hb (by decide) dX5_add_4 ?_
  refine w_icmp_lt (tgt := 11) hx hb rfl (sI_of (by decide)) dX5_add_6 (by decide) (fun c1 => ?_) (fun c1 => ?_)
  · skip
    have h := h.1 c1
    refine lv_aload_n hx hb dX5_add_11 rfl (lv_at hl 0 rfl) ?_
    refine w_getr (j2 := 61) hx hb hts (z_memU u5) hown hK.1 hS f5_0 (by decide) (zkd_of (rfl : zcd wC 60 = 19) rfl) (zrf_of (rfl : zcd wC 60 = 19) rfl) (Or.inl (hts _ (z_mem k143))) dX5_add_12 ?_
    refine lv_aload_n hx hb dX5_add_15 rfl (lv_at hl 0 rfl) ?_
    refine w_geti hx hb hts (z_memU u5) hown hK.1 hS f5_2 (by decide) (zkd_of (rfl : zcd wC 60 = 19) rfl) (Or.inl (hts _ (z_mem k145))) dX5_add_16 ?_
    refine lv_iload_n hx hb dX5_add_19 rfl (lv_at hl 1 rfl) ?_
    obtain ⟨o2, h⟩ := h
    refine w_iast (z := a0) (n := 6) (i := (sI (M 60 2))) hx hb hK.1 (t0 := 0) rfl hS hS0 (by decide) (zkd_of (rfl : zcd wC 61 = 20) rfl) (zln_of (rfl : zcd wC 61 = 20) rfl) rfl o2.1 o2.2 (by decide) dX5_add_20 (fun H locs hS hS0 => ?_)
    obtain ⟨M3, e4⟩ : ∃ M3 : zM, M3 = zup M 61 (sI (M 60 2)).toNat a0 := ⟨_, rfl⟩
    rw [← e4] at hS
    have h := h M3 e4
    refine lv_aload_n hx hb dX5_add_21 rfl (lv_at hl 0 rfl) ?_
    refine w_getr (j2 := 62) hx hb hts (z_memU u5) hown hK.1 hS f5_1 (by decide) (zkd_of (rfl : zcd wC 60 = 19) rfl) (zrf_of (rfl : zcd wC 60 = 19) rfl) (Or.inl (hts _ (z_mem k144))) dX5_add_22 ?_
    refine lv_aload_n hx hb dX5_add_25 rfl (lv_at hl 0 rfl) ?_
    refine w_geti hx hb hts (z_memU u5) hown hK.1 hS f5_2 (by decide) (zkd_of (rfl : zcd wC 60 = 19) rfl) (Or.inl (hts _ (z_mem k145))) dX5_add_26 ?_
    refine lv_iload_n hx hb dX5_add_29 rfl (lv_at hl 2 rfl) ?_
    obtain ⟨o5, h⟩ := h
    refine w_iast (z := a1) (n := 6) (i := (sI (M3 60 2))) hx hb hK.1 (t0 := 0) rfl hS hS0 (by decide) (zkd_of (rfl : zcd wC 62 = 21) rfl) (zln_of (rfl : zcd wC 62 = 21) rfl) rfl o5.1 o5.2 (by decide) dX5_add_30 (fun H locs hS hS0 => ?_)
    obtain ⟨M6, e7⟩ : ∃ M6 : zM, M6 = zup M3 62 (sI (M3 60 2)).toNat a1 := ⟨_, rfl⟩
    rw [← e7] at hS
    have h := h M6 e7
    refine lv_aload_n hx hb dX5_add_31 rfl (lv_at hl 0 rfl) ?_
    refine lv_dup hx hb dX5_add_32 rfl ?_
    refine w_geti hx hb hts (z_memU u5) hown hK.1 hS f5_2 (by decide) (zkd_of (rfl : zcd wC 60 = 19) rfl) (Or.inl (hts _ (z_mem k145))) dX5_add_33 ?_
    refine z_iconst hx hb dX5_add_36 ?_
    refine z_iadd hx hb dX5_add_37 ?_
    refine w_puti hx hb hts (z_memU u5) tyX5 tyX5_ok nmX5 hown hK.1 hS hS0 f5_2 (by decide) (zkd_of (rfl : zcd wC 60 = 19) rfl) (Or.inl (hts _ (z_mem k145))) rfl (z := ((M6 60 2) + 1)) (by decide +kernel) dX5_add_38 (fun H locs hS hS0 => ?_)
    obtain ⟨M8, e9⟩ : ∃ M8 : zM, M8 = zup M6 60 2 ((M6 60 2) + 1) := ⟨_, rfl⟩
    rw [← e9] at hS
    have h := h M8 e9
    refine lv_aload_n hx hb dX5_add_41 rfl (lv_at hl 0 rfl) ?_
    refine w_geti hx hb hts (z_memU u5) hown hK.1 hS f5_2 (by decide) (zkd_of (rfl : zcd wC 60 = 19) rfl) (Or.inl (hts _ (z_mem k145))) dX5_add_42 ?_
    exact w_iret hx hb hr hlocks hS hS0 rfl h dX5_add_45
  · skip
    have h := h.2 c1
    refine z_iconst hx hb dX5_add_9 ?_
    exact w_iret hx hb hr hlocks hS hS0 (sI_of (by decide)) h dX5_add_10

set_option maxRecDepth 100000 in
def wC_mark (a0 : Int) (a1 : Int) (M : zM) (Q : Int → zM → Prop) : Prop := wC_within a0 0 100000 M (fun z2 => (z2 = 0 → Q (-1) M) ∧ (z2 ≠ 0 → wC_isSound a1 M (fun z7 => (z7 ≠ 0 → wC_Planner_add a0 a1 M (fun z12 M11 => Q z12 M11)) ∧ (z7 = 0 → Q (-1) M))))
set_option maxHeartbeats 4000000 in
set_option maxRecDepth 100000 in
theorem cC_mark (l : Launch) (D : va_G) (dA : Nat → ClassId) (b : Nat) (M : zM) (a0 : Int) (a1 : Int)  (Q : Int → zM → Prop) (h : wC_mark a0 a1 M Q) : Met l yX11_mark (.code yX11_mark cX11_mark 3 (some .int) :: zt) (z_rm 2) (va_Pc [.ref (b + 0), .int (iI a0), .int (iI a1)] (wPre D dA vwCl (z_tys dA) wC nC b M)) (va_Qi (wQi Q) (zB D dA vwCl wC nC b) (zA nC b)) 0 0 (zA nC b) := by
  unfold wC_mark at h
  refine Met.ofW (cc := cX11_mark) (maxL := 3) (ret := (some .int)) (by decide) rfl ?_
  intro p e s m args below meth c s₁ B hml hv
  obtain ⟨hargs, hS, hK⟩ := hv
  have hx := B.exec
  have hb := B.bytes
  have hr := B.returns
  have hts := atoms_spec (ws := .code yX11_mark cX11_mark 3 (some .int) :: zt) B.pre
  have hown : s.vm.findClass RX11 = some m.cls := findClass_of_methodNamed B.named
  have hlocks := B.notSynchronized
  have hS0 : va_S (zA nC b) s.heap s.heap [] := va_S.rf
  have hl := lv_entry ([.ref (b + 0), .int (iI a0), .int (iI a1)]) (n := 3) (Nat.le_of_ble_eq_true rfl)
  have hent : entryFrame m args 3 = F0 m 0 ((lg_sl ([.ref (b + 0), .int (iI a0), .int (iI a1)]) ++ List.replicate (3 - (lg_sl ([.ref (b + 0), .int (iI a0), .int (iI a1)])).length) Slot.unset).toArray) [] := by rw [hargs]; exact lg_entry_eq m ([.ref (b + 0), .int (iI a0), .int (iI a1)]) 3
  rw [hent]
  generalize (lg_sl ([.ref (b + 0), .int (iI a0), .int (iI a1)]) ++ List.replicate (3 - (lg_sl ([.ref (b + 0), .int (iI a0), .int (iI a1)])).length) Slot.unset).toArray = ls at hl ⊢
  have hl : lv_has ls 3 [(0, .ref (b + 0)), (1, .int (iI a0)), (2, .int (iI a1))] := hl
  refine lv_iload_n hx hb dX11_mark_0 rfl (lv_at hl 1 rfl) ?_
  refine z_iconst hx hb dX11_mark_1 ?_
  refine z_ldc (n := 100000) hx hb hown (hts _ (z_mem k600)) (by decide) dX11_mark_2 ?_
  refine w_callz (va_runS (As := [.int (iI a0), .int (iI 0), .int (iI 100000)]) (rest := []) ⟨hx, hb, hml, hown, hts⟩ (cC_within l D dA b M a0 0 100000 _ h) (va_cwS 3 hts (z_gS k382 k383 k1 k384) rfl rfl rfl dm_X11_within.2 ⟨Nat.le_of_ble_eq_true rfl, Nat.le_of_ble_eq_true rfl⟩) ⟨wPre_blind, w_pre hS hK⟩ rfl rfl hl.1 rfl (lv_room (Nat.le_of_ble_eq_true rfl)) dX11_mark_4 ⟨Nat.le_refl _, Nat.le_refl _⟩) hS0 (fun z2 M1 H locs r3 h hS hS0 => ?_)
  obtain ⟨e4, h⟩ := h
  rw [e4] at hS
  refine w_if_eq (tgt := 17) hx hb (sI_01 r3) dX11_mark_7 (by decide) (fun c5 => ?_) (fun c5 => ?_)
  · skip
    have h := h.1 c5
    refine z_iconst hx hb dX11_mark_17 ?_
    exact w_iret hx hb hr hlocks hS hS0 (sI_of (by decide)) h dX11_mark_18
  · skip
    have h := h.2 c5
    refine lv_iload_n hx hb dX11_mark_10 rfl (lv_at hl 2 rfl) ?_
    refine w_callz (va_runS (As := [.int (iI a1)]) (rest := []) ⟨hx, hb, hml, hown, hts⟩ (cC_isSound l D dA b M a1 _ h) (va_cwS 1 hts (z_gS k601 k602 k1 k603) rfl rfl rfl dm_X11_isSound.2 ⟨Nat.le_of_ble_eq_true rfl, Nat.le_of_ble_eq_true rfl⟩) ⟨wPre_blind, w_pre hS hK⟩ rfl rfl hl.1 rfl (lv_room (Nat.le_of_ble_eq_true rfl)) dX11_mark_11 ⟨Nat.le_refl _, Nat.le_refl _⟩) hS0 (fun z7 M6 H locs r8 h hS hS0 => ?_)
    obtain ⟨e9, h⟩ := h
    rw [e9] at hS
    refine w_if_ne (tgt := 19) hx hb (sI_01 r8) dX11_mark_14 (by decide) (fun c10 => ?_) (fun c10 => ?_)
    · skip
      have h := h.1 c10
      refine lv_aload_n hx hb dX11_mark_19 rfl (lv_at hl 0 rfl) ?_
      refine w_getr (j2 := 60) hx hb hts (z_memU u11) hown hK.1 hS f11_4 (by decide) (zkd_of (rfl : zcd wC 0 = 0) rfl) (zrf_of (rfl : zcd wC 0 = 0) rfl) (Or.inl (hts _ (z_mem k246))) dX11_mark_20 ?_
      refine lv_iload_n hx hb dX11_mark_23 rfl (lv_at hl 1 rfl) ?_
      refine lv_iload_n hx hb dX11_mark_24 rfl (lv_at hl 2 rfl) ?_
      refine w_calli (va_runV (As := [.int (iI a0), .int (iI a1)]) (rest := []) ⟨hx, hb, hml, hown, hts⟩ (cC_Planner_add l D dA b M a0 a1 _ h) (cwV 2 hts (z_gV k604 k605 k606 k8 k607) rfl rfl rfl dm_X5_add ⟨Nat.le_of_ble_eq_true rfl, Nat.le_of_ble_eq_true rfl⟩) ⟨wPre_blind, (w_recv hS hK.1 (by decide) (zkd_of (rfl : zcd wC 60 = 19) rfl) (by decide) (rfl : vwCl[5]? = some (RX5, TX5, 9))), w_pre hS hK⟩ rfl rfl hl.1 rfl (lv_room (Nat.le_of_ble_eq_true rfl)) dX11_mark_25 ⟨Nat.le_refl _, Nat.le_refl _⟩) hS0 (fun z12 M11 H locs r13 h hS hS0 => ?_)
      exact w_iret hx hb hr hlocks hS hS0 (sI_of r13) h dX11_mark_28
    · skip
      have h := h.2 c10
      refine z_iconst hx hb dX11_mark_17 ?_
      exact w_iret hx hb hr hlocks hS hS0 (sI_of (by decide)) h dX11_mark_18

set_option maxRecDepth 100000 in
def wC_Planner_marksTrue  (M : zM) (Q : Int → Prop) : Prop := pL2 (fun K4 x1 x2 => ((sI (M 60 2)) ≤ (sI x2) → Q (sI x1)) ∧ ((sI x2) < (sI (M 60 2)) → ((0 ≤ (sI x2) ∧ (sI x2) < 6) ∧ wC_Studio_heardInAll (sI (M 61 (sI x2).toNat)) M (fun z13 => ((0 ≤ (sI x2) ∧ (sI x2) < 6) ∧ (∀ t17 : Int, t17 = (orI x1 (shlI (andI (shrI z13 (M 62 (sI x2).toNat)) 1) x2)) → K4 t17 (x2 + 1))))))) 0 0
set_option maxHeartbeats 4000000 in
set_option maxRecDepth 100000 in
theorem cC_Planner_marksTrue (l : Launch) (D : va_G) (dA : Nat → ClassId) (b : Nat) (M : zM)   (Q : Int → Prop) (h : wC_Planner_marksTrue  M Q) : Met l yX5_marksTrue (.code yX5_marksTrue cX5_marksTrue 4 (some .int) :: zt) (z_rm 4) (va_Pc [.ref (b + 60), .ref (b + 32)] (wPre D dA vwCl (z_tys dA) wC nC b M)) (va_Qi (wQi (fun z9 u9 => u9 = M ∧ Q z9)) (zB D dA vwCl wC nC b) (zA nC b)) 0 0 (zA nC b) := by
  unfold wC_Planner_marksTrue at h
  refine Met.ofW (cc := cX5_marksTrue) (maxL := 4) (ret := (some .int)) (by decide) rfl ?_
  intro p e s m args below meth c s₁ B hml hv
  obtain ⟨hargs, hS, hK⟩ := hv
  have hx := B.exec
  have hb := B.bytes
  have hr := B.returns
  have hts := atoms_spec (ws := .code yX5_marksTrue cX5_marksTrue 4 (some .int) :: zt) B.pre
  have hown : s.vm.findClass RX5 = some m.cls := findClass_of_methodNamed B.named
  have hlocks := B.notSynchronized
  have hS0 : va_S (zA nC b) s.heap s.heap [] := va_S.rf
  have hl := lv_entry ([.ref (b + 60), .ref (b + 32)]) (n := 4) (Nat.le_of_ble_eq_true rfl)
  have hent : entryFrame m args 4 = F0 m 0 ((lg_sl ([.ref (b + 60), .ref (b + 32)]) ++ List.replicate (4 - (lg_sl ([.ref (b + 60), .ref (b + 32)])).length) Slot.unset).toArray) [] := by rw [hargs]; exact lg_entry_eq m ([.ref (b + 60), .ref (b + 32)]) 4
  rw [hent]
  generalize (lg_sl ([.ref (b + 60), .ref (b + 32)]) ++ List.replicate (4 - (lg_sl ([.ref (b + 60), .ref (b + 32)])).length) Slot.unset).toArray = ls at hl ⊢
  have hl : lv_has ls 4 [(0, .ref (b + 60)), (1, .ref (b + 32))] := hl
  refine z_iconst hx hb dX5_marksTrue_0 ?_
  refine lv_istore_n (lv' := [(2, .int (iI 0)), (0, .ref (b + 60)), (1, .ref (b + 32))]) hx hb dX5_marksTrue_1 rfl hl (by decide) rfl (fun ls hl => ?_)
  refine z_iconst hx hb dX5_marksTrue_2 ?_
  refine lv_istore_n (lv' := [(3, .int (iI 0)), (2, .int (iI 0)), (0, .ref (b + 60)), (1, .ref (b + 32))]) hx hb dX5_marksTrue_3 rfl hl (by decide) rfl (fun ls hl => ?_)
  obtain ⟨I3, ⟨n4, h5⟩, h6⟩ := h
  have L7 : ∀ (n8 : Nat) (x1 x2 : Int) (H : Heap) (locs : List Loc) (ls : Array Slot), I3 n8 x1 x2 → zR D dA vwCl wC nC b M H → va_S (zA nC b) s.heap H locs → lv_has ls 4 [(0, .ref (b + 60)), (1, .ref (b + 32)), (2, .int (iI x1)), (3, .int (iI x2))] → W p l e (headSpec (.code yX5_marksTrue cX5_marksTrue 4 (some .int) :: zt) (z_rm 4)).room s m args below meth c H locs 0 0 (MQ below (va_Qi (wQi (fun z9 u9 => u9 = M ∧ Q z9)) (zB D dA vwCl wC nC b) (zA nC b)) args s 0 0 (zA nC b)) (F0 m 4 ls []) := by
    intro n8
    induction n8 using Nat.strongRecOn with
    | ind n8 i9 =>
      intro x1 x2 H locs ls h hS hS0 hl
      have h := h6 n8 x1 x2 h
      refine lv_iload_n hx hb dX5_marksTrue_4 rfl (lv_at hl 3 rfl) ?_
      refine lv_aload_n hx hb dX5_marksTrue_5 rfl (lv_at hl 0 rfl) ?_
      refine w_geti hx hb hts (z_memU u5) hown hK.1 hS f5_2 (by decide) (zkd_of (rfl : zcd wC 60 = 19) rfl) (Or.inl (hts _ (z_mem k145))) dX5_marksTrue_6 ?_
      refine w_icmp_ge (tgt := 43) hx hb rfl rfl dX5_marksTrue_9 (by decide) (fun c10 => ?_) (fun c10 => ?_)
      · skip
        have h := h.1 c10
        refine lv_iload_n hx hb dX5_marksTrue_43 rfl (lv_at hl 2 rfl) ?_
        exact w_iret hx hb hr hlocks hS hS0 rfl ⟨rfl, h⟩ dX5_marksTrue_44
      · skip
        have h := h.2 c10
        refine lv_iload_n hx hb dX5_marksTrue_12 rfl (lv_at hl 2 rfl) ?_
        refine lv_aload_n hx hb dX5_marksTrue_13 rfl (lv_at hl 1 rfl) ?_
        refine lv_aload_n hx hb dX5_marksTrue_14 rfl (lv_at hl 0 rfl) ?_
        refine w_getr (j2 := 61) hx hb hts (z_memU u5) hown hK.1 hS f5_0 (by decide) (zkd_of (rfl : zcd wC 60 = 19) rfl) (zrf_of (rfl : zcd wC 60 = 19) rfl) (Or.inl (hts _ (z_mem k143))) dX5_marksTrue_15 ?_
        refine lv_iload_n hx hb dX5_marksTrue_18 rfl (lv_at hl 3 rfl) ?_
        obtain ⟨o11, h⟩ := h
        refine w_iald (n := 6) (i := (sI x2)) hx hb hK.1 (t0 := 0) rfl hS (by decide) (zkd_of (rfl : zcd wC 61 = 20) rfl) (zln_of (rfl : zcd wC 61 = 20) rfl) rfl o11.1 o11.2 (by decide) dX5_marksTrue_19 ?_
        refine w_i2l hx hb rfl dX5_marksTrue_20 ?_
        refine w_calli (va_runV (As := [.long (iL (sI (M 61 (sI x2).toNat)))]) (rest := [.int (iI x1)]) ⟨hx, hb, hml, hown, hts⟩ (cC_Studio_heardInAll l D dA b M (sI (M 61 (sI x2).toNat)) _ h) (cwV 1 hts (z_gV k616 k475 k476 k4 k477) rfl rfl rfl dm_X9_heardInAll ⟨Nat.le_of_ble_eq_true rfl, Nat.le_of_ble_eq_true rfl⟩) ⟨wPre_blind, (w_recv hS hK.1 (by decide) (zkd_of (rfl : zcd wC 32 = 8) rfl) (by decide) (rfl : vwCl[9]? = some (RX9, TX9, 3))), w_pre hS hK⟩ rfl rfl hl.1 rfl (lv_room (Nat.le_of_ble_eq_true rfl)) dX5_marksTrue_21 ⟨Nat.le_refl _, Nat.le_refl _⟩) hS0 (fun z13 M12 H locs r14 h hS hS0 => ?_)
        obtain ⟨e15, h⟩ := h
        rw [e15] at hS
        refine lv_aload_n hx hb dX5_marksTrue_24 rfl (lv_at hl 0 rfl) ?_
        refine w_getr (j2 := 62) hx hb hts (z_memU u5) hown hK.1 hS f5_1 (by decide) (zkd_of (rfl : zcd wC 60 = 19) rfl) (zrf_of (rfl : zcd wC 60 = 19) rfl) (Or.inl (hts _ (z_mem k144))) dX5_marksTrue_25 ?_
        refine lv_iload_n hx hb dX5_marksTrue_28 rfl (lv_at hl 3 rfl) ?_
        obtain ⟨o16, h⟩ := h
        refine w_iald (n := 6) (i := (sI x2)) hx hb hK.1 (t0 := 0) rfl hS (by decide) (zkd_of (rfl : zcd wC 62 = 21) rfl) (zln_of (rfl : zcd wC 62 = 21) rfl) rfl o16.1 o16.2 (by decide) dX5_marksTrue_29 ?_
        refine w_ishr hx hb dX5_marksTrue_30 ?_
        refine z_iconst hx hb dX5_marksTrue_31 ?_
        refine w_iand hx hb dX5_marksTrue_32 ?_
        refine lv_iload_n hx hb dX5_marksTrue_33 rfl (lv_at hl 3 rfl) ?_
        refine w_ishl hx hb dX5_marksTrue_34 ?_
        refine w_ior hx hb dX5_marksTrue_35 ?_
        obtain ⟨t17, e18⟩ : ∃ t17 : Int, t17 = (orI x1 (shlI (andI (shrI z13 (M 62 (sI x2).toNat)) 1) x2)) := ⟨_, rfl⟩
        refine z_top (y := t17) e18.symm ?_
        have h := h t17 e18
        refine lv_istore_n (lv' := [(2, .int (iI t17)), (0, .ref (b + 60)), (1, .ref (b + 32)), (3, .int (iI x2))]) hx hb dX5_marksTrue_36 rfl hl (by decide) rfl (fun ls hl => ?_)
        refine z_iinc (lv' := [(3, .int (iI (x2 + 1))), (2, .int (iI t17)), (0, .ref (b + 60)), (1, .ref (b + 32))]) hx hb dX5_marksTrue_37 hl (k := 3) rfl (by decide) rfl (fun ls hl => ?_)
        refine lv_goto (tgt := 4) hx hb dX5_marksTrue_40 (by decide) ?_
        obtain ⟨n19, h20, h⟩ := h
        exact i9 n19 h20 t17 (x2 + 1) _ _ _ h hS hS0 (lv_sub hl [2, 3, 1, 0] rfl)
  exact L7 n4 0 0 _ _ _ h5 hS hS0 (lv_sub hl [2, 3, 1, 0] rfl)

set_option maxRecDepth 100000 in
def wC_kept  (M : zM) (Q : Int → Prop) : Prop := wC_Planner_marksTrue  M (fun z2 => Q z2)
set_option maxHeartbeats 4000000 in
set_option maxRecDepth 100000 in
theorem cC_kept (l : Launch) (D : va_G) (dA : Nat → ClassId) (b : Nat) (M : zM)   (Q : Int → Prop) (h : wC_kept  M Q) : Met l yX11_kept (.code yX11_kept cX11_kept 1 (some .int) :: zt) (z_rm 5) (va_Pc [.ref (b + 0)] (wPre D dA vwCl (z_tys dA) wC nC b M)) (va_Qi (wQi (fun z9 u9 => u9 = M ∧ Q z9)) (zB D dA vwCl wC nC b) (zA nC b)) 0 0 (zA nC b) := by
  unfold wC_kept at h
  refine Met.ofW (cc := cX11_kept) (maxL := 1) (ret := (some .int)) (by decide) rfl ?_
  intro p e s m args below meth c s₁ B hml hv
  obtain ⟨hargs, hS, hK⟩ := hv
  have hx := B.exec
  have hb := B.bytes
  have hr := B.returns
  have hts := atoms_spec (ws := .code yX11_kept cX11_kept 1 (some .int) :: zt) B.pre
  have hown : s.vm.findClass RX11 = some m.cls := findClass_of_methodNamed B.named
  have hlocks := B.notSynchronized
  have hS0 : va_S (zA nC b) s.heap s.heap [] := va_S.rf
  have hl := lv_entry ([.ref (b + 0)]) (n := 1) (Nat.le_of_ble_eq_true rfl)
  have hent : entryFrame m args 1 = F0 m 0 ((lg_sl ([.ref (b + 0)]) ++ List.replicate (1 - (lg_sl ([.ref (b + 0)])).length) Slot.unset).toArray) [] := by rw [hargs]; exact lg_entry_eq m ([.ref (b + 0)]) 1
  rw [hent]
  generalize (lg_sl ([.ref (b + 0)]) ++ List.replicate (1 - (lg_sl ([.ref (b + 0)])).length) Slot.unset).toArray = ls at hl ⊢
  have hl : lv_has ls 1 [(0, .ref (b + 0))] := hl
  refine lv_aload_n hx hb dX11_kept_0 rfl (lv_at hl 0 rfl) ?_
  refine w_getr (j2 := 60) hx hb hts (z_memU u11) hown hK.1 hS f11_4 (by decide) (zkd_of (rfl : zcd wC 0 = 0) rfl) (zrf_of (rfl : zcd wC 0 = 0) rfl) (Or.inl (hts _ (z_mem k246))) dX11_kept_1 ?_
  refine lv_aload_n hx hb dX11_kept_4 rfl (lv_at hl 0 rfl) ?_
  refine w_getr (j2 := 32) hx hb hts (z_memU u11) hown hK.1 hS f11_2 (by decide) (zkd_of (rfl : zcd wC 0 = 0) rfl) (zrf_of (rfl : zcd wC 0 = 0) rfl) (Or.inl (hts _ (z_mem k244))) dX11_kept_5 ?_
  refine w_calli (va_runV (As := [.ref (b + 32)]) (rest := []) ⟨hx, hb, hml, hown, hts⟩ (cC_Planner_marksTrue l D dA b M  _ h) (cwV 1 hts (z_gV k612 k613 k614 k8 k615) rfl rfl rfl dm_X5_marksTrue ⟨Nat.le_of_ble_eq_true rfl, Nat.le_of_ble_eq_true rfl⟩) ⟨wPre_blind, (w_recv hS hK.1 (by decide) (zkd_of (rfl : zcd wC 60 = 19) rfl) (by decide) (rfl : vwCl[5]? = some (RX5, TX5, 9))), w_pre hS hK⟩ rfl rfl hl.1 rfl (lv_room (Nat.le_of_ble_eq_true rfl)) dX11_kept_8 ⟨Nat.le_refl _, Nat.le_refl _⟩) hS0 (fun z2 M1 H locs r3 h hS hS0 => ?_)
  obtain ⟨e4, h⟩ := h
  rw [e4] at hS
  exact w_iret hx hb hr hlocks hS hS0 (sI_of r3) ⟨rfl, h⟩ dX11_kept_11

set_option maxRecDepth 100000 in
def wC_fill (a0 : Nat) (a1 : Int) (M : zM) (Q : zM → Prop) : Prop := wL1 (fun K5 x1 M2 => (((zln wC a0) : Int) ≤ (sI x1) → Q M2) ∧ ((sI x1) < ((zln wC a0) : Int) → ((0 ≤ (sI x1) ∧ (sI x1) < (zln wC a0)) ∧ (∀ M12 : zM, M12 = zup M2 a0 (sI x1).toNat a1 → K5 (x1 + 1) M12)))) 0 M
set_option maxHeartbeats 4000000 in
set_option maxRecDepth 100000 in
theorem cC_fill (l : Launch) (D : va_G) (dA : Nat → ClassId) (b : Nat) (M : zM) (a0 : Nat) (a1 : Int) (lt_a0 : a0 < nC) (kd_a0 : zkd wC a0 = 100) (ln_a0 : zln wC a0 < 2147483648) (Q : zM → Prop) (h : wC_fill a0 a1 M Q) : Met l yJ7_fill_53178 (.code yJ7_fill_53178 cJ7_fill_53178 4 none :: zt) (z_rm 0) (va_Pc [.ref (b + a0), .int (iI a1)] (wPre D dA vwCl (z_tys dA) wC nC b M)) (va_Qv (wQv Q) (zB D dA vwCl wC nC b) (zA nC b)) 0 0 (zA nC b) := by
  unfold wC_fill at h
  refine Met.ofW (cc := cJ7_fill_53178) (maxL := 4) (ret := none) (by decide) rfl ?_
  intro p e s m args below meth c s₁ B hml hv
  obtain ⟨hargs, hS, hK⟩ := hv
  have hx := B.exec
  have hb := B.bytes
  have hr := B.returns
  have hts := atoms_spec (ws := .code yJ7_fill_53178 cJ7_fill_53178 4 none :: zt) B.pre
  have hown : s.vm.findClass RJ7 = some m.cls := findClass_of_methodNamed B.named
  have hlocks := B.notSynchronized
  have hS0 : va_S (zA nC b) s.heap s.heap [] := va_S.rf
  have hl := lv_entry ([.ref (b + a0), .int (iI a1)]) (n := 4) (Nat.le_of_ble_eq_true rfl)
  have hent : entryFrame m args 4 = F0 m 0 ((lg_sl ([.ref (b + a0), .int (iI a1)]) ++ List.replicate (4 - (lg_sl ([.ref (b + a0), .int (iI a1)])).length) Slot.unset).toArray) [] := by rw [hargs]; exact lg_entry_eq m ([.ref (b + a0), .int (iI a1)]) 4
  rw [hent]
  generalize (lg_sl ([.ref (b + a0), .int (iI a1)]) ++ List.replicate (4 - (lg_sl ([.ref (b + a0), .int (iI a1)])).length) Slot.unset).toArray = ls at hl ⊢
  have hl : lv_has ls 4 [(0, .ref (b + a0)), (1, .int (iI a1))] := hl
  refine z_iconst hx hb dJ7_fill_53178_0 ?_
  refine lv_istore_n (lv' := [(2, .int (iI 0)), (0, .ref (b + a0)), (1, .int (iI a1))]) hx hb dJ7_fill_53178_1 rfl hl (by decide) rfl (fun ls hl => ?_)
  refine lv_aload_n hx hb dJ7_fill_53178_2 rfl (lv_at hl 1 rfl) ?_
  refine w_alen (n := (zln wC a0)) hx hb hK.1 (t0 := 0) rfl hS lt_a0 kd_a0 rfl dJ7_fill_53178_3 ?_
  refine lv_istore_n (lv' := [(3, .int (iI ((zln wC a0) : Int))), (2, .int (iI 0)), (0, .ref (b + a0)), (1, .int (iI a1))]) hx hb dJ7_fill_53178_4 rfl hl (by decide) rfl (fun ls hl => ?_)
  obtain ⟨I3, ⟨n4, h5⟩, h6⟩ := h
  have L7 : ∀ (n8 : Nat) (x1 : Int) (M2 : zM) (H : Heap) (locs : List Loc) (ls : Array Slot), I3 n8 x1 M2 → zR D dA vwCl wC nC b M2 H → va_S (zA nC b) s.heap H locs → lv_has ls 4 [(0, .ref (b + a0)), (1, .int (iI a1)), (2, .int (iI x1)), (3, .int (iI ((zln wC a0) : Int)))] → W p l e (headSpec (.code yJ7_fill_53178 cJ7_fill_53178 4 none :: zt) (z_rm 0)).room s m args below meth c H locs 0 0 (MQ below (va_Qv (wQv Q) (zB D dA vwCl wC nC b) (zA nC b)) args s 0 0 (zA nC b)) (F0 m 5 ls []) := by
    intro n8
    induction n8 using Nat.strongRecOn with
    | ind n8 i9 =>
      intro x1 M2 H locs ls h hS hS0 hl
      have h := h6 n8 x1 M2 h
      refine lv_iload_n hx hb dJ7_fill_53178_5 rfl (lv_at hl 2 rfl) ?_
      refine lv_iload_n hx hb dJ7_fill_53178_6 rfl (lv_at hl 3 rfl) ?_
      refine w_icmp_ge (tgt := 20) hx hb rfl (sI_of ⟨by clear h; omega, by clear h; have := ln_a0; omega⟩) dJ7_fill_53178_7 (by decide) (fun c10 => ?_) (fun c10 => ?_)
      · skip
        have h := h.1 c10
        exact w_vret hx hb hr hlocks hS hS0 h dJ7_fill_53178_20
      · skip
        have h := h.2 c10
        refine lv_aload_n hx hb dJ7_fill_53178_10 rfl (lv_at hl 0 rfl) ?_
        refine lv_iload_n hx hb dJ7_fill_53178_11 rfl (lv_at hl 2 rfl) ?_
        refine lv_iload_n hx hb dJ7_fill_53178_12 rfl (lv_at hl 1 rfl) ?_
        obtain ⟨o11, h⟩ := h
        refine w_iast (z := a1) (n := (zln wC a0)) (i := (sI x1)) hx hb hK.1 (t0 := 0) rfl hS hS0 lt_a0 kd_a0 rfl rfl o11.1 o11.2 ln_a0 dJ7_fill_53178_13 (fun H locs hS hS0 => ?_)
        obtain ⟨M12, e13⟩ : ∃ M12 : zM, M12 = zup M2 a0 (sI x1).toNat a1 := ⟨_, rfl⟩
        rw [← e13] at hS
        have h := h M12 e13
        refine z_iinc (lv' := [(2, .int (iI (x1 + 1))), (0, .ref (b + a0)), (1, .int (iI a1)), (3, .int (iI ((zln wC a0) : Int)))]) hx hb dJ7_fill_53178_14 hl (k := 2) rfl (by decide) rfl (fun ls hl => ?_)
        refine lv_goto (tgt := 5) hx hb dJ7_fill_53178_17 (by decide) ?_
        obtain ⟨n14, h15, h⟩ := h
        exact i9 n14 h15 (x1 + 1) M12 _ _ _ h hS hS0 (lv_sub hl [1, 2, 0, 3] rfl)
  exact L7 n4 0 M _ _ _ h5 hS hS0 (lv_sub hl [2, 3, 1, 0] rfl)

set_option maxRecDepth 100000 in
def wC_Planner_trueFrom (a0 : Int) (a1 : Int) (M : zM) (Q : Int → Prop) : Prop := pL2 (fun K5 x1 x2 => ((sI (M 60 2)) ≤ (sI x2) → Q (sI x1)) ∧ ((sI x2) < (sI (M 60 2)) → ((0 ≤ (sI x2) ∧ (sI x2) < 6) ∧ wC_by (sI (a0 + (M 77 (sI x2).toNat))) a1 M (fun z13 => ((0 ≤ z13 ∧ z13 < 24) ∧ ((0 ≤ (sI x2) ∧ (sI x2) < 6) ∧ (∀ t18 : Int, t18 = (orI x1 (shlI (andI (shrI (M 76 z13.toNat) (M 62 (sI x2).toNat)) 1) x2)) → K5 t18 (x2 + 1)))))))) 0 0
set_option maxHeartbeats 4000000 in
set_option maxRecDepth 100000 in
theorem cC_Planner_trueFrom (l : Launch) (D : va_G) (dA : Nat → ClassId) (b : Nat) (M : zM) (a0 : Int) (a1 : Int)  (Q : Int → Prop) (h : wC_Planner_trueFrom a0 a1 M Q) : Met l yX5_trueFrom (.code yX5_trueFrom cX5_trueFrom 5 (some .int) :: zt) (z_rm 1) (va_Pc [.ref (b + 60), .int (iI a0), .int (iI a1)] (wPre D dA vwCl (z_tys dA) wC nC b M)) (va_Qi (wQi (fun z9 u9 => u9 = M ∧ Q z9)) (zB D dA vwCl wC nC b) (zA nC b)) 0 0 (zA nC b) := by
  unfold wC_Planner_trueFrom at h
  refine Met.ofW (cc := cX5_trueFrom) (maxL := 5) (ret := (some .int)) (by decide) rfl ?_
  intro p e s m args below meth c s₁ B hml hv
  obtain ⟨hargs, hS, hK⟩ := hv
  have hx := B.exec
  have hb := B.bytes
  have hr := B.returns
  have hts := atoms_spec (ws := .code yX5_trueFrom cX5_trueFrom 5 (some .int) :: zt) B.pre
  have hown : s.vm.findClass RX5 = some m.cls := findClass_of_methodNamed B.named
  have hlocks := B.notSynchronized
  have hS0 : va_S (zA nC b) s.heap s.heap [] := va_S.rf
  have hl := lv_entry ([.ref (b + 60), .int (iI a0), .int (iI a1)]) (n := 5) (Nat.le_of_ble_eq_true rfl)
  have hent : entryFrame m args 5 = F0 m 0 ((lg_sl ([.ref (b + 60), .int (iI a0), .int (iI a1)]) ++ List.replicate (5 - (lg_sl ([.ref (b + 60), .int (iI a0), .int (iI a1)])).length) Slot.unset).toArray) [] := by rw [hargs]; exact lg_entry_eq m ([.ref (b + 60), .int (iI a0), .int (iI a1)]) 5
  rw [hent]
  generalize (lg_sl ([.ref (b + 60), .int (iI a0), .int (iI a1)]) ++ List.replicate (5 - (lg_sl ([.ref (b + 60), .int (iI a0), .int (iI a1)])).length) Slot.unset).toArray = ls at hl ⊢
  have hl : lv_has ls 5 [(0, .ref (b + 60)), (1, .int (iI a0)), (2, .int (iI a1))] := hl
  refine z_iconst hx hb dX5_trueFrom_0 ?_
  refine lv_istore_n (lv' := [(3, .int (iI 0)), (0, .ref (b + 60)), (1, .int (iI a0)), (2, .int (iI a1))]) hx hb dX5_trueFrom_1 rfl hl (by decide) rfl (fun ls hl => ?_)
  refine z_iconst hx hb dX5_trueFrom_2 ?_
  refine lv_istore (lv' := [(4, .int (iI 0)), (3, .int (iI 0)), (0, .ref (b + 60)), (1, .int (iI a0)), (2, .int (iI a1))]) hx hb dX5_trueFrom_3 hl (by decide) rfl (fun ls hl => ?_)
  obtain ⟨I3, ⟨n4, h5⟩, h6⟩ := h
  have L7 : ∀ (n8 : Nat) (x1 x2 : Int) (H : Heap) (locs : List Loc) (ls : Array Slot), I3 n8 x1 x2 → zR D dA vwCl wC nC b M H → va_S (zA nC b) s.heap H locs → lv_has ls 5 [(0, .ref (b + 60)), (1, .int (iI a0)), (2, .int (iI a1)), (3, .int (iI x1)), (4, .int (iI x2))] → W p l e (headSpec (.code yX5_trueFrom cX5_trueFrom 5 (some .int) :: zt) (z_rm 1)).room s m args below meth c H locs 0 0 (MQ below (va_Qi (wQi (fun z9 u9 => u9 = M ∧ Q z9)) (zB D dA vwCl wC nC b) (zA nC b)) args s 0 0 (zA nC b)) (F0 m 5 ls []) := by
    intro n8
    induction n8 using Nat.strongRecOn with
    | ind n8 i9 =>
      intro x1 x2 H locs ls h hS hS0 hl
      have h := h6 n8 x1 x2 h
      refine lv_iload hx hb dX5_trueFrom_5 (lv_at hl 4 rfl) ?_
      refine lv_aload_n hx hb dX5_trueFrom_7 rfl (lv_at hl 0 rfl) ?_
      refine w_geti hx hb hts (z_memU u5) hown hK.1 hS f5_2 (by decide) (zkd_of (rfl : zcd wC 60 = 19) rfl) (Or.inl (hts _ (z_mem k145))) dX5_trueFrom_8 ?_
      refine w_icmp_ge (tgt := 55) hx hb rfl rfl dX5_trueFrom_11 (by decide) (fun c10 => ?_) (fun c10 => ?_)
      · skip
        have h := h.1 c10
        refine lv_iload_n hx hb dX5_trueFrom_55 rfl (lv_at hl 3 rfl) ?_
        exact w_iret hx hb hr hlocks hS hS0 rfl ⟨rfl, h⟩ dX5_trueFrom_56
      · skip
        have h := h.2 c10
        refine lv_iload_n hx hb dX5_trueFrom_14 rfl (lv_at hl 3 rfl) ?_
        refine lv_aload_n hx hb dX5_trueFrom_15 rfl (lv_at hl 0 rfl) ?_
        refine w_getr (j2 := 76) hx hb hts (z_memU u5) hown hK.1 hS f5_7 (by decide) (zkd_of (rfl : zcd wC 60 = 19) rfl) (zrf_of (rfl : zcd wC 60 = 19) rfl) (Or.inl (hts _ (z_mem k152))) dX5_trueFrom_16 ?_
        refine lv_iload_n hx hb dX5_trueFrom_19 rfl (lv_at hl 1 rfl) ?_
        refine lv_aload_n hx hb dX5_trueFrom_20 rfl (lv_at hl 0 rfl) ?_
        refine w_getr (j2 := 77) hx hb hts (z_memU u5) hown hK.1 hS f5_8 (by decide) (zkd_of (rfl : zcd wC 60 = 19) rfl) (zrf_of (rfl : zcd wC 60 = 19) rfl) (Or.inl (hts _ (z_mem k153))) dX5_trueFrom_21 ?_
        refine lv_iload hx hb dX5_trueFrom_24 (lv_at hl 4 rfl) ?_
        obtain ⟨o11, h⟩ := h
        refine w_iald (n := 6) (i := (sI x2)) hx hb hK.1 (t0 := 0) rfl hS (by decide) (zkd_of (rfl : zcd wC 77 = 29) rfl) (zln_of (rfl : zcd wC 77 = 29) rfl) rfl o11.1 o11.2 (by decide) dX5_trueFrom_26 ?_
        refine z_iadd hx hb dX5_trueFrom_27 ?_
        refine w_i2l hx hb rfl dX5_trueFrom_28 ?_
        refine lv_iload_n hx hb dX5_trueFrom_29 rfl (lv_at hl 2 rfl) ?_
        refine w_calli (va_runSN (As := [.long (iL (sI (a0 + (M 77 (sI x2).toNat)))), .int (iI a1)]) (rest := [.ref (b + 76), .int (iI x1)]) ⟨hx, hb, hml, hown, hts⟩ (cC_by l D dA b M (sI (a0 + (M 77 (sI x2).toNat))) a1 _ h) ⟨va_cnB 2 hts (z_gN k406) rfl rfl rfl (hK.2 (RX5, 107, yX11_by, RX11) (List.mem_of_getElem? (i := 16) rfl)) (hts _ (z_mem k1)) dm_X11_by.2 ⟨Nat.le_of_ble_eq_true rfl, Nat.le_of_ble_eq_true rfl⟩, (hts _ (z_mem k405)), trivial⟩ ⟨wPre_blind, w_pre hS hK⟩ rfl rfl hl.1 rfl (lv_room (Nat.le_of_ble_eq_true rfl)) dX5_trueFrom_30 ⟨Nat.le_refl _, Nat.le_refl _⟩) hS0 (fun z13 M12 H locs r14 h hS hS0 => ?_)
        obtain ⟨e15, h⟩ := h
        rw [e15] at hS
        obtain ⟨o16, h⟩ := h
        refine w_iald (n := 24) (i := z13) hx hb hK.1 (t0 := 0) rfl hS (by decide) (zkd_of (rfl : zcd wC 76 = 28) rfl) (zln_of (rfl : zcd wC 76 = 28) rfl) (sI_of r14) o16.1 o16.2 (by decide) dX5_trueFrom_33 ?_
        refine lv_aload_n hx hb dX5_trueFrom_34 rfl (lv_at hl 0 rfl) ?_
        refine w_getr (j2 := 62) hx hb hts (z_memU u5) hown hK.1 hS f5_1 (by decide) (zkd_of (rfl : zcd wC 60 = 19) rfl) (zrf_of (rfl : zcd wC 60 = 19) rfl) (Or.inl (hts _ (z_mem k144))) dX5_trueFrom_35 ?_
        refine lv_iload hx hb dX5_trueFrom_38 (lv_at hl 4 rfl) ?_
        obtain ⟨o17, h⟩ := h
        refine w_iald (n := 6) (i := (sI x2)) hx hb hK.1 (t0 := 0) rfl hS (by decide) (zkd_of (rfl : zcd wC 62 = 21) rfl) (zln_of (rfl : zcd wC 62 = 21) rfl) rfl o17.1 o17.2 (by decide) dX5_trueFrom_40 ?_
        refine w_ishr hx hb dX5_trueFrom_41 ?_
        refine z_iconst hx hb dX5_trueFrom_42 ?_
        refine w_iand hx hb dX5_trueFrom_43 ?_
        refine lv_iload hx hb dX5_trueFrom_44 (lv_at hl 4 rfl) ?_
        refine w_ishl hx hb dX5_trueFrom_46 ?_
        refine w_ior hx hb dX5_trueFrom_47 ?_
        obtain ⟨t18, e19⟩ : ∃ t18 : Int, t18 = (orI x1 (shlI (andI (shrI (M 76 z13.toNat) (M 62 (sI x2).toNat)) 1) x2)) := ⟨_, rfl⟩
        refine z_top (y := t18) e19.symm ?_
        have h := h t18 e19
        refine lv_istore_n (lv' := [(3, .int (iI t18)), (0, .ref (b + 60)), (1, .int (iI a0)), (2, .int (iI a1)), (4, .int (iI x2))]) hx hb dX5_trueFrom_48 rfl hl (by decide) rfl (fun ls hl => ?_)
        refine z_iinc (lv' := [(4, .int (iI (x2 + 1))), (3, .int (iI t18)), (0, .ref (b + 60)), (1, .int (iI a0)), (2, .int (iI a1))]) hx hb dX5_trueFrom_49 hl (k := 4) rfl (by decide) rfl (fun ls hl => ?_)
        refine lv_goto (tgt := 5) hx hb dX5_trueFrom_52 (by decide) ?_
        obtain ⟨n20, h21, h⟩ := h
        exact i9 n20 h21 t18 (x2 + 1) _ _ _ h hS hS0 (lv_sub hl [2, 3, 4, 1, 0] rfl)
  exact L7 n4 0 0 _ _ _ h5 hS hS0 (lv_sub hl [2, 3, 4, 1, 0] rfl)

set_option maxRecDepth 100000 in
def wC_Planner_listTrue (a0 : Nat) (a1 : Nat) (a2 : Nat) (M : zM) (Q : zM → Prop) : Prop := wL2 (fun K12 x11 x12 M13 => ((sI x12) ≤ 0 → Q M13) ∧ (0 < (sI x12) → wC_Ring_fillUnder a0 76 x12 M13 (fun M22 => wL1 (fun K30 x23 M24 => ((sI (M24 60 2)) ≤ (sI x23) → wL2 (fun K69 x33 x34 M35 => ((sI x12) ≤ (sI x34) → K12 x33 (x12 + (-1)) M35) ∧ ((sI x34) < (sI x12) → (((zln wC a2) : Int) ≤ (sI x33) → K12 x33 (x12 + (-1)) M35) ∧ ((sI x33) < ((zln wC a2) : Int) → wC_Planner_trueFrom x34 x12 M35 (fun z50 => ((0 ≤ (sI x33) ∧ (sI x33) < (zln wC a2)) ∧ (∀ M54 : zM, M54 = zup M35 a2 (sI x33).toNat z50 → K69 (x33 + 1) (x34 + 1) M54)))))) x11 0 M24) ∧ ((sI x23) < (sI (M24 60 2)) → ((0 ≤ (sI x23) ∧ (sI x23) < 6) ∧ wC_Motor_wayBy a1 (sI (M24 61 (sI x23).toNat)) x12 M24 (fun z60 => ((0 ≤ (sI x23) ∧ (sI x23) < 6) ∧ (∀ M64 : zM, M64 = zup M24 77 (sI x23).toNat z60 → K30 (x23 + 1) M64)))))) 0 M22))) 0 (M (a0 + 1) 1) M
set_option maxHeartbeats 4000000 in
set_option maxRecDepth 100000 in
theorem cC_Planner_listTrue (l : Launch) (D : va_G) (dA : Nat → ClassId) (b : Nat) (M : zM) (a0 : Nat) (a1 : Nat) (a2 : Nat) (lt_a0 : a0 < nC) (cd_a0 : zcd wC a0 = 14) (lt_a1 : a1 < nC) (cd_a1 : zcd wC a1 = 11) (lt_a2 : a2 < nC) (kd_a2 : zkd wC a2 = 100) (ln_a2 : zln wC a2 < 2147483648) (Q : zM → Prop) (h : wC_Planner_listTrue a0 a1 a2 M Q) : Met l yX5_listTrue (.code yX5_listTrue cX5_listTrue 7 none :: zt) (z_rm 3) (va_Pc [.ref (b + 60), .ref (b + a0), .ref (b + a1), .ref (b + a2)] (wPre D dA vwCl (z_tys dA) wC nC b M)) (va_Qv (wQv Q) (zB D dA vwCl wC nC b) (zA nC b)) 0 0 (zA nC b) := by
  unfold wC_Planner_listTrue at h
  refine Met.ofW (cc := cX5_listTrue) (maxL := 7) (ret := none) (by decide) rfl ?_
  intro p e s m args below meth c s₁ B hml hv
  obtain ⟨hargs, hS, hK⟩ := hv
  have hx := B.exec
  have hb := B.bytes
  have hr := B.returns
  have hts := atoms_spec (ws := .code yX5_listTrue cX5_listTrue 7 none :: zt) B.pre
  have hown : s.vm.findClass RX5 = some m.cls := findClass_of_methodNamed B.named
  have hlocks := B.notSynchronized
  have hS0 : va_S (zA nC b) s.heap s.heap [] := va_S.rf
  have hl := lv_entry ([.ref (b + 60), .ref (b + a0), .ref (b + a1), .ref (b + a2)]) (n := 7) (Nat.le_of_ble_eq_true rfl)
  have hent : entryFrame m args 7 = F0 m 0 ((lg_sl ([.ref (b + 60), .ref (b + a0), .ref (b + a1), .ref (b + a2)]) ++ List.replicate (7 - (lg_sl ([.ref (b + 60), .ref (b + a0), .ref (b + a1), .ref (b + a2)])).length) Slot.unset).toArray) [] := by rw [hargs]; exact lg_entry_eq m ([.ref (b + 60), .ref (b + a0), .ref (b + a1), .ref (b + a2)]) 7
  rw [hent]
  generalize (lg_sl ([.ref (b + 60), .ref (b + a0), .ref (b + a1), .ref (b + a2)]) ++ List.replicate (7 - (lg_sl ([.ref (b + 60), .ref (b + a0), .ref (b + a1), .ref (b + a2)])).length) Slot.unset).toArray = ls at hl ⊢
  have hl : lv_has ls 7 [(0, .ref (b + 60)), (1, .ref (b + a0)), (2, .ref (b + a1)), (3, .ref (b + a2))] := hl
  obtain ⟨lt1, cd2, lt3, cd4, lt5, cd6⟩ := nx_ring a0 lt_a0 cd_a0
  obtain ⟨lt7, cd8, lt9, cd10⟩ := nx_motor a1 lt_a1 cd_a1
  refine z_iconst hx hb dX5_listTrue_0 ?_
  refine lv_istore (lv' := [(4, .int (iI 0)), (0, .ref (b + 60)), (1, .ref (b + a0)), (2, .ref (b + a1)), (3, .ref (b + a2))]) hx hb dX5_listTrue_1 hl (by decide) rfl (fun ls hl => ?_)
  refine lv_aload_n hx hb dX5_listTrue_3 rfl (lv_at hl 2 rfl) ?_
  refine w_getr (j2 := (a0 + 1)) hx hb hts (z_memU u6) hown hK.1 hS f6_0 lt_a0 (zkd_of cd_a0 rfl) (zrf_of cd_a0 rfl) (Or.inl (hts _ (z_mem k94))) dX5_listTrue_4 ?_
  refine w_geti hx hb hts (z_memU u8) hown hK.1 hS f8_1 lt1 (zkd_of cd2 rfl) (Or.inl (hts _ (z_mem k48))) dX5_listTrue_7 ?_
  refine lv_istore (lv' := [(5, .int (iI (M (a0 + 1) 1))), (4, .int (iI 0)), (0, .ref (b + 60)), (1, .ref (b + a0)), (2, .ref (b + a1)), (3, .ref (b + a2))]) hx hb dX5_listTrue_10 hl (by decide) rfl (fun ls hl => ?_)
  obtain ⟨I14, ⟨n15, h16⟩, h17⟩ := h
  have L18 : ∀ (n19 : Nat) (x11 x12 : Int) (M13 : zM) (H : Heap) (locs : List Loc) (ls : Array Slot), I14 n19 x11 x12 M13 → zR D dA vwCl wC nC b M13 H → va_S (zA nC b) s.heap H locs → lv_has ls 7 [(0, .ref (b + 60)), (1, .ref (b + a0)), (2, .ref (b + a1)), (3, .ref (b + a2)), (4, .int (iI x11)), (5, .int (iI x12))] → W p l e (headSpec (.code yX5_listTrue cX5_listTrue 7 none :: zt) (z_rm 3)).room s m args below meth c H locs 0 0 (MQ below (va_Qv (wQv Q) (zB D dA vwCl wC nC b) (zA nC b)) args s 0 0 (zA nC b)) (F0 m 12 ls []) := by
    intro n19
    induction n19 using Nat.strongRecOn with
    | ind n19 i20 =>
      intro x11 x12 M13 H locs ls h hS hS0 hl
      have h := h17 n19 x11 x12 M13 h
      refine lv_iload hx hb dX5_listTrue_12 (lv_at hl 5 rfl) ?_
      refine w_if_le (tgt := 110) hx hb rfl dX5_listTrue_14 (by decide) (fun c21 => ?_) (fun c21 => ?_)
      · skip
        have h := h.1 c21
        exact w_vret hx hb hr hlocks hS hS0 h dX5_listTrue_110
      · skip
        have h := h.2 c21
        refine lv_aload_n hx hb dX5_listTrue_17 rfl (lv_at hl 1 rfl) ?_
        refine lv_aload_n hx hb dX5_listTrue_18 rfl (lv_at hl 0 rfl) ?_
        refine w_getr (j2 := 76) hx hb hts (z_memU u5) hown hK.1 hS f5_7 (by decide) (zkd_of (rfl : zcd wC 60 = 19) rfl) (zrf_of (rfl : zcd wC 60 = 19) rfl) (Or.inl (hts _ (z_mem k152))) dX5_listTrue_19 ?_
        refine lv_iload hx hb dX5_listTrue_22 (lv_at hl 5 rfl) ?_
        refine w_callv (va_runV (As := [.ref (b + 76), .int (iI x12)]) (rest := []) ⟨hx, hb, hml, hown, hts⟩ (cC_Ring_fillUnder l D dA b M13 a0 76 x12 lt_a0 cd_a0 (by decide) (zkd_of (rfl : zcd wC 76 = 28) rfl) (Nat.lt_of_le_of_lt (Nat.le_of_eq (zln_of (rfl : zcd wC 76 = 28) rfl)) (by decide)) _ h) (cwV 2 hts (z_gV k632 k399 k400 k6 k401) rfl rfl rfl dm_X6_fillUnder ⟨Nat.le_of_ble_eq_true rfl, Nat.le_of_ble_eq_true rfl⟩) ⟨wPre_blind, (w_recv hS hK.1 lt_a0 (zkd_of cd_a0 rfl) (by decide) (rfl : vwCl[6]? = some (RX6, TX6, 6))), w_pre hS hK⟩ rfl rfl hl.1 rfl (lv_room (Nat.le_of_ble_eq_true rfl)) dX5_listTrue_24 ⟨Nat.le_refl _, Nat.le_refl _⟩) hS0 (fun M22 H locs h hS hS0 => ?_)
        refine z_iconst hx hb dX5_listTrue_27 ?_
        refine lv_istore (lv' := [(6, .int (iI 0)), (0, .ref (b + 60)), (1, .ref (b + a0)), (2, .ref (b + a1)), (3, .ref (b + a2)), (4, .int (iI x11)), (5, .int (iI x12))]) hx hb dX5_listTrue_28 hl (by decide) rfl (fun ls hl => ?_)
        obtain ⟨I25, ⟨n26, h27⟩, h28⟩ := h
        have L29 : ∀ (n30 : Nat) (x23 : Int) (M24 : zM) (H : Heap) (locs : List Loc) (ls : Array Slot), I25 n30 x23 M24 → zR D dA vwCl wC nC b M24 H → va_S (zA nC b) s.heap H locs → lv_has ls 7 [(0, .ref (b + 60)), (1, .ref (b + a0)), (2, .ref (b + a1)), (3, .ref (b + a2)), (4, .int (iI x11)), (5, .int (iI x12)), (6, .int (iI x23))] → W p l e (headSpec (.code yX5_listTrue cX5_listTrue 7 none :: zt) (z_rm 3)).room s m args below meth c H locs 0 0 (MQ below (va_Qv (wQv Q) (zB D dA vwCl wC nC b) (zA nC b)) args s 0 0 (zA nC b)) (F0 m 30 ls []) := by
          intro n30
          induction n30 using Nat.strongRecOn with
          | ind n30 i31 =>
            intro x23 M24 H locs ls h hS hS0 hl
            have h := h28 n30 x23 M24 h
            refine lv_iload hx hb dX5_listTrue_30 (lv_at hl 6 rfl) ?_
            refine lv_aload_n hx hb dX5_listTrue_32 rfl (lv_at hl 0 rfl) ?_
            refine w_geti hx hb hts (z_memU u5) hown hK.1 hS f5_2 (by decide) (zkd_of (rfl : zcd wC 60 = 19) rfl) (Or.inl (hts _ (z_mem k145))) dX5_listTrue_33 ?_
            refine w_icmp_ge (tgt := 66) hx hb rfl rfl dX5_listTrue_36 (by decide) (fun c32 => ?_) (fun c32 => ?_)
            · skip
              have h := h.1 c32
              refine z_iconst hx hb dX5_listTrue_66 ?_
              refine lv_istore (lv' := [(6, .int (iI 0)), (0, .ref (b + 60)), (1, .ref (b + a0)), (2, .ref (b + a1)), (3, .ref (b + a2)), (4, .int (iI x11)), (5, .int (iI x12))]) hx hb dX5_listTrue_67 hl (by decide) rfl (fun ls hl => ?_)
              obtain ⟨I36, ⟨n37, h38⟩, h39⟩ := h
              have L40 : ∀ (n41 : Nat) (x33 x34 : Int) (M35 : zM) (H : Heap) (locs : List Loc) (ls : Array Slot), I36 n41 x33 x34 M35 → zR D dA vwCl wC nC b M35 H → va_S (zA nC b) s.heap H locs → lv_has ls 7 [(0, .ref (b + 60)), (1, .ref (b + a0)), (2, .ref (b + a1)), (3, .ref (b + a2)), (4, .int (iI x33)), (5, .int (iI x12)), (6, .int (iI x34))] → W p l e (headSpec (.code yX5_listTrue cX5_listTrue 7 none :: zt) (z_rm 3)).room s m args below meth c H locs 0 0 (MQ below (va_Qv (wQv Q) (zB D dA vwCl wC nC b) (zA nC b)) args s 0 0 (zA nC b)) (F0 m 69 ls []) := by
                intro n41
                induction n41 using Nat.strongRecOn with
                | ind n41 i42 =>
                  intro x33 x34 M35 H locs ls h hS hS0 hl
                  have h := h39 n41 x33 x34 M35 h
                  refine lv_iload hx hb dX5_listTrue_69 (lv_at hl 6 rfl) ?_
                  refine lv_iload hx hb dX5_listTrue_71 (lv_at hl 5 rfl) ?_
                  refine w_icmp_ge (tgt := 104) hx hb rfl rfl dX5_listTrue_73 (by decide) (fun c43 => ?_) (fun c43 => ?_)
                  · skip
                    have h := h.1 c43
                    refine z_iinc (lv' := [(5, .int (iI (x12 + (-1)))), (0, .ref (b + 60)), (1, .ref (b + a0)), (2, .ref (b + a1)), (3, .ref (b + a2)), (4, .int (iI x33)), (6, .int (iI x34))]) hx hb dX5_listTrue_104 hl (k := 5) rfl (by decide) rfl (fun ls hl => ?_)
                    refine lv_goto (tgt := 12) hx hb dX5_listTrue_107 (by decide) ?_
                    obtain ⟨n44, h45, h⟩ := h
                    exact i20 n44 h45 x33 (x12 + (-1)) M35 _ _ _ h hS hS0 (lv_sub hl [1, 2, 3, 4, 5, 0] rfl)
                  · skip
                    have h := h.2 c43
                    refine lv_iload hx hb dX5_listTrue_76 (lv_at hl 4 rfl) ?_
                    refine lv_aload_n hx hb dX5_listTrue_78 rfl (lv_at hl 3 rfl) ?_
                    refine w_alen (n := (zln wC a2)) hx hb hK.1 (t0 := 0) rfl hS lt_a2 kd_a2 rfl dX5_listTrue_79 ?_
                    refine w_icmp_ge (tgt := 104) hx hb rfl (sI_of ⟨by clear h; omega, by clear h; have := ln_a2; omega⟩) dX5_listTrue_80 (by decide) (fun c46 => ?_) (fun c46 => ?_)
                    · skip
                      have h := h.1 c46
                      refine z_iinc (lv' := [(5, .int (iI (x12 + (-1)))), (0, .ref (b + 60)), (1, .ref (b + a0)), (2, .ref (b + a1)), (3, .ref (b + a2)), (4, .int (iI x33)), (6, .int (iI x34))]) hx hb dX5_listTrue_104 hl (k := 5) rfl (by decide) rfl (fun ls hl => ?_)
                      refine lv_goto (tgt := 12) hx hb dX5_listTrue_107 (by decide) ?_
                      obtain ⟨n47, h48, h⟩ := h
                      exact i20 n47 h48 x33 (x12 + (-1)) M35 _ _ _ h hS hS0 (lv_sub hl [1, 2, 3, 4, 5, 0] rfl)
                    · skip
                      have h := h.2 c46
                      refine lv_aload_n hx hb dX5_listTrue_83 rfl (lv_at hl 3 rfl) ?_
                      refine lv_iload hx hb dX5_listTrue_84 (lv_at hl 4 rfl) ?_
                      refine lv_aload_n hx hb dX5_listTrue_86 rfl (lv_at hl 0 rfl) ?_
                      refine lv_iload hx hb dX5_listTrue_87 (lv_at hl 6 rfl) ?_
                      refine lv_iload hx hb dX5_listTrue_89 (lv_at hl 5 rfl) ?_
                      refine w_calli (va_runV (As := [.int (iI x34), .int (iI x12)]) (rest := [.int (iI x33), .ref (b + a2)]) ⟨hx, hb, hml, hown, hts⟩ (cC_Planner_trueFrom l D dA b M35 x34 x12 _ h) (cwV 2 hts (z_gV k634 k635 k1371 k8 k636) rfl rfl rfl dm_X5_trueFrom ⟨Nat.le_of_ble_eq_true rfl, Nat.le_of_ble_eq_true rfl⟩) ⟨wPre_blind, (w_recv hS hK.1 (by decide) (zkd_of (rfl : zcd wC 60 = 19) rfl) (by decide) (rfl : vwCl[5]? = some (RX5, TX5, 9))), w_pre hS hK⟩ rfl rfl hl.1 rfl (lv_room (Nat.le_of_ble_eq_true rfl)) dX5_listTrue_91 ⟨Nat.le_refl _, Nat.le_refl _⟩) hS0 (fun z50 M49 H locs r51 h hS hS0 => ?_)
                      obtain ⟨e52, h⟩ := h
                      rw [e52] at hS
                      obtain ⟨o53, h⟩ := h
                      refine w_iast (z := z50) (n := (zln wC a2)) (i := (sI x33)) hx hb hK.1 (t0 := 0) rfl hS hS0 lt_a2 kd_a2 rfl rfl o53.1 o53.2 ln_a2 dX5_listTrue_94 (fun H locs hS hS0 => ?_)
                      obtain ⟨M54, e55⟩ : ∃ M54 : zM, M54 = zup M35 a2 (sI x33).toNat z50 := ⟨_, rfl⟩
                      rw [← e55] at hS
                      have h := h M54 e55
                      refine z_iinc (lv' := [(4, .int (iI (x33 + 1))), (0, .ref (b + 60)), (1, .ref (b + a0)), (2, .ref (b + a1)), (3, .ref (b + a2)), (5, .int (iI x12)), (6, .int (iI x34))]) hx hb dX5_listTrue_95 hl (k := 4) rfl (by decide) rfl (fun ls hl => ?_)
                      refine z_iinc (lv' := [(6, .int (iI (x34 + 1))), (4, .int (iI (x33 + 1))), (0, .ref (b + 60)), (1, .ref (b + a0)), (2, .ref (b + a1)), (3, .ref (b + a2)), (5, .int (iI x12))]) hx hb dX5_listTrue_98 hl (k := 6) rfl (by decide) rfl (fun ls hl => ?_)
                      refine lv_goto (tgt := 69) hx hb dX5_listTrue_101 (by decide) ?_
                      obtain ⟨n56, h57, h⟩ := h
                      exact i42 n56 h57 (x33 + 1) (x34 + 1) M54 _ _ _ h hS hS0 (lv_sub hl [2, 3, 4, 5, 1, 6, 0] rfl)
              exact L40 n37 x11 0 M24 _ _ _ h38 hS hS0 (lv_sub hl [1, 2, 3, 4, 5, 6, 0] rfl)
            · skip
              have h := h.2 c32
              refine lv_aload_n hx hb dX5_listTrue_39 rfl (lv_at hl 0 rfl) ?_
              refine w_getr (j2 := 77) hx hb hts (z_memU u5) hown hK.1 hS f5_8 (by decide) (zkd_of (rfl : zcd wC 60 = 19) rfl) (zrf_of (rfl : zcd wC 60 = 19) rfl) (Or.inl (hts _ (z_mem k153))) dX5_listTrue_40 ?_
              refine lv_iload hx hb dX5_listTrue_43 (lv_at hl 6 rfl) ?_
              refine lv_aload_n hx hb dX5_listTrue_45 rfl (lv_at hl 2 rfl) ?_
              refine lv_aload_n hx hb dX5_listTrue_46 rfl (lv_at hl 0 rfl) ?_
              refine w_getr (j2 := 61) hx hb hts (z_memU u5) hown hK.1 hS f5_0 (by decide) (zkd_of (rfl : zcd wC 60 = 19) rfl) (zrf_of (rfl : zcd wC 60 = 19) rfl) (Or.inl (hts _ (z_mem k143))) dX5_listTrue_47 ?_
              refine lv_iload hx hb dX5_listTrue_50 (lv_at hl 6 rfl) ?_
              obtain ⟨o58, h⟩ := h
              refine w_iald (n := 6) (i := (sI x23)) hx hb hK.1 (t0 := 0) rfl hS (by decide) (zkd_of (rfl : zcd wC 61 = 20) rfl) (zln_of (rfl : zcd wC 61 = 20) rfl) rfl o58.1 o58.2 (by decide) dX5_listTrue_52 ?_
              refine w_i2l hx hb rfl dX5_listTrue_53 ?_
              refine lv_iload hx hb dX5_listTrue_54 (lv_at hl 5 rfl) ?_
              refine w_calli (va_runV (As := [.long (iL (sI (M24 61 (sI x23).toNat))), .int (iI x12)]) (rest := [.int (iI x23), .ref (b + 77)]) ⟨hx, hb, hml, hown, hts⟩ (cC_Motor_wayBy l D dA b M24 a1 (sI (M24 61 (sI x23).toNat)) x12 lt_a1 cd_a1 _ h) (cwV 2 hts (z_gV k633 k484 k485 k5 k486) rfl rfl rfl dm_X2_wayBy ⟨Nat.le_of_ble_eq_true rfl, Nat.le_of_ble_eq_true rfl⟩) ⟨wPre_blind, (w_recv hS hK.1 lt_a1 (zkd_of cd_a1 rfl) (by decide) (rfl : vwCl[2]? = some (RX2, TX2, 3))), w_pre hS hK⟩ rfl rfl hl.1 rfl (lv_room (Nat.le_of_ble_eq_true rfl)) dX5_listTrue_56 ⟨Nat.le_refl _, Nat.le_refl _⟩) hS0 (fun z60 M59 H locs r61 h hS hS0 => ?_)
              obtain ⟨e62, h⟩ := h
              rw [e62] at hS
              obtain ⟨o63, h⟩ := h
              refine w_iast (z := z60) (n := 6) (i := (sI x23)) hx hb hK.1 (t0 := 0) rfl hS hS0 (by decide) (zkd_of (rfl : zcd wC 77 = 29) rfl) (zln_of (rfl : zcd wC 77 = 29) rfl) rfl o63.1 o63.2 (by decide) dX5_listTrue_59 (fun H locs hS hS0 => ?_)
              obtain ⟨M64, e65⟩ : ∃ M64 : zM, M64 = zup M24 77 (sI x23).toNat z60 := ⟨_, rfl⟩
              rw [← e65] at hS
              have h := h M64 e65
              refine z_iinc (lv' := [(6, .int (iI (x23 + 1))), (0, .ref (b + 60)), (1, .ref (b + a0)), (2, .ref (b + a1)), (3, .ref (b + a2)), (4, .int (iI x11)), (5, .int (iI x12))]) hx hb dX5_listTrue_60 hl (k := 6) rfl (by decide) rfl (fun ls hl => ?_)
              refine lv_goto (tgt := 30) hx hb dX5_listTrue_63 (by decide) ?_
              obtain ⟨n66, h67, h⟩ := h
              exact i31 n66 h67 (x23 + 1) M64 _ _ _ h hS hS0 (lv_sub hl [1, 2, 3, 4, 5, 6, 0] rfl)
        exact L29 n26 0 M22 _ _ _ h27 hS hS0 (lv_sub hl [1, 2, 3, 4, 5, 6, 0] rfl)
  exact L18 n15 0 (M (a0 + 1) 1) M _ _ _ h16 hS hS0 (lv_sub hl [2, 3, 4, 5, 1, 0] rfl)

set_option maxRecDepth 100000 in
def wC_Planner_cost (a0 : Nat) (a1 : Int) (a2 : Int) (M : zM) (Q : Int → Prop) : Prop := Q (sI ((5 * a1) + (absI (sI (a2 - (M a0 2))))))
set_option maxHeartbeats 4000000 in
set_option maxRecDepth 100000 in
theorem cC_Planner_cost (l : Launch) (D : va_G) (dA : Nat → ClassId) (b : Nat) (M : zM) (a0 : Nat) (a1 : Int) (a2 : Int) (lt_a0 : a0 < nC) (cd_a0 : zcd wC a0 = 14) (Q : Int → Prop) (h : wC_Planner_cost a0 a1 a2 M Q) : Met l yX5_cost (.code yX5_cost cX5_cost 3 (some .int) :: zt) (z_rm 1) (va_Pc [.ref (b + a0), .int (iI a1), .int (iI a2)] (wPre D dA vwCl (z_tys dA) wC nC b M)) (va_Qi (wQi (fun z9 u9 => u9 = M ∧ Q z9)) (zB D dA vwCl wC nC b) (zA nC b)) 0 0 (zA nC b) := by
  unfold wC_Planner_cost at h
  refine Met.ofW (cc := cX5_cost) (maxL := 3) (ret := (some .int)) (by decide) rfl ?_
  intro p e s m args below meth c s₁ B hml hv
  obtain ⟨hargs, hS, hK⟩ := hv
  have hx := B.exec
  have hb := B.bytes
  have hr := B.returns
  have hts := atoms_spec (ws := .code yX5_cost cX5_cost 3 (some .int) :: zt) B.pre
  have hown : s.vm.findClass RX5 = some m.cls := findClass_of_methodNamed B.named
  have hlocks := B.notSynchronized
  have hS0 : va_S (zA nC b) s.heap s.heap [] := va_S.rf
  have hl := lv_entry ([.ref (b + a0), .int (iI a1), .int (iI a2)]) (n := 3) (Nat.le_of_ble_eq_true rfl)
  have hent : entryFrame m args 3 = F0 m 0 ((lg_sl ([.ref (b + a0), .int (iI a1), .int (iI a2)]) ++ List.replicate (3 - (lg_sl ([.ref (b + a0), .int (iI a1), .int (iI a2)])).length) Slot.unset).toArray) [] := by rw [hargs]; exact lg_entry_eq m ([.ref (b + a0), .int (iI a1), .int (iI a2)]) 3
  rw [hent]
  generalize (lg_sl ([.ref (b + a0), .int (iI a1), .int (iI a2)]) ++ List.replicate (3 - (lg_sl ([.ref (b + a0), .int (iI a1), .int (iI a2)])).length) Slot.unset).toArray = ls at hl ⊢
  have hl : lv_has ls 3 [(0, .ref (b + a0)), (1, .int (iI a1)), (2, .int (iI a2))] := hl
  obtain ⟨lt1, cd2, lt3, cd4, lt5, cd6⟩ := nx_ring a0 lt_a0 cd_a0
  refine z_iconst hx hb dX5_cost_0 ?_
  refine lv_iload_n hx hb dX5_cost_1 rfl (lv_at hl 1 rfl) ?_
  refine z_imul hx hb dX5_cost_2 ?_
  refine lv_iload_n hx hb dX5_cost_3 rfl (lv_at hl 2 rfl) ?_
  refine lv_aload_n hx hb dX5_cost_4 rfl (lv_at hl 0 rfl) ?_
  refine w_geti hx hb hts (z_memU u6) hown hK.1 hS f6_2 lt_a0 (zkd_of cd_a0 rfl) (Or.inl (hts _ (z_mem k102))) dX5_cost_5 ?_
  refine z_isub hx hb dX5_cost_8 ?_
  refine w_mabs hx hb (hml.trans hl.1.symm) hown (hts _ (z_mem k643)) (hts _ (z_mem k644)) (hts _ (z_mem k15)) (hts _ (z_mem k645)) (by exact Nat.le_of_ble_eq_true rfl) (by exact Nat.le_of_ble_eq_true rfl) (by exact Nat.le_refl _) (by exact Nat.le_refl _) rfl dX5_cost_9 ?_
  refine z_iadd hx hb dX5_cost_12 ?_
  exact w_iret hx hb hr hlocks hS hS0 rfl ⟨rfl, h⟩ dX5_cost_13

set_option maxRecDepth 100000 in
def wC_Planner_listCheapest (a0 : Nat) (a1 : Nat) (M : zM) (Q : zM → Prop) : Prop := wC_fill 75 1000000 M (fun M7 => wL2 (fun K14 x8 x9 M10 => ((sI (M10 (a0 + 1) 1)) ≤ (sI x9) → Q M10) ∧ ((sI x9) < (sI (M10 (a0 + 1) 1)) → wL2 (fun K29 x19 x20 M21 => ((sI ((M21 (a0 + 1) 1) - x9)) ≤ (sI x20) → K14 x19 (x9 + 1) M21) ∧ ((sI x20) < (sI ((M21 (a0 + 1) 1) - x9)) → (((zln wC a1) : Int) ≤ (sI x19) → K14 x19 (x9 + 1) M21) ∧ ((sI x19) < ((zln wC a1) : Int) → ((0 ≤ (sI x19) ∧ (sI x19) < (zln wC a1)) ∧ ((0 ≤ (sI x19) ∧ (sI x19) < (zln wC a1)) ∧ ((0 ≤ (sI (M21 a1 (sI x19).toNat)) ∧ (sI (M21 a1 (sI x19).toNat)) < 64) ∧ wC_Planner_cost a0 x9 x20 M21 (fun z39 => ((0 ≤ (sI (M21 a1 (sI x19).toNat)) ∧ (sI (M21 a1 (sI x19).toNat)) < 64) ∧ (∀ M43 : zM, M43 = zup M21 75 (sI (M21 a1 (sI x19).toNat)).toNat (min (sI (M21 75 (sI (M21 a1 (sI x19).toNat)).toNat)) z39) → K29 (x19 + 1) (x20 + 1) M43))))))))) x8 0 M10)) 0 0 M7)
set_option maxHeartbeats 4000000 in
set_option maxRecDepth 100000 in
theorem cC_Planner_listCheapest (l : Launch) (D : va_G) (dA : Nat → ClassId) (b : Nat) (M : zM) (a0 : Nat) (a1 : Nat) (lt_a0 : a0 < nC) (cd_a0 : zcd wC a0 = 14) (lt_a1 : a1 < nC) (kd_a1 : zkd wC a1 = 100) (ln_a1 : zln wC a1 < 2147483648) (Q : zM → Prop) (h : wC_Planner_listCheapest a0 a1 M Q) : Met l yX5_listCheapest (.code yX5_listCheapest cX5_listCheapest 6 none :: zt) (z_rm 2) (va_Pc [.ref (b + 60), .ref (b + a0), .ref (b + a1)] (wPre D dA vwCl (z_tys dA) wC nC b M)) (va_Qv (wQv Q) (zB D dA vwCl wC nC b) (zA nC b)) 0 0 (zA nC b) := by
  unfold wC_Planner_listCheapest at h
  refine Met.ofW (cc := cX5_listCheapest) (maxL := 6) (ret := none) (by decide) rfl ?_
  intro p e s m args below meth c s₁ B hml hv
  obtain ⟨hargs, hS, hK⟩ := hv
  have hx := B.exec
  have hb := B.bytes
  have hr := B.returns
  have hts := atoms_spec (ws := .code yX5_listCheapest cX5_listCheapest 6 none :: zt) B.pre
  have hown : s.vm.findClass RX5 = some m.cls := findClass_of_methodNamed B.named
  have hlocks := B.notSynchronized
  have hS0 : va_S (zA nC b) s.heap s.heap [] := va_S.rf
  have hl := lv_entry ([.ref (b + 60), .ref (b + a0), .ref (b + a1)]) (n := 6) (Nat.le_of_ble_eq_true rfl)
  have hent : entryFrame m args 6 = F0 m 0 ((lg_sl ([.ref (b + 60), .ref (b + a0), .ref (b + a1)]) ++ List.replicate (6 - (lg_sl ([.ref (b + 60), .ref (b + a0), .ref (b + a1)])).length) Slot.unset).toArray) [] := by rw [hargs]; exact lg_entry_eq m ([.ref (b + 60), .ref (b + a0), .ref (b + a1)]) 6
  rw [hent]
  generalize (lg_sl ([.ref (b + 60), .ref (b + a0), .ref (b + a1)]) ++ List.replicate (6 - (lg_sl ([.ref (b + 60), .ref (b + a0), .ref (b + a1)])).length) Slot.unset).toArray = ls at hl ⊢
  have hl : lv_has ls 6 [(0, .ref (b + 60)), (1, .ref (b + a0)), (2, .ref (b + a1))] := hl
  obtain ⟨lt1, cd2, lt3, cd4, lt5, cd6⟩ := nx_ring a0 lt_a0 cd_a0
  refine lv_aload_n hx hb dX5_listCheapest_0 rfl (lv_at hl 0 rfl) ?_
  refine w_getr (j2 := 75) hx hb hts (z_memU u5) hown hK.1 hS f5_6 (by decide) (zkd_of (rfl : zcd wC 60 = 19) rfl) (zrf_of (rfl : zcd wC 60 = 19) rfl) (Or.inl (hts _ (z_mem k151))) dX5_listCheapest_1 ?_
  refine z_ldc (n := 1000000) hx hb hown (hts _ (z_mem k625)) (by decide) dX5_listCheapest_4 ?_
  refine w_callv (va_runS (As := [.ref (b + 75), .int (iI 1000000)]) (rest := []) ⟨hx, hb, hml, hown, hts⟩ (cC_fill l D dA b M 75 1000000 (by decide) (zkd_of (rfl : zcd wC 75 = 27) rfl) (Nat.lt_of_le_of_lt (Nat.le_of_eq (zln_of (rfl : zcd wC 75 = 27) rfl)) (by decide)) _ h) (va_cwS 2 hts (z_gS k626 k170 k10 k171) rfl rfl rfl dm_J7_fill_53178.2 ⟨Nat.le_of_ble_eq_true rfl, Nat.le_of_ble_eq_true rfl⟩) ⟨wPre_blind, w_pre hS hK⟩ rfl rfl hl.1 rfl (lv_room (Nat.le_of_ble_eq_true rfl)) dX5_listCheapest_6 ⟨Nat.le_refl _, Nat.le_refl _⟩) hS0 (fun M7 H locs h hS hS0 => ?_)
  refine z_iconst hx hb dX5_listCheapest_9 ?_
  refine lv_istore_n (lv' := [(3, .int (iI 0)), (0, .ref (b + 60)), (1, .ref (b + a0)), (2, .ref (b + a1))]) hx hb dX5_listCheapest_10 rfl hl (by decide) rfl (fun ls hl => ?_)
  refine z_iconst hx hb dX5_listCheapest_11 ?_
  refine lv_istore (lv' := [(4, .int (iI 0)), (3, .int (iI 0)), (0, .ref (b + 60)), (1, .ref (b + a0)), (2, .ref (b + a1))]) hx hb dX5_listCheapest_12 hl (by decide) rfl (fun ls hl => ?_)
  obtain ⟨I11, ⟨n12, h13⟩, h14⟩ := h
  have L15 : ∀ (n16 : Nat) (x8 x9 : Int) (M10 : zM) (H : Heap) (locs : List Loc) (ls : Array Slot), I11 n16 x8 x9 M10 → zR D dA vwCl wC nC b M10 H → va_S (zA nC b) s.heap H locs → lv_has ls 6 [(0, .ref (b + 60)), (1, .ref (b + a0)), (2, .ref (b + a1)), (3, .int (iI x8)), (4, .int (iI x9))] → W p l e (headSpec (.code yX5_listCheapest cX5_listCheapest 6 none :: zt) (z_rm 2)).room s m args below meth c H locs 0 0 (MQ below (va_Qv (wQv Q) (zB D dA vwCl wC nC b) (zA nC b)) args s 0 0 (zA nC b)) (F0 m 14 ls []) := by
    intro n16
    induction n16 using Nat.strongRecOn with
    | ind n16 i17 =>
      intro x8 x9 M10 H locs ls h hS hS0 hl
      have h := h14 n16 x8 x9 M10 h
      refine lv_iload hx hb dX5_listCheapest_14 (lv_at hl 4 rfl) ?_
      refine lv_aload_n hx hb dX5_listCheapest_16 rfl (lv_at hl 1 rfl) ?_
      refine w_getr (j2 := (a0 + 1)) hx hb hts (z_memU u6) hown hK.1 hS f6_0 lt_a0 (zkd_of cd_a0 rfl) (zrf_of cd_a0 rfl) (Or.inl (hts _ (z_mem k94))) dX5_listCheapest_17 ?_
      refine w_geti hx hb hts (z_memU u8) hown hK.1 hS f8_1 lt1 (zkd_of cd2 rfl) (Or.inl (hts _ (z_mem k48))) dX5_listCheapest_20 ?_
      refine w_icmp_ge (tgt := 92) hx hb rfl rfl dX5_listCheapest_23 (by decide) (fun c18 => ?_) (fun c18 => ?_)
      · skip
        have h := h.1 c18
        exact w_vret hx hb hr hlocks hS hS0 h dX5_listCheapest_92
      · skip
        have h := h.2 c18
        refine z_iconst hx hb dX5_listCheapest_26 ?_
        refine lv_istore (lv' := [(5, .int (iI 0)), (0, .ref (b + 60)), (1, .ref (b + a0)), (2, .ref (b + a1)), (3, .int (iI x8)), (4, .int (iI x9))]) hx hb dX5_listCheapest_27 hl (by decide) rfl (fun ls hl => ?_)
        obtain ⟨I22, ⟨n23, h24⟩, h25⟩ := h
        have L26 : ∀ (n27 : Nat) (x19 x20 : Int) (M21 : zM) (H : Heap) (locs : List Loc) (ls : Array Slot), I22 n27 x19 x20 M21 → zR D dA vwCl wC nC b M21 H → va_S (zA nC b) s.heap H locs → lv_has ls 6 [(0, .ref (b + 60)), (1, .ref (b + a0)), (2, .ref (b + a1)), (3, .int (iI x19)), (4, .int (iI x9)), (5, .int (iI x20))] → W p l e (headSpec (.code yX5_listCheapest cX5_listCheapest 6 none :: zt) (z_rm 2)).room s m args below meth c H locs 0 0 (MQ below (va_Qv (wQv Q) (zB D dA vwCl wC nC b) (zA nC b)) args s 0 0 (zA nC b)) (F0 m 29 ls []) := by
          intro n27
          induction n27 using Nat.strongRecOn with
          | ind n27 i28 =>
            intro x19 x20 M21 H locs ls h hS hS0 hl
            have h := h25 n27 x19 x20 M21 h
            refine lv_iload hx hb dX5_listCheapest_29 (lv_at hl 5 rfl) ?_
            refine lv_aload_n hx hb dX5_listCheapest_31 rfl (lv_at hl 1 rfl) ?_
            refine w_getr (j2 := (a0 + 1)) hx hb hts (z_memU u6) hown hK.1 hS f6_0 lt_a0 (zkd_of cd_a0 rfl) (zrf_of cd_a0 rfl) (Or.inl (hts _ (z_mem k94))) dX5_listCheapest_32 ?_
            refine w_geti hx hb hts (z_memU u8) hown hK.1 hS f8_1 lt1 (zkd_of cd2 rfl) (Or.inl (hts _ (z_mem k48))) dX5_listCheapest_35 ?_
            refine lv_iload hx hb dX5_listCheapest_38 (lv_at hl 4 rfl) ?_
            refine z_isub hx hb dX5_listCheapest_40 ?_
            refine w_icmp_ge (tgt := 86) hx hb rfl rfl dX5_listCheapest_41 (by decide) (fun c29 => ?_) (fun c29 => ?_)
            · skip
              have h := h.1 c29
              refine z_iinc (lv' := [(4, .int (iI (x9 + 1))), (0, .ref (b + 60)), (1, .ref (b + a0)), (2, .ref (b + a1)), (3, .int (iI x19)), (5, .int (iI x20))]) hx hb dX5_listCheapest_86 hl (k := 4) rfl (by decide) rfl (fun ls hl => ?_)
              refine lv_goto (tgt := 14) hx hb dX5_listCheapest_89 (by decide) ?_
              obtain ⟨n30, h31, h⟩ := h
              exact i17 n30 h31 x19 (x9 + 1) M21 _ _ _ h hS hS0 (lv_sub hl [1, 2, 3, 4, 0] rfl)
            · skip
              have h := h.2 c29
              refine lv_iload_n hx hb dX5_listCheapest_44 rfl (lv_at hl 3 rfl) ?_
              refine lv_aload_n hx hb dX5_listCheapest_45 rfl (lv_at hl 2 rfl) ?_
              refine w_alen (n := (zln wC a1)) hx hb hK.1 (t0 := 0) rfl hS lt_a1 kd_a1 rfl dX5_listCheapest_46 ?_
              refine w_icmp_ge (tgt := 86) hx hb rfl (sI_of ⟨by clear h; omega, by clear h; have := ln_a1; omega⟩) dX5_listCheapest_47 (by decide) (fun c32 => ?_) (fun c32 => ?_)
              · skip
                have h := h.1 c32
                refine z_iinc (lv' := [(4, .int (iI (x9 + 1))), (0, .ref (b + 60)), (1, .ref (b + a0)), (2, .ref (b + a1)), (3, .int (iI x19)), (5, .int (iI x20))]) hx hb dX5_listCheapest_86 hl (k := 4) rfl (by decide) rfl (fun ls hl => ?_)
                refine lv_goto (tgt := 14) hx hb dX5_listCheapest_89 (by decide) ?_
                obtain ⟨n33, h34, h⟩ := h
                exact i17 n33 h34 x19 (x9 + 1) M21 _ _ _ h hS hS0 (lv_sub hl [1, 2, 3, 4, 0] rfl)
              · skip
                have h := h.2 c32
                refine lv_aload_n hx hb dX5_listCheapest_50 rfl (lv_at hl 0 rfl) ?_
                refine w_getr (j2 := 75) hx hb hts (z_memU u5) hown hK.1 hS f5_6 (by decide) (zkd_of (rfl : zcd wC 60 = 19) rfl) (zrf_of (rfl : zcd wC 60 = 19) rfl) (Or.inl (hts _ (z_mem k151))) dX5_listCheapest_51 ?_
                refine lv_aload_n hx hb dX5_listCheapest_54 rfl (lv_at hl 2 rfl) ?_
                refine lv_iload_n hx hb dX5_listCheapest_55 rfl (lv_at hl 3 rfl) ?_
                obtain ⟨o35, h⟩ := h
                refine w_iald (n := (zln wC a1)) (i := (sI x19)) hx hb hK.1 (t0 := 0) rfl hS lt_a1 kd_a1 rfl rfl o35.1 o35.2 ln_a1 dX5_listCheapest_56 ?_
                refine lv_aload_n hx hb dX5_listCheapest_57 rfl (lv_at hl 0 rfl) ?_
                refine w_getr (j2 := 75) hx hb hts (z_memU u5) hown hK.1 hS f5_6 (by decide) (zkd_of (rfl : zcd wC 60 = 19) rfl) (zrf_of (rfl : zcd wC 60 = 19) rfl) (Or.inl (hts _ (z_mem k151))) dX5_listCheapest_58 ?_
                refine lv_aload_n hx hb dX5_listCheapest_61 rfl (lv_at hl 2 rfl) ?_
                refine lv_iload_n hx hb dX5_listCheapest_62 rfl (lv_at hl 3 rfl) ?_
                obtain ⟨o36, h⟩ := h
                refine w_iald (n := (zln wC a1)) (i := (sI x19)) hx hb hK.1 (t0 := 0) rfl hS lt_a1 kd_a1 rfl rfl o36.1 o36.2 ln_a1 dX5_listCheapest_63 ?_
                obtain ⟨o37, h⟩ := h
                refine w_iald (n := 64) (i := (sI (M21 a1 (sI x19).toNat))) hx hb hK.1 (t0 := 0) rfl hS (by decide) (zkd_of (rfl : zcd wC 75 = 27) rfl) (zln_of (rfl : zcd wC 75 = 27) rfl) rfl o37.1 o37.2 (by decide) dX5_listCheapest_64 ?_
                refine lv_aload_n hx hb dX5_listCheapest_65 rfl (lv_at hl 1 rfl) ?_
                refine lv_iload hx hb dX5_listCheapest_66 (lv_at hl 4 rfl) ?_
                refine lv_iload hx hb dX5_listCheapest_68 (lv_at hl 5 rfl) ?_
                refine w_calli (va_runS (As := [.ref (b + a0), .int (iI x9), .int (iI x20)]) (rest := [.int (iI (M21 75 (sI (M21 a1 (sI x19).toNat)).toNat)), .int (iI (M21 a1 (sI x19).toNat)), .ref (b + 75)]) ⟨hx, hb, hml, hown, hts⟩ (cC_Planner_cost l D dA b M21 a0 x9 x20 lt_a0 cd_a0 _ h) (va_cwS 3 hts (z_gS k640 k641 k8 k642) rfl rfl rfl dm_X5_cost.2 ⟨Nat.le_of_ble_eq_true rfl, Nat.le_of_ble_eq_true rfl⟩) ⟨wPre_blind, w_pre hS hK⟩ rfl rfl hl.1 rfl (lv_room (Nat.le_of_ble_eq_true rfl)) dX5_listCheapest_70 ⟨Nat.le_refl _, Nat.le_refl _⟩) hS0 (fun z39 M38 H locs r40 h hS hS0 => ?_)
                obtain ⟨e41, h⟩ := h
                rw [e41] at hS
                refine w_mmin hx hb (hml.trans hl.1.symm) hown (hts _ (z_mem k646)) (hts _ (z_mem k320)) (hts _ (z_mem k15)) (hts _ (z_mem k321)) (by exact Nat.le_of_ble_eq_true rfl) (by exact Nat.le_of_ble_eq_true rfl) (by exact Nat.le_refl _) (by exact Nat.le_refl _) rfl (sI_of r40) dX5_listCheapest_73 ?_
                obtain ⟨o42, h⟩ := h
                refine w_iast (z := (min (sI (M21 75 (sI (M21 a1 (sI x19).toNat)).toNat)) z39)) (n := 64) (i := (sI (M21 a1 (sI x19).toNat))) hx hb hK.1 (t0 := 0) rfl hS hS0 (by decide) (zkd_of (rfl : zcd wC 75 = 27) rfl) (zln_of (rfl : zcd wC 75 = 27) rfl) rfl o42.1 o42.2 (by decide) dX5_listCheapest_76 (fun H locs hS hS0 => ?_)
                obtain ⟨M43, e44⟩ : ∃ M43 : zM, M43 = zup M21 75 (sI (M21 a1 (sI x19).toNat)).toNat (min (sI (M21 75 (sI (M21 a1 (sI x19).toNat)).toNat)) z39) := ⟨_, rfl⟩
                rw [← e44] at hS
                have h := h M43 e44
                refine z_iinc (lv' := [(3, .int (iI (x19 + 1))), (0, .ref (b + 60)), (1, .ref (b + a0)), (2, .ref (b + a1)), (4, .int (iI x9)), (5, .int (iI x20))]) hx hb dX5_listCheapest_77 hl (k := 3) rfl (by decide) rfl (fun ls hl => ?_)
                refine z_iinc (lv' := [(5, .int (iI (x20 + 1))), (3, .int (iI (x19 + 1))), (0, .ref (b + 60)), (1, .ref (b + a0)), (2, .ref (b + a1)), (4, .int (iI x9))]) hx hb dX5_listCheapest_80 hl (k := 5) rfl (by decide) rfl (fun ls hl => ?_)
                refine lv_goto (tgt := 29) hx hb dX5_listCheapest_83 (by decide) ?_
                obtain ⟨n45, h46, h⟩ := h
                exact i28 n45 h46 (x19 + 1) (x20 + 1) M43 _ _ _ h hS hS0 (lv_sub hl [2, 3, 4, 1, 5, 0] rfl)
        exact L26 n23 x8 0 M10 _ _ _ h24 hS hS0 (lv_sub hl [1, 2, 3, 4, 5, 0] rfl)
  exact L15 n12 0 0 M7 _ _ _ h13 hS hS0 (lv_sub hl [2, 3, 4, 1, 0] rfl)

set_option maxRecDepth 100000 in
def wC_Planner_addCosts (a0 : Nat) (a1 : Nat) (M : zM) (Q : zM → Prop) : Prop := wL1 (fun K10 x1 M2 => ((shlI 1 (M 60 2)) ≤ (sI x1) → Q M2) ∧ ((sI x1) < (shlI 1 (M 60 2)) → pL2 (fun K23 x11 x12 => ((shlI 1 (M 60 2)) ≤ (sI x12) → ((0 ≤ (sI x1) ∧ (sI x1) < (zln wC a1)) ∧ (∀ M22 : zM, M22 = zup M2 a1 (sI x1).toNat x11 → K10 (x1 + 1) M22))) ∧ ((sI x12) < (shlI 1 (M 60 2)) → ((0 ≤ (sI x12) ∧ (sI x12) < 64) ∧ ((0 ≤ (andI x1 (xorI x12 (-1))) ∧ (andI x1 (xorI x12 (-1))) < (zln wC a0)) ∧ (∀ t28 : Int, t28 = (min (sI x11) (sI ((M2 75 (sI x12).toNat) + (M2 a0 (andI x1 (xorI x12 (-1))).toNat)))) → K23 t28 (x12 + 1)))))) 1000000 0)) 0 M
set_option maxHeartbeats 4000000 in
set_option maxRecDepth 100000 in
theorem cC_Planner_addCosts (l : Launch) (D : va_G) (dA : Nat → ClassId) (b : Nat) (M : zM) (a0 : Nat) (a1 : Nat) (lt_a0 : a0 < nC) (kd_a0 : zkd wC a0 = 100) (ln_a0 : zln wC a0 < 2147483648) (lt_a1 : a1 < nC) (kd_a1 : zkd wC a1 = 100) (ln_a1 : zln wC a1 < 2147483648) (Q : zM → Prop) (h : wC_Planner_addCosts a0 a1 M Q) : Met l yX5_addCosts (.code yX5_addCosts cX5_addCosts 7 none :: zt) (z_rm 1) (va_Pc [.ref (b + 60), .ref (b + a0), .ref (b + a1)] (wPre D dA vwCl (z_tys dA) wC nC b M)) (va_Qv (wQv Q) (zB D dA vwCl wC nC b) (zA nC b)) 0 0 (zA nC b) := by
  unfold wC_Planner_addCosts at h
  refine Met.ofW (cc := cX5_addCosts) (maxL := 7) (ret := none) (by decide) rfl ?_
  intro p e s m args below meth c s₁ B hml hv
  obtain ⟨hargs, hS, hK⟩ := hv
  have hx := B.exec
  have hb := B.bytes
  have hr := B.returns
  have hts := atoms_spec (ws := .code yX5_addCosts cX5_addCosts 7 none :: zt) B.pre
  have hown : s.vm.findClass RX5 = some m.cls := findClass_of_methodNamed B.named
  have hlocks := B.notSynchronized
  have hS0 : va_S (zA nC b) s.heap s.heap [] := va_S.rf
  have hl := lv_entry ([.ref (b + 60), .ref (b + a0), .ref (b + a1)]) (n := 7) (Nat.le_of_ble_eq_true rfl)
  have hent : entryFrame m args 7 = F0 m 0 ((lg_sl ([.ref (b + 60), .ref (b + a0), .ref (b + a1)]) ++ List.replicate (7 - (lg_sl ([.ref (b + 60), .ref (b + a0), .ref (b + a1)])).length) Slot.unset).toArray) [] := by rw [hargs]; exact lg_entry_eq m ([.ref (b + 60), .ref (b + a0), .ref (b + a1)]) 7
  rw [hent]
  generalize (lg_sl ([.ref (b + 60), .ref (b + a0), .ref (b + a1)]) ++ List.replicate (7 - (lg_sl ([.ref (b + 60), .ref (b + a0), .ref (b + a1)])).length) Slot.unset).toArray = ls at hl ⊢
  have hl : lv_has ls 7 [(0, .ref (b + 60)), (1, .ref (b + a0)), (2, .ref (b + a1))] := hl
  refine z_iconst hx hb dX5_addCosts_0 ?_
  refine lv_aload_n hx hb dX5_addCosts_1 rfl (lv_at hl 0 rfl) ?_
  refine w_geti hx hb hts (z_memU u5) hown hK.1 hS f5_2 (by decide) (zkd_of (rfl : zcd wC 60 = 19) rfl) (Or.inl (hts _ (z_mem k145))) dX5_addCosts_2 ?_
  refine w_ishl hx hb dX5_addCosts_5 ?_
  refine lv_istore_n (lv' := [(3, .int (iI (shlI 1 (M 60 2)))), (0, .ref (b + 60)), (1, .ref (b + a0)), (2, .ref (b + a1))]) hx hb dX5_addCosts_6 rfl hl (by decide) rfl (fun ls hl => ?_)
  refine z_iconst hx hb dX5_addCosts_7 ?_
  refine lv_istore (lv' := [(4, .int (iI 0)), (3, .int (iI (shlI 1 (M 60 2)))), (0, .ref (b + 60)), (1, .ref (b + a0)), (2, .ref (b + a1))]) hx hb dX5_addCosts_8 hl (by decide) rfl (fun ls hl => ?_)
  obtain ⟨I3, ⟨n4, h5⟩, h6⟩ := h
  have L7 : ∀ (n8 : Nat) (x1 : Int) (M2 : zM) (H : Heap) (locs : List Loc) (ls : Array Slot), I3 n8 x1 M2 → zR D dA vwCl wC nC b M2 H → va_S (zA nC b) s.heap H locs → lv_has ls 7 [(0, .ref (b + 60)), (1, .ref (b + a0)), (2, .ref (b + a1)), (3, .int (iI (shlI 1 (M 60 2)))), (4, .int (iI x1))] → W p l e (headSpec (.code yX5_addCosts cX5_addCosts 7 none :: zt) (z_rm 1)).room s m args below meth c H locs 0 0 (MQ below (va_Qv (wQv Q) (zB D dA vwCl wC nC b) (zA nC b)) args s 0 0 (zA nC b)) (F0 m 10 ls []) := by
    intro n8
    induction n8 using Nat.strongRecOn with
    | ind n8 i9 =>
      intro x1 M2 H locs ls h hS hS0 hl
      have h := h6 n8 x1 M2 h
      refine lv_iload hx hb dX5_addCosts_10 (lv_at hl 4 rfl) ?_
      refine lv_iload_n hx hb dX5_addCosts_12 rfl (lv_at hl 3 rfl) ?_
      refine w_icmp_ge (tgt := 71) hx hb rfl (sI_of (shlI_R _ _)) dX5_addCosts_13 (by decide) (fun c10 => ?_) (fun c10 => ?_)
      · skip
        have h := h.1 c10
        exact w_vret hx hb hr hlocks hS hS0 h dX5_addCosts_71
      · skip
        have h := h.2 c10
        refine z_ldc (n := 1000000) hx hb hown (hts _ (z_mem k625)) (by decide) dX5_addCosts_16 ?_
        refine lv_istore (lv' := [(5, .int (iI 1000000)), (0, .ref (b + 60)), (1, .ref (b + a0)), (2, .ref (b + a1)), (3, .int (iI (shlI 1 (M 60 2)))), (4, .int (iI x1))]) hx hb dX5_addCosts_18 hl (by decide) rfl (fun ls hl => ?_)
        refine z_iconst hx hb dX5_addCosts_20 ?_
        refine lv_istore (lv' := [(6, .int (iI 0)), (5, .int (iI 1000000)), (0, .ref (b + 60)), (1, .ref (b + a0)), (2, .ref (b + a1)), (3, .int (iI (shlI 1 (M 60 2)))), (4, .int (iI x1))]) hx hb dX5_addCosts_21 hl (by decide) rfl (fun ls hl => ?_)
        obtain ⟨I13, ⟨n14, h15⟩, h16⟩ := h
        have L17 : ∀ (n18 : Nat) (x11 x12 : Int) (H : Heap) (locs : List Loc) (ls : Array Slot), I13 n18 x11 x12 → zR D dA vwCl wC nC b M2 H → va_S (zA nC b) s.heap H locs → lv_has ls 7 [(0, .ref (b + 60)), (1, .ref (b + a0)), (2, .ref (b + a1)), (3, .int (iI (shlI 1 (M 60 2)))), (4, .int (iI x1)), (5, .int (iI x11)), (6, .int (iI x12))] → W p l e (headSpec (.code yX5_addCosts cX5_addCosts 7 none :: zt) (z_rm 1)).room s m args below meth c H locs 0 0 (MQ below (va_Qv (wQv Q) (zB D dA vwCl wC nC b) (zA nC b)) args s 0 0 (zA nC b)) (F0 m 23 ls []) := by
          intro n18
          induction n18 using Nat.strongRecOn with
          | ind n18 i19 =>
            intro x11 x12 H locs ls h hS hS0 hl
            have h := h16 n18 x11 x12 h
            refine lv_iload hx hb dX5_addCosts_23 (lv_at hl 6 rfl) ?_
            refine lv_iload_n hx hb dX5_addCosts_25 rfl (lv_at hl 3 rfl) ?_
            refine w_icmp_ge (tgt := 59) hx hb rfl (sI_of (shlI_R _ _)) dX5_addCosts_26 (by decide) (fun c20 => ?_) (fun c20 => ?_)
            · skip
              have h := h.1 c20
              refine lv_aload_n hx hb dX5_addCosts_59 rfl (lv_at hl 2 rfl) ?_
              refine lv_iload hx hb dX5_addCosts_60 (lv_at hl 4 rfl) ?_
              refine lv_iload hx hb dX5_addCosts_62 (lv_at hl 5 rfl) ?_
              obtain ⟨o21, h⟩ := h
              refine w_iast (z := x11) (n := (zln wC a1)) (i := (sI x1)) hx hb hK.1 (t0 := 0) rfl hS hS0 lt_a1 kd_a1 rfl rfl o21.1 o21.2 ln_a1 dX5_addCosts_64 (fun H locs hS hS0 => ?_)
              obtain ⟨M22, e23⟩ : ∃ M22 : zM, M22 = zup M2 a1 (sI x1).toNat x11 := ⟨_, rfl⟩
              rw [← e23] at hS
              have h := h M22 e23
              refine z_iinc (lv' := [(4, .int (iI (x1 + 1))), (0, .ref (b + 60)), (1, .ref (b + a0)), (2, .ref (b + a1)), (3, .int (iI (shlI 1 (M 60 2)))), (5, .int (iI x11)), (6, .int (iI x12))]) hx hb dX5_addCosts_65 hl (k := 4) rfl (by decide) rfl (fun ls hl => ?_)
              refine lv_goto (tgt := 10) hx hb dX5_addCosts_68 (by decide) ?_
              obtain ⟨n24, h25, h⟩ := h
              exact i9 n24 h25 (x1 + 1) M22 _ _ _ h hS hS0 (lv_sub hl [1, 2, 3, 4, 0] rfl)
            · skip
              have h := h.2 c20
              refine lv_iload hx hb dX5_addCosts_29 (lv_at hl 5 rfl) ?_
              refine lv_aload_n hx hb dX5_addCosts_31 rfl (lv_at hl 0 rfl) ?_
              refine w_getr (j2 := 75) hx hb hts (z_memU u5) hown hK.1 hS f5_6 (by decide) (zkd_of (rfl : zcd wC 60 = 19) rfl) (zrf_of (rfl : zcd wC 60 = 19) rfl) (Or.inl (hts _ (z_mem k151))) dX5_addCosts_32 ?_
              refine lv_iload hx hb dX5_addCosts_35 (lv_at hl 6 rfl) ?_
              obtain ⟨o26, h⟩ := h
              refine w_iald (n := 64) (i := (sI x12)) hx hb hK.1 (t0 := 0) rfl hS (by decide) (zkd_of (rfl : zcd wC 75 = 27) rfl) (zln_of (rfl : zcd wC 75 = 27) rfl) rfl o26.1 o26.2 (by decide) dX5_addCosts_37 ?_
              refine lv_aload_n hx hb dX5_addCosts_38 rfl (lv_at hl 1 rfl) ?_
              refine lv_iload hx hb dX5_addCosts_39 (lv_at hl 4 rfl) ?_
              refine lv_iload hx hb dX5_addCosts_41 (lv_at hl 6 rfl) ?_
              refine z_iconst hx hb dX5_addCosts_43 ?_
              refine w_ixor hx hb dX5_addCosts_44 ?_
              refine w_iand hx hb dX5_addCosts_45 ?_
              obtain ⟨o27, h⟩ := h
              refine w_iald (n := (zln wC a0)) (i := (andI x1 (xorI x12 (-1)))) hx hb hK.1 (t0 := 0) rfl hS lt_a0 kd_a0 rfl (sI_of (andI_R _ _)) o27.1 o27.2 ln_a0 dX5_addCosts_46 ?_
              refine z_iadd hx hb dX5_addCosts_47 ?_
              refine w_mmin hx hb (hml.trans hl.1.symm) hown (hts _ (z_mem k646)) (hts _ (z_mem k320)) (hts _ (z_mem k15)) (hts _ (z_mem k321)) (by exact Nat.le_of_ble_eq_true rfl) (by exact Nat.le_of_ble_eq_true rfl) (by exact Nat.le_refl _) (by exact Nat.le_refl _) rfl rfl dX5_addCosts_48 ?_
              obtain ⟨t28, e29⟩ : ∃ t28 : Int, t28 = (min (sI x11) (sI ((M2 75 (sI x12).toNat) + (M2 a0 (andI x1 (xorI x12 (-1))).toNat)))) := ⟨_, rfl⟩
              refine z_top (y := t28) e29.symm ?_
              have h := h t28 e29
              refine lv_istore (lv' := [(5, .int (iI t28)), (0, .ref (b + 60)), (1, .ref (b + a0)), (2, .ref (b + a1)), (3, .int (iI (shlI 1 (M 60 2)))), (4, .int (iI x1)), (6, .int (iI x12))]) hx hb dX5_addCosts_51 hl (by decide) rfl (fun ls hl => ?_)
              refine z_iinc (lv' := [(6, .int (iI (x12 + 1))), (5, .int (iI t28)), (0, .ref (b + 60)), (1, .ref (b + a0)), (2, .ref (b + a1)), (3, .int (iI (shlI 1 (M 60 2)))), (4, .int (iI x1))]) hx hb dX5_addCosts_53 hl (k := 6) rfl (by decide) rfl (fun ls hl => ?_)
              refine lv_goto (tgt := 23) hx hb dX5_addCosts_56 (by decide) ?_
              obtain ⟨n30, h31, h⟩ := h
              exact i19 n30 h31 t28 (x12 + 1) _ _ _ h hS hS0 (lv_sub hl [2, 3, 4, 5, 6, 1, 0] rfl)
        exact L17 n14 1000000 0 _ _ _ h15 hS hS0 (lv_sub hl [2, 3, 4, 5, 6, 1, 0] rfl)
  exact L7 n4 0 M _ _ _ h5 hS hS0 (lv_sub hl [2, 3, 4, 1, 0] rfl)
