section zz10_w07
/-! the W layer, 7 -/
theorem q10w07_0_0 : (cJ7_fill_53178.data.toList.drop 0).take 21 = [3, 61, 42, 190, 62, 28, 29, 162, 0, 13, 42, 28, 27, 79, 132, 2, 1, 167, 255, 244, 177] := by decide +kernel
theorem dJ7_fill_53178_0 : decode cJ7_fill_53178 0 = .ok (.iconst 0, 1) := dz_3 (dz_at q10w07_0_0 0)
theorem dJ7_fill_53178_1 : decode cJ7_fill_53178 1 = .ok (.istore_n 2, 1) := dz_61 (dz_at q10w07_0_0 1)
theorem dJ7_fill_53178_10 : decode cJ7_fill_53178 10 = .ok (.aload_n 0, 1) := dz_42 (dz_at q10w07_0_0 10)
theorem dJ7_fill_53178_11 : decode cJ7_fill_53178 11 = .ok (.iload_n 2, 1) := dz_28 (dz_at q10w07_0_0 11)
theorem dJ7_fill_53178_12 : decode cJ7_fill_53178 12 = .ok (.iload_n 1, 1) := dz_27 (dz_at q10w07_0_0 12)
theorem dJ7_fill_53178_13 : decode cJ7_fill_53178 13 = .ok (.iastore, 1) := dz_79 (dz_at q10w07_0_0 13)
theorem dJ7_fill_53178_14 : decode cJ7_fill_53178 14 = .ok (.iinc 2 1, 3) := dz_132 (dz_at q10w07_0_0 14) (by decide +kernel)
theorem dJ7_fill_53178_17 : decode cJ7_fill_53178 17 = .ok (.goto (-12), 3) := dz_167 (dz_at q10w07_0_0 17) (by decide +kernel)
theorem dJ7_fill_53178_2 : decode cJ7_fill_53178 2 = .ok (.aload_n 0, 1) := dz_42 (dz_at q10w07_0_0 2)
theorem dJ7_fill_53178_20 : decode cJ7_fill_53178 20 = .ok (.return_, 1) := dz_177 (dz_at q10w07_0_0 20)
theorem dJ7_fill_53178_3 : decode cJ7_fill_53178 3 = .ok (.arraylength, 1) := dz_190 (dz_at q10w07_0_0 3)
theorem dJ7_fill_53178_4 : decode cJ7_fill_53178 4 = .ok (.istore_n 3, 1) := dz_62 (dz_at q10w07_0_0 4)
theorem dJ7_fill_53178_5 : decode cJ7_fill_53178 5 = .ok (.iload_n 2, 1) := dz_28 (dz_at q10w07_0_0 5)
theorem dJ7_fill_53178_6 : decode cJ7_fill_53178 6 = .ok (.iload_n 3, 1) := dz_29 (dz_at q10w07_0_0 6)
theorem dJ7_fill_53178_7 : decode cJ7_fill_53178 7 = .ok (.if_icmp .ge 13, 3) := dz_162 (dz_at q10w07_0_0 7) (by decide +kernel)
theorem q10w07_1_0 : (cX11_isSound.data.toList.drop 0).take 8 = [26, 4, 16, 9, 184, 0, 113, 172] := by decide +kernel
theorem dX11_isSound_0 : decode cX11_isSound 0 = .ok (.iload_n 0, 1) := dz_26 (dz_at q10w07_1_0 0)
theorem dX11_isSound_1 : decode cX11_isSound 1 = .ok (.iconst 1, 1) := dz_4 (dz_at q10w07_1_0 1)
theorem dX11_isSound_2 : decode cX11_isSound 2 = .ok (.bipush 9, 2) := dz_16 (dz_at q10w07_1_0 2) (by decide +kernel)
theorem dX11_isSound_4 : decode cX11_isSound 4 = .ok (.invokestatic 113, 3) := dz_184 (dz_at q10w07_1_0 4) rfl
theorem dX11_isSound_7 : decode cX11_isSound 7 = .ok (.ireturn, 1) := dz_172 (dz_at q10w07_1_0 7)
theorem q10w07_2_0 : (cX11_kept.data.toList.drop 0).take 12 = [42, 180, 0, 40, 42, 180, 0, 26, 182, 0, 211, 172] := by decide +kernel
theorem dX11_kept_0 : decode cX11_kept 0 = .ok (.aload_n 0, 1) := dz_42 (dz_at q10w07_2_0 0)
theorem dX11_kept_1 : decode cX11_kept 1 = .ok (.getfield 40, 3) := dz_180 (dz_at q10w07_2_0 1) rfl
theorem dX11_kept_11 : decode cX11_kept 11 = .ok (.ireturn, 1) := dz_172 (dz_at q10w07_2_0 11)
theorem dX11_kept_4 : decode cX11_kept 4 = .ok (.aload_n 0, 1) := dz_42 (dz_at q10w07_2_0 4)
theorem dX11_kept_5 : decode cX11_kept 5 = .ok (.getfield 26, 3) := dz_180 (dz_at q10w07_2_0 5) rfl
theorem dX11_kept_8 : decode cX11_kept 8 = .ok (.invokevirtual 211, 3) := dz_182 (dz_at q10w07_2_0 8) rfl
theorem q10w07_3_0 : (cX11_mark.data.toList.drop 0).take 24 = [27, 3, 18, 204, 184, 0, 113, 153, 0, 10, 28, 184, 0, 205, 154, 0, 5, 2, 172, 42, 180, 0, 40, 27] := by decide +kernel
theorem q10w07_3_24 : (cX11_mark.data.toList.drop 24).take 5 = [28, 182, 0, 208, 172] := by decide +kernel
theorem dX11_mark_0 : decode cX11_mark 0 = .ok (.iload_n 1, 1) := dz_27 (dz_at q10w07_3_0 0)
theorem dX11_mark_1 : decode cX11_mark 1 = .ok (.iconst 0, 1) := dz_3 (dz_at q10w07_3_0 1)
theorem dX11_mark_10 : decode cX11_mark 10 = .ok (.iload_n 2, 1) := dz_28 (dz_at q10w07_3_0 10)
theorem dX11_mark_11 : decode cX11_mark 11 = .ok (.invokestatic 205, 3) := dz_184 (dz_at q10w07_3_0 11) rfl
theorem dX11_mark_14 : decode cX11_mark 14 = .ok (.ifCond .ne 5, 3) := dz_154 (dz_at q10w07_3_0 14) (by decide +kernel)
theorem dX11_mark_17 : decode cX11_mark 17 = .ok (.iconst (-1), 1) := dz_2 (dz_at q10w07_3_0 17)
theorem dX11_mark_18 : decode cX11_mark 18 = .ok (.ireturn, 1) := dz_172 (dz_at q10w07_3_0 18)
theorem dX11_mark_19 : decode cX11_mark 19 = .ok (.aload_n 0, 1) := dz_42 (dz_at q10w07_3_0 19)
theorem dX11_mark_2 : decode cX11_mark 2 = .ok (.ldc 204, 2) := dz_18 (dz_at q10w07_3_0 2)
theorem dX11_mark_20 : decode cX11_mark 20 = .ok (.getfield 40, 3) := dz_180 (dz_at q10w07_3_0 20) rfl
theorem dX11_mark_23 : decode cX11_mark 23 = .ok (.iload_n 1, 1) := dz_27 (dz_at q10w07_3_0 23)
theorem dX11_mark_24 : decode cX11_mark 24 = .ok (.iload_n 2, 1) := dz_28 (dz_at q10w07_3_24 0)
theorem dX11_mark_25 : decode cX11_mark 25 = .ok (.invokevirtual 208, 3) := dz_182 (dz_at q10w07_3_24 1) rfl
theorem dX11_mark_28 : decode cX11_mark 28 = .ok (.ireturn, 1) := dz_172 (dz_at q10w07_3_24 4)
theorem dX11_mark_4 : decode cX11_mark 4 = .ok (.invokestatic 113, 3) := dz_184 (dz_at q10w07_3_0 4) rfl
theorem dX11_mark_7 : decode cX11_mark 7 = .ok (.ifCond .eq 10, 3) := dz_153 (dz_at q10w07_3_0 7) (by decide +kernel)
theorem q10w07_4_0 : (cX11_often.data.toList.drop 0).take 19 = [42, 180, 0, 33, 42, 180, 0, 26, 182, 0, 182, 42, 180, 0, 33, 182, 0, 201, 173] := by decide +kernel
theorem dX11_often_0 : decode cX11_often 0 = .ok (.aload_n 0, 1) := dz_42 (dz_at q10w07_4_0 0)
theorem dX11_often_1 : decode cX11_often 1 = .ok (.getfield 33, 3) := dz_180 (dz_at q10w07_4_0 1) rfl
theorem dX11_often_11 : decode cX11_often 11 = .ok (.aload_n 0, 1) := dz_42 (dz_at q10w07_4_0 11)
theorem dX11_often_12 : decode cX11_often 12 = .ok (.getfield 33, 3) := dz_180 (dz_at q10w07_4_0 12) rfl
theorem dX11_often_15 : decode cX11_often 15 = .ok (.invokevirtual 201, 3) := dz_182 (dz_at q10w07_4_0 15) rfl
theorem dX11_often_18 : decode cX11_often 18 = .ok (.lreturn, 1) := dz_173 (dz_at q10w07_4_0 18)
theorem dX11_often_4 : decode cX11_often 4 = .ok (.aload_n 0, 1) := dz_42 (dz_at q10w07_4_0 4)
theorem dX11_often_5 : decode cX11_often 5 = .ok (.getfield 26, 3) := dz_180 (dz_at q10w07_4_0 5) rfl
theorem dX11_often_8 : decode cX11_often 8 = .ok (.invokevirtual 182, 3) := dz_182 (dz_at q10w07_4_0 8) rfl
theorem q10w07_5_0 : (cX5_addCosts.data.toList.drop 0).take 23 = [4, 42, 180, 0, 18, 120, 62, 3, 54, 4, 21, 4, 29, 162, 0, 58, 18, 49, 54, 5, 3, 54, 6] := by decide +kernel
theorem q10w07_5_23 : (cX5_addCosts.data.toList.drop 23).take 24 = [21, 6, 29, 162, 0, 33, 21, 5, 42, 180, 0, 33, 21, 6, 46, 43, 21, 4, 21, 6, 2, 130, 126, 46] := by decide +kernel
theorem q10w07_5_47 : (cX5_addCosts.data.toList.drop 47).take 24 = [96, 184, 0, 113, 54, 5, 132, 6, 1, 167, 255, 223, 44, 21, 4, 21, 5, 79, 132, 4, 1, 167, 255, 198] := by decide +kernel
theorem q10w07_5_71 : (cX5_addCosts.data.toList.drop 71).take 1 = [177] := by decide +kernel
theorem dX5_addCosts_0 : decode cX5_addCosts 0 = .ok (.iconst 1, 1) := dz_4 (dz_at q10w07_5_0 0)
theorem dX5_addCosts_1 : decode cX5_addCosts 1 = .ok (.aload_n 0, 1) := dz_42 (dz_at q10w07_5_0 1)
theorem dX5_addCosts_10 : decode cX5_addCosts 10 = .ok (.iload 4, 2) := dz_21 (dz_at q10w07_5_0 10)
theorem dX5_addCosts_12 : decode cX5_addCosts 12 = .ok (.iload_n 3, 1) := dz_29 (dz_at q10w07_5_0 12)
theorem dX5_addCosts_13 : decode cX5_addCosts 13 = .ok (.if_icmp .ge 58, 3) := dz_162 (dz_at q10w07_5_0 13) (by decide +kernel)
theorem dX5_addCosts_16 : decode cX5_addCosts 16 = .ok (.ldc 49, 2) := dz_18 (dz_at q10w07_5_0 16)
theorem dX5_addCosts_18 : decode cX5_addCosts 18 = .ok (.istore 5, 2) := dz_54 (dz_at q10w07_5_0 18)
theorem dX5_addCosts_2 : decode cX5_addCosts 2 = .ok (.getfield 18, 3) := dz_180 (dz_at q10w07_5_0 2) rfl
theorem dX5_addCosts_20 : decode cX5_addCosts 20 = .ok (.iconst 0, 1) := dz_3 (dz_at q10w07_5_0 20)
theorem dX5_addCosts_21 : decode cX5_addCosts 21 = .ok (.istore 6, 2) := dz_54 (dz_at q10w07_5_0 21)
theorem dX5_addCosts_23 : decode cX5_addCosts 23 = .ok (.iload 6, 2) := dz_21 (dz_at q10w07_5_23 0)
theorem dX5_addCosts_25 : decode cX5_addCosts 25 = .ok (.iload_n 3, 1) := dz_29 (dz_at q10w07_5_23 2)
theorem dX5_addCosts_26 : decode cX5_addCosts 26 = .ok (.if_icmp .ge 33, 3) := dz_162 (dz_at q10w07_5_23 3) (by decide +kernel)
theorem dX5_addCosts_29 : decode cX5_addCosts 29 = .ok (.iload 5, 2) := dz_21 (dz_at q10w07_5_23 6)
theorem dX5_addCosts_31 : decode cX5_addCosts 31 = .ok (.aload_n 0, 1) := dz_42 (dz_at q10w07_5_23 8)
theorem dX5_addCosts_32 : decode cX5_addCosts 32 = .ok (.getfield 33, 3) := dz_180 (dz_at q10w07_5_23 9) rfl
theorem dX5_addCosts_35 : decode cX5_addCosts 35 = .ok (.iload 6, 2) := dz_21 (dz_at q10w07_5_23 12)
theorem dX5_addCosts_37 : decode cX5_addCosts 37 = .ok (.iaload, 1) := dz_46 (dz_at q10w07_5_23 14)
theorem dX5_addCosts_38 : decode cX5_addCosts 38 = .ok (.aload_n 1, 1) := dz_43 (dz_at q10w07_5_23 15)
theorem dX5_addCosts_39 : decode cX5_addCosts 39 = .ok (.iload 4, 2) := dz_21 (dz_at q10w07_5_23 16)
theorem dX5_addCosts_41 : decode cX5_addCosts 41 = .ok (.iload 6, 2) := dz_21 (dz_at q10w07_5_23 18)
theorem dX5_addCosts_43 : decode cX5_addCosts 43 = .ok (.iconst (-1), 1) := dz_2 (dz_at q10w07_5_23 20)
theorem dX5_addCosts_44 : decode cX5_addCosts 44 = .ok (.ixor, 1) := dz_130 (dz_at q10w07_5_23 21)
theorem dX5_addCosts_45 : decode cX5_addCosts 45 = .ok (.iand, 1) := dz_126 (dz_at q10w07_5_23 22)
theorem dX5_addCosts_46 : decode cX5_addCosts 46 = .ok (.iaload, 1) := dz_46 (dz_at q10w07_5_23 23)
theorem dX5_addCosts_47 : decode cX5_addCosts 47 = .ok (.iadd, 1) := dz_96 (dz_at q10w07_5_47 0)
theorem dX5_addCosts_48 : decode cX5_addCosts 48 = .ok (.invokestatic 113, 3) := dz_184 (dz_at q10w07_5_47 1) rfl
theorem dX5_addCosts_5 : decode cX5_addCosts 5 = .ok (.ishl, 1) := dz_120 (dz_at q10w07_5_0 5)
theorem dX5_addCosts_51 : decode cX5_addCosts 51 = .ok (.istore 5, 2) := dz_54 (dz_at q10w07_5_47 4)
theorem dX5_addCosts_53 : decode cX5_addCosts 53 = .ok (.iinc 6 1, 3) := dz_132 (dz_at q10w07_5_47 6) (by decide +kernel)
theorem dX5_addCosts_56 : decode cX5_addCosts 56 = .ok (.goto (-33), 3) := dz_167 (dz_at q10w07_5_47 9) (by decide +kernel)
theorem dX5_addCosts_59 : decode cX5_addCosts 59 = .ok (.aload_n 2, 1) := dz_44 (dz_at q10w07_5_47 12)
theorem dX5_addCosts_6 : decode cX5_addCosts 6 = .ok (.istore_n 3, 1) := dz_62 (dz_at q10w07_5_0 6)
theorem dX5_addCosts_60 : decode cX5_addCosts 60 = .ok (.iload 4, 2) := dz_21 (dz_at q10w07_5_47 13)
theorem dX5_addCosts_62 : decode cX5_addCosts 62 = .ok (.iload 5, 2) := dz_21 (dz_at q10w07_5_47 15)
theorem dX5_addCosts_64 : decode cX5_addCosts 64 = .ok (.iastore, 1) := dz_79 (dz_at q10w07_5_47 17)
theorem dX5_addCosts_65 : decode cX5_addCosts 65 = .ok (.iinc 4 1, 3) := dz_132 (dz_at q10w07_5_47 18) (by decide +kernel)
theorem dX5_addCosts_68 : decode cX5_addCosts 68 = .ok (.goto (-58), 3) := dz_167 (dz_at q10w07_5_47 21) (by decide +kernel)
theorem dX5_addCosts_7 : decode cX5_addCosts 7 = .ok (.iconst 0, 1) := dz_3 (dz_at q10w07_5_0 7)
theorem dX5_addCosts_71 : decode cX5_addCosts 71 = .ok (.return_, 1) := dz_177 (dz_at q10w07_5_71 0)
theorem dX5_addCosts_8 : decode cX5_addCosts 8 = .ok (.istore 4, 2) := dz_54 (dz_at q10w07_5_0 8)
theorem q10w07_6_0 : (cX5_add.data.toList.drop 0).take 22 = [42, 180, 0, 18, 16, 6, 161, 0, 5, 2, 172, 42, 180, 0, 9, 42, 180, 0, 18, 27, 79, 42] := by decide +kernel
theorem q10w07_6_22 : (cX5_add.data.toList.drop 22).take 24 = [180, 0, 15, 42, 180, 0, 18, 28, 79, 42, 89, 180, 0, 18, 4, 96, 181, 0, 18, 42, 180, 0, 18, 172] := by decide +kernel
theorem dX5_add_0 : decode cX5_add 0 = .ok (.aload_n 0, 1) := dz_42 (dz_at q10w07_6_0 0)
theorem dX5_add_1 : decode cX5_add 1 = .ok (.getfield 18, 3) := dz_180 (dz_at q10w07_6_0 1) rfl
theorem dX5_add_10 : decode cX5_add 10 = .ok (.ireturn, 1) := dz_172 (dz_at q10w07_6_0 10)
theorem dX5_add_11 : decode cX5_add 11 = .ok (.aload_n 0, 1) := dz_42 (dz_at q10w07_6_0 11)
theorem dX5_add_12 : decode cX5_add 12 = .ok (.getfield 9, 3) := dz_180 (dz_at q10w07_6_0 12) rfl
theorem dX5_add_15 : decode cX5_add 15 = .ok (.aload_n 0, 1) := dz_42 (dz_at q10w07_6_0 15)
theorem dX5_add_16 : decode cX5_add 16 = .ok (.getfield 18, 3) := dz_180 (dz_at q10w07_6_0 16) rfl
theorem dX5_add_19 : decode cX5_add 19 = .ok (.iload_n 1, 1) := dz_27 (dz_at q10w07_6_0 19)
theorem dX5_add_20 : decode cX5_add 20 = .ok (.iastore, 1) := dz_79 (dz_at q10w07_6_0 20)
theorem dX5_add_21 : decode cX5_add 21 = .ok (.aload_n 0, 1) := dz_42 (dz_at q10w07_6_0 21)
theorem dX5_add_22 : decode cX5_add 22 = .ok (.getfield 15, 3) := dz_180 (dz_at q10w07_6_22 0) rfl
theorem dX5_add_25 : decode cX5_add 25 = .ok (.aload_n 0, 1) := dz_42 (dz_at q10w07_6_22 3)
theorem dX5_add_26 : decode cX5_add 26 = .ok (.getfield 18, 3) := dz_180 (dz_at q10w07_6_22 4) rfl
theorem dX5_add_29 : decode cX5_add 29 = .ok (.iload_n 2, 1) := dz_28 (dz_at q10w07_6_22 7)
theorem dX5_add_30 : decode cX5_add 30 = .ok (.iastore, 1) := dz_79 (dz_at q10w07_6_22 8)
theorem dX5_add_31 : decode cX5_add 31 = .ok (.aload_n 0, 1) := dz_42 (dz_at q10w07_6_22 9)
theorem dX5_add_32 : decode cX5_add 32 = .ok (.dup, 1) := dz_89 (dz_at q10w07_6_22 10)
theorem dX5_add_33 : decode cX5_add 33 = .ok (.getfield 18, 3) := dz_180 (dz_at q10w07_6_22 11) rfl
theorem dX5_add_36 : decode cX5_add 36 = .ok (.iconst 1, 1) := dz_4 (dz_at q10w07_6_22 14)
theorem dX5_add_37 : decode cX5_add 37 = .ok (.iadd, 1) := dz_96 (dz_at q10w07_6_22 15)
theorem dX5_add_38 : decode cX5_add 38 = .ok (.putfield 18, 3) := dz_181 (dz_at q10w07_6_22 16) rfl
theorem dX5_add_4 : decode cX5_add 4 = .ok (.bipush 6, 2) := dz_16 (dz_at q10w07_6_0 4) (by decide +kernel)
theorem dX5_add_41 : decode cX5_add 41 = .ok (.aload_n 0, 1) := dz_42 (dz_at q10w07_6_22 19)
theorem dX5_add_42 : decode cX5_add 42 = .ok (.getfield 18, 3) := dz_180 (dz_at q10w07_6_22 20) rfl
theorem dX5_add_45 : decode cX5_add 45 = .ok (.ireturn, 1) := dz_172 (dz_at q10w07_6_22 23)
theorem dX5_add_6 : decode cX5_add 6 = .ok (.if_icmp .lt 5, 3) := dz_161 (dz_at q10w07_6_0 6) (by decide +kernel)
theorem dX5_add_9 : decode cX5_add 9 = .ok (.iconst (-1), 1) := dz_2 (dz_at q10w07_6_0 9)
theorem q10w07_7_0 : (cX5_cost.data.toList.drop 0).take 14 = [8, 27, 104, 28, 42, 180, 0, 118, 100, 184, 0, 121, 96, 172] := by decide +kernel
theorem dX5_cost_0 : decode cX5_cost 0 = .ok (.iconst 5, 1) := dz_8 (dz_at q10w07_7_0 0)
theorem dX5_cost_1 : decode cX5_cost 1 = .ok (.iload_n 1, 1) := dz_27 (dz_at q10w07_7_0 1)
theorem dX5_cost_12 : decode cX5_cost 12 = .ok (.iadd, 1) := dz_96 (dz_at q10w07_7_0 12)
theorem dX5_cost_13 : decode cX5_cost 13 = .ok (.ireturn, 1) := dz_172 (dz_at q10w07_7_0 13)
theorem dX5_cost_2 : decode cX5_cost 2 = .ok (.imul, 1) := dz_104 (dz_at q10w07_7_0 2)
theorem dX5_cost_3 : decode cX5_cost 3 = .ok (.iload_n 2, 1) := dz_28 (dz_at q10w07_7_0 3)
theorem dX5_cost_4 : decode cX5_cost 4 = .ok (.aload_n 0, 1) := dz_42 (dz_at q10w07_7_0 4)
theorem dX5_cost_5 : decode cX5_cost 5 = .ok (.getfield 118, 3) := dz_180 (dz_at q10w07_7_0 5) rfl
theorem dX5_cost_8 : decode cX5_cost 8 = .ok (.isub, 1) := dz_100 (dz_at q10w07_7_0 8)
theorem dX5_cost_9 : decode cX5_cost 9 = .ok (.invokestatic 121, 3) := dz_184 (dz_at q10w07_7_0 9) rfl
theorem q10w07_8_0 : (cX5_listCheapest.data.toList.drop 0).take 23 = [42, 180, 0, 33, 18, 49, 184, 0, 50, 3, 62, 3, 54, 4, 21, 4, 43, 180, 0, 85, 180, 0, 89] := by decide +kernel
theorem q10w07_8_23 : (cX5_listCheapest.data.toList.drop 23).take 24 = [162, 0, 69, 3, 54, 5, 21, 5, 43, 180, 0, 85, 180, 0, 89, 21, 4, 100, 162, 0, 45, 29, 44, 190] := by decide +kernel
theorem q10w07_8_47 : (cX5_listCheapest.data.toList.drop 47).take 23 = [162, 0, 39, 42, 180, 0, 33, 44, 29, 46, 42, 180, 0, 33, 44, 29, 46, 46, 43, 21, 4, 21, 5] := by decide +kernel
theorem q10w07_8_70 : (cX5_listCheapest.data.toList.drop 70).take 23 = [184, 0, 110, 184, 0, 113, 79, 132, 3, 1, 132, 5, 1, 167, 255, 202, 132, 4, 1, 167, 255, 181, 177] := by decide +kernel
theorem dX5_listCheapest_0 : decode cX5_listCheapest 0 = .ok (.aload_n 0, 1) := dz_42 (dz_at q10w07_8_0 0)
theorem dX5_listCheapest_1 : decode cX5_listCheapest 1 = .ok (.getfield 33, 3) := dz_180 (dz_at q10w07_8_0 1) rfl
theorem dX5_listCheapest_10 : decode cX5_listCheapest 10 = .ok (.istore_n 3, 1) := dz_62 (dz_at q10w07_8_0 10)
theorem dX5_listCheapest_11 : decode cX5_listCheapest 11 = .ok (.iconst 0, 1) := dz_3 (dz_at q10w07_8_0 11)
theorem dX5_listCheapest_12 : decode cX5_listCheapest 12 = .ok (.istore 4, 2) := dz_54 (dz_at q10w07_8_0 12)
theorem dX5_listCheapest_14 : decode cX5_listCheapest 14 = .ok (.iload 4, 2) := dz_21 (dz_at q10w07_8_0 14)
theorem dX5_listCheapest_16 : decode cX5_listCheapest 16 = .ok (.aload_n 1, 1) := dz_43 (dz_at q10w07_8_0 16)
theorem dX5_listCheapest_17 : decode cX5_listCheapest 17 = .ok (.getfield 85, 3) := dz_180 (dz_at q10w07_8_0 17) rfl
theorem dX5_listCheapest_20 : decode cX5_listCheapest 20 = .ok (.getfield 89, 3) := dz_180 (dz_at q10w07_8_0 20) rfl
theorem dX5_listCheapest_23 : decode cX5_listCheapest 23 = .ok (.if_icmp .ge 69, 3) := dz_162 (dz_at q10w07_8_23 0) (by decide +kernel)
theorem dX5_listCheapest_26 : decode cX5_listCheapest 26 = .ok (.iconst 0, 1) := dz_3 (dz_at q10w07_8_23 3)
theorem dX5_listCheapest_27 : decode cX5_listCheapest 27 = .ok (.istore 5, 2) := dz_54 (dz_at q10w07_8_23 4)
theorem dX5_listCheapest_29 : decode cX5_listCheapest 29 = .ok (.iload 5, 2) := dz_21 (dz_at q10w07_8_23 6)
theorem dX5_listCheapest_31 : decode cX5_listCheapest 31 = .ok (.aload_n 1, 1) := dz_43 (dz_at q10w07_8_23 8)
theorem dX5_listCheapest_32 : decode cX5_listCheapest 32 = .ok (.getfield 85, 3) := dz_180 (dz_at q10w07_8_23 9) rfl
theorem dX5_listCheapest_35 : decode cX5_listCheapest 35 = .ok (.getfield 89, 3) := dz_180 (dz_at q10w07_8_23 12) rfl
theorem dX5_listCheapest_38 : decode cX5_listCheapest 38 = .ok (.iload 4, 2) := dz_21 (dz_at q10w07_8_23 15)
theorem dX5_listCheapest_4 : decode cX5_listCheapest 4 = .ok (.ldc 49, 2) := dz_18 (dz_at q10w07_8_0 4)
theorem dX5_listCheapest_40 : decode cX5_listCheapest 40 = .ok (.isub, 1) := dz_100 (dz_at q10w07_8_23 17)
theorem dX5_listCheapest_41 : decode cX5_listCheapest 41 = .ok (.if_icmp .ge 45, 3) := dz_162 (dz_at q10w07_8_23 18) (by decide +kernel)
theorem dX5_listCheapest_44 : decode cX5_listCheapest 44 = .ok (.iload_n 3, 1) := dz_29 (dz_at q10w07_8_23 21)
theorem dX5_listCheapest_45 : decode cX5_listCheapest 45 = .ok (.aload_n 2, 1) := dz_44 (dz_at q10w07_8_23 22)
theorem dX5_listCheapest_46 : decode cX5_listCheapest 46 = .ok (.arraylength, 1) := dz_190 (dz_at q10w07_8_23 23)
theorem dX5_listCheapest_47 : decode cX5_listCheapest 47 = .ok (.if_icmp .ge 39, 3) := dz_162 (dz_at q10w07_8_47 0) (by decide +kernel)
theorem dX5_listCheapest_50 : decode cX5_listCheapest 50 = .ok (.aload_n 0, 1) := dz_42 (dz_at q10w07_8_47 3)
theorem dX5_listCheapest_51 : decode cX5_listCheapest 51 = .ok (.getfield 33, 3) := dz_180 (dz_at q10w07_8_47 4) rfl
theorem dX5_listCheapest_54 : decode cX5_listCheapest 54 = .ok (.aload_n 2, 1) := dz_44 (dz_at q10w07_8_47 7)
theorem dX5_listCheapest_55 : decode cX5_listCheapest 55 = .ok (.iload_n 3, 1) := dz_29 (dz_at q10w07_8_47 8)
theorem dX5_listCheapest_56 : decode cX5_listCheapest 56 = .ok (.iaload, 1) := dz_46 (dz_at q10w07_8_47 9)
theorem dX5_listCheapest_57 : decode cX5_listCheapest 57 = .ok (.aload_n 0, 1) := dz_42 (dz_at q10w07_8_47 10)
theorem dX5_listCheapest_58 : decode cX5_listCheapest 58 = .ok (.getfield 33, 3) := dz_180 (dz_at q10w07_8_47 11) rfl
theorem dX5_listCheapest_6 : decode cX5_listCheapest 6 = .ok (.invokestatic 50, 3) := dz_184 (dz_at q10w07_8_0 6) rfl
theorem dX5_listCheapest_61 : decode cX5_listCheapest 61 = .ok (.aload_n 2, 1) := dz_44 (dz_at q10w07_8_47 14)
theorem dX5_listCheapest_62 : decode cX5_listCheapest 62 = .ok (.iload_n 3, 1) := dz_29 (dz_at q10w07_8_47 15)
theorem dX5_listCheapest_63 : decode cX5_listCheapest 63 = .ok (.iaload, 1) := dz_46 (dz_at q10w07_8_47 16)
theorem dX5_listCheapest_64 : decode cX5_listCheapest 64 = .ok (.iaload, 1) := dz_46 (dz_at q10w07_8_47 17)
theorem dX5_listCheapest_65 : decode cX5_listCheapest 65 = .ok (.aload_n 1, 1) := dz_43 (dz_at q10w07_8_47 18)
theorem dX5_listCheapest_66 : decode cX5_listCheapest 66 = .ok (.iload 4, 2) := dz_21 (dz_at q10w07_8_47 19)
theorem dX5_listCheapest_68 : decode cX5_listCheapest 68 = .ok (.iload 5, 2) := dz_21 (dz_at q10w07_8_47 21)
theorem dX5_listCheapest_70 : decode cX5_listCheapest 70 = .ok (.invokestatic 110, 3) := dz_184 (dz_at q10w07_8_70 0) rfl
theorem dX5_listCheapest_73 : decode cX5_listCheapest 73 = .ok (.invokestatic 113, 3) := dz_184 (dz_at q10w07_8_70 3) rfl
theorem dX5_listCheapest_76 : decode cX5_listCheapest 76 = .ok (.iastore, 1) := dz_79 (dz_at q10w07_8_70 6)
theorem dX5_listCheapest_77 : decode cX5_listCheapest 77 = .ok (.iinc 3 1, 3) := dz_132 (dz_at q10w07_8_70 7) (by decide +kernel)
theorem dX5_listCheapest_80 : decode cX5_listCheapest 80 = .ok (.iinc 5 1, 3) := dz_132 (dz_at q10w07_8_70 10) (by decide +kernel)
theorem dX5_listCheapest_83 : decode cX5_listCheapest 83 = .ok (.goto (-54), 3) := dz_167 (dz_at q10w07_8_70 13) (by decide +kernel)
theorem dX5_listCheapest_86 : decode cX5_listCheapest 86 = .ok (.iinc 4 1, 3) := dz_132 (dz_at q10w07_8_70 16) (by decide +kernel)
theorem dX5_listCheapest_89 : decode cX5_listCheapest 89 = .ok (.goto (-75), 3) := dz_167 (dz_at q10w07_8_70 19) (by decide +kernel)
theorem dX5_listCheapest_9 : decode cX5_listCheapest 9 = .ok (.iconst 0, 1) := dz_3 (dz_at q10w07_8_0 9)
theorem dX5_listCheapest_92 : decode cX5_listCheapest 92 = .ok (.return_, 1) := dz_177 (dz_at q10w07_8_70 22)
theorem q10w07_9_0 : (cX5_listTrue.data.toList.drop 0).take 24 = [3, 54, 4, 43, 180, 0, 85, 180, 0, 89, 54, 5, 21, 5, 158, 0, 96, 43, 42, 180, 0, 36, 21, 5] := by decide +kernel
theorem q10w07_9_24 : (cX5_listTrue.data.toList.drop 24).take 23 = [182, 0, 94, 3, 54, 6, 21, 6, 42, 180, 0, 18, 162, 0, 30, 42, 180, 0, 39, 21, 6, 44, 42] := by decide +kernel
theorem q10w07_9_47 : (cX5_listTrue.data.toList.drop 47).take 24 = [180, 0, 9, 21, 6, 46, 133, 21, 5, 182, 0, 97, 79, 132, 6, 1, 167, 255, 223, 3, 54, 6, 21, 6] := by decide +kernel
theorem q10w07_9_71 : (cX5_listTrue.data.toList.drop 71).take 24 = [21, 5, 162, 0, 31, 21, 4, 45, 190, 162, 0, 24, 45, 21, 4, 42, 21, 6, 21, 5, 182, 0, 103, 79] := by decide +kernel
theorem q10w07_9_95 : (cX5_listTrue.data.toList.drop 95).take 16 = [132, 4, 1, 132, 6, 1, 167, 255, 224, 132, 5, 255, 167, 255, 161, 177] := by decide +kernel
theorem dX5_listTrue_0 : decode cX5_listTrue 0 = .ok (.iconst 0, 1) := dz_3 (dz_at q10w07_9_0 0)
theorem dX5_listTrue_1 : decode cX5_listTrue 1 = .ok (.istore 4, 2) := dz_54 (dz_at q10w07_9_0 1)
theorem dX5_listTrue_10 : decode cX5_listTrue 10 = .ok (.istore 5, 2) := dz_54 (dz_at q10w07_9_0 10)
theorem dX5_listTrue_101 : decode cX5_listTrue 101 = .ok (.goto (-32), 3) := dz_167 (dz_at q10w07_9_95 6) (by decide +kernel)
theorem dX5_listTrue_104 : decode cX5_listTrue 104 = .ok (.iinc 5 (-1), 3) := dz_132 (dz_at q10w07_9_95 9) (by decide +kernel)
theorem dX5_listTrue_107 : decode cX5_listTrue 107 = .ok (.goto (-95), 3) := dz_167 (dz_at q10w07_9_95 12) (by decide +kernel)
theorem dX5_listTrue_110 : decode cX5_listTrue 110 = .ok (.return_, 1) := dz_177 (dz_at q10w07_9_95 15)
theorem dX5_listTrue_12 : decode cX5_listTrue 12 = .ok (.iload 5, 2) := dz_21 (dz_at q10w07_9_0 12)
theorem dX5_listTrue_14 : decode cX5_listTrue 14 = .ok (.ifCond .le 96, 3) := dz_158 (dz_at q10w07_9_0 14) (by decide +kernel)
theorem dX5_listTrue_17 : decode cX5_listTrue 17 = .ok (.aload_n 1, 1) := dz_43 (dz_at q10w07_9_0 17)
theorem dX5_listTrue_18 : decode cX5_listTrue 18 = .ok (.aload_n 0, 1) := dz_42 (dz_at q10w07_9_0 18)
theorem dX5_listTrue_19 : decode cX5_listTrue 19 = .ok (.getfield 36, 3) := dz_180 (dz_at q10w07_9_0 19) rfl
theorem dX5_listTrue_22 : decode cX5_listTrue 22 = .ok (.iload 5, 2) := dz_21 (dz_at q10w07_9_0 22)
theorem dX5_listTrue_24 : decode cX5_listTrue 24 = .ok (.invokevirtual 94, 3) := dz_182 (dz_at q10w07_9_24 0) rfl
theorem dX5_listTrue_27 : decode cX5_listTrue 27 = .ok (.iconst 0, 1) := dz_3 (dz_at q10w07_9_24 3)
theorem dX5_listTrue_28 : decode cX5_listTrue 28 = .ok (.istore 6, 2) := dz_54 (dz_at q10w07_9_24 4)
theorem dX5_listTrue_3 : decode cX5_listTrue 3 = .ok (.aload_n 1, 1) := dz_43 (dz_at q10w07_9_0 3)
theorem dX5_listTrue_30 : decode cX5_listTrue 30 = .ok (.iload 6, 2) := dz_21 (dz_at q10w07_9_24 6)
theorem dX5_listTrue_32 : decode cX5_listTrue 32 = .ok (.aload_n 0, 1) := dz_42 (dz_at q10w07_9_24 8)
theorem dX5_listTrue_33 : decode cX5_listTrue 33 = .ok (.getfield 18, 3) := dz_180 (dz_at q10w07_9_24 9) rfl
theorem dX5_listTrue_36 : decode cX5_listTrue 36 = .ok (.if_icmp .ge 30, 3) := dz_162 (dz_at q10w07_9_24 12) (by decide +kernel)
theorem dX5_listTrue_39 : decode cX5_listTrue 39 = .ok (.aload_n 0, 1) := dz_42 (dz_at q10w07_9_24 15)
theorem dX5_listTrue_4 : decode cX5_listTrue 4 = .ok (.getfield 85, 3) := dz_180 (dz_at q10w07_9_0 4) rfl
theorem dX5_listTrue_40 : decode cX5_listTrue 40 = .ok (.getfield 39, 3) := dz_180 (dz_at q10w07_9_24 16) rfl
theorem dX5_listTrue_43 : decode cX5_listTrue 43 = .ok (.iload 6, 2) := dz_21 (dz_at q10w07_9_24 19)
theorem dX5_listTrue_45 : decode cX5_listTrue 45 = .ok (.aload_n 2, 1) := dz_44 (dz_at q10w07_9_24 21)
theorem dX5_listTrue_46 : decode cX5_listTrue 46 = .ok (.aload_n 0, 1) := dz_42 (dz_at q10w07_9_24 22)
theorem dX5_listTrue_47 : decode cX5_listTrue 47 = .ok (.getfield 9, 3) := dz_180 (dz_at q10w07_9_47 0) rfl
theorem dX5_listTrue_50 : decode cX5_listTrue 50 = .ok (.iload 6, 2) := dz_21 (dz_at q10w07_9_47 3)
theorem dX5_listTrue_52 : decode cX5_listTrue 52 = .ok (.iaload, 1) := dz_46 (dz_at q10w07_9_47 5)
theorem dX5_listTrue_53 : decode cX5_listTrue 53 = .ok (.i2l, 1) := dz_133 (dz_at q10w07_9_47 6)
theorem dX5_listTrue_54 : decode cX5_listTrue 54 = .ok (.iload 5, 2) := dz_21 (dz_at q10w07_9_47 7)
theorem dX5_listTrue_56 : decode cX5_listTrue 56 = .ok (.invokevirtual 97, 3) := dz_182 (dz_at q10w07_9_47 9) rfl
theorem dX5_listTrue_59 : decode cX5_listTrue 59 = .ok (.iastore, 1) := dz_79 (dz_at q10w07_9_47 12)
theorem dX5_listTrue_60 : decode cX5_listTrue 60 = .ok (.iinc 6 1, 3) := dz_132 (dz_at q10w07_9_47 13) (by decide +kernel)
theorem dX5_listTrue_63 : decode cX5_listTrue 63 = .ok (.goto (-33), 3) := dz_167 (dz_at q10w07_9_47 16) (by decide +kernel)
theorem dX5_listTrue_66 : decode cX5_listTrue 66 = .ok (.iconst 0, 1) := dz_3 (dz_at q10w07_9_47 19)
theorem dX5_listTrue_67 : decode cX5_listTrue 67 = .ok (.istore 6, 2) := dz_54 (dz_at q10w07_9_47 20)
theorem dX5_listTrue_69 : decode cX5_listTrue 69 = .ok (.iload 6, 2) := dz_21 (dz_at q10w07_9_47 22)
theorem dX5_listTrue_7 : decode cX5_listTrue 7 = .ok (.getfield 89, 3) := dz_180 (dz_at q10w07_9_0 7) rfl
theorem dX5_listTrue_71 : decode cX5_listTrue 71 = .ok (.iload 5, 2) := dz_21 (dz_at q10w07_9_71 0)
theorem dX5_listTrue_73 : decode cX5_listTrue 73 = .ok (.if_icmp .ge 31, 3) := dz_162 (dz_at q10w07_9_71 2) (by decide +kernel)
theorem dX5_listTrue_76 : decode cX5_listTrue 76 = .ok (.iload 4, 2) := dz_21 (dz_at q10w07_9_71 5)
theorem dX5_listTrue_78 : decode cX5_listTrue 78 = .ok (.aload_n 3, 1) := dz_45 (dz_at q10w07_9_71 7)
theorem dX5_listTrue_79 : decode cX5_listTrue 79 = .ok (.arraylength, 1) := dz_190 (dz_at q10w07_9_71 8)
theorem dX5_listTrue_80 : decode cX5_listTrue 80 = .ok (.if_icmp .ge 24, 3) := dz_162 (dz_at q10w07_9_71 9) (by decide +kernel)
theorem dX5_listTrue_83 : decode cX5_listTrue 83 = .ok (.aload_n 3, 1) := dz_45 (dz_at q10w07_9_71 12)
theorem dX5_listTrue_84 : decode cX5_listTrue 84 = .ok (.iload 4, 2) := dz_21 (dz_at q10w07_9_71 13)
theorem dX5_listTrue_86 : decode cX5_listTrue 86 = .ok (.aload_n 0, 1) := dz_42 (dz_at q10w07_9_71 15)
theorem dX5_listTrue_87 : decode cX5_listTrue 87 = .ok (.iload 6, 2) := dz_21 (dz_at q10w07_9_71 16)
theorem dX5_listTrue_89 : decode cX5_listTrue 89 = .ok (.iload 5, 2) := dz_21 (dz_at q10w07_9_71 18)
theorem dX5_listTrue_91 : decode cX5_listTrue 91 = .ok (.invokevirtual 103, 3) := dz_182 (dz_at q10w07_9_71 20) rfl
theorem dX5_listTrue_94 : decode cX5_listTrue 94 = .ok (.iastore, 1) := dz_79 (dz_at q10w07_9_71 23)
theorem dX5_listTrue_95 : decode cX5_listTrue 95 = .ok (.iinc 4 1, 3) := dz_132 (dz_at q10w07_9_95 0) (by decide +kernel)
theorem dX5_listTrue_98 : decode cX5_listTrue 98 = .ok (.iinc 6 1, 3) := dz_132 (dz_at q10w07_9_95 3) (by decide +kernel)
theorem q10w07_10_0 : (cX5_marksTrue.data.toList.drop 0).take 24 = [3, 61, 3, 62, 29, 42, 180, 0, 18, 162, 0, 34, 28, 43, 42, 180, 0, 9, 29, 46, 133, 182, 0, 42] := by decide +kernel
theorem q10w07_10_24 : (cX5_marksTrue.data.toList.drop 24).take 21 = [42, 180, 0, 15, 29, 46, 122, 4, 126, 29, 120, 128, 61, 132, 3, 1, 167, 255, 220, 28, 172] := by decide +kernel
theorem dX5_marksTrue_0 : decode cX5_marksTrue 0 = .ok (.iconst 0, 1) := dz_3 (dz_at q10w07_10_0 0)
theorem dX5_marksTrue_1 : decode cX5_marksTrue 1 = .ok (.istore_n 2, 1) := dz_61 (dz_at q10w07_10_0 1)
theorem dX5_marksTrue_12 : decode cX5_marksTrue 12 = .ok (.iload_n 2, 1) := dz_28 (dz_at q10w07_10_0 12)
theorem dX5_marksTrue_13 : decode cX5_marksTrue 13 = .ok (.aload_n 1, 1) := dz_43 (dz_at q10w07_10_0 13)
theorem dX5_marksTrue_14 : decode cX5_marksTrue 14 = .ok (.aload_n 0, 1) := dz_42 (dz_at q10w07_10_0 14)
theorem dX5_marksTrue_15 : decode cX5_marksTrue 15 = .ok (.getfield 9, 3) := dz_180 (dz_at q10w07_10_0 15) rfl
theorem dX5_marksTrue_18 : decode cX5_marksTrue 18 = .ok (.iload_n 3, 1) := dz_29 (dz_at q10w07_10_0 18)
theorem dX5_marksTrue_19 : decode cX5_marksTrue 19 = .ok (.iaload, 1) := dz_46 (dz_at q10w07_10_0 19)
theorem dX5_marksTrue_2 : decode cX5_marksTrue 2 = .ok (.iconst 0, 1) := dz_3 (dz_at q10w07_10_0 2)
theorem dX5_marksTrue_20 : decode cX5_marksTrue 20 = .ok (.i2l, 1) := dz_133 (dz_at q10w07_10_0 20)
theorem dX5_marksTrue_21 : decode cX5_marksTrue 21 = .ok (.invokevirtual 42, 3) := dz_182 (dz_at q10w07_10_0 21) rfl
theorem dX5_marksTrue_24 : decode cX5_marksTrue 24 = .ok (.aload_n 0, 1) := dz_42 (dz_at q10w07_10_24 0)
theorem dX5_marksTrue_25 : decode cX5_marksTrue 25 = .ok (.getfield 15, 3) := dz_180 (dz_at q10w07_10_24 1) rfl
theorem dX5_marksTrue_28 : decode cX5_marksTrue 28 = .ok (.iload_n 3, 1) := dz_29 (dz_at q10w07_10_24 4)
theorem dX5_marksTrue_29 : decode cX5_marksTrue 29 = .ok (.iaload, 1) := dz_46 (dz_at q10w07_10_24 5)
theorem dX5_marksTrue_3 : decode cX5_marksTrue 3 = .ok (.istore_n 3, 1) := dz_62 (dz_at q10w07_10_0 3)
theorem dX5_marksTrue_30 : decode cX5_marksTrue 30 = .ok (.ishr, 1) := dz_122 (dz_at q10w07_10_24 6)
theorem dX5_marksTrue_31 : decode cX5_marksTrue 31 = .ok (.iconst 1, 1) := dz_4 (dz_at q10w07_10_24 7)
theorem dX5_marksTrue_32 : decode cX5_marksTrue 32 = .ok (.iand, 1) := dz_126 (dz_at q10w07_10_24 8)
theorem dX5_marksTrue_33 : decode cX5_marksTrue 33 = .ok (.iload_n 3, 1) := dz_29 (dz_at q10w07_10_24 9)
theorem dX5_marksTrue_34 : decode cX5_marksTrue 34 = .ok (.ishl, 1) := dz_120 (dz_at q10w07_10_24 10)
theorem dX5_marksTrue_35 : decode cX5_marksTrue 35 = .ok (.ior, 1) := dz_128 (dz_at q10w07_10_24 11)
theorem dX5_marksTrue_36 : decode cX5_marksTrue 36 = .ok (.istore_n 2, 1) := dz_61 (dz_at q10w07_10_24 12)
theorem dX5_marksTrue_37 : decode cX5_marksTrue 37 = .ok (.iinc 3 1, 3) := dz_132 (dz_at q10w07_10_24 13) (by decide +kernel)
theorem dX5_marksTrue_4 : decode cX5_marksTrue 4 = .ok (.iload_n 3, 1) := dz_29 (dz_at q10w07_10_0 4)
theorem dX5_marksTrue_40 : decode cX5_marksTrue 40 = .ok (.goto (-36), 3) := dz_167 (dz_at q10w07_10_24 16) (by decide +kernel)
theorem dX5_marksTrue_43 : decode cX5_marksTrue 43 = .ok (.iload_n 2, 1) := dz_28 (dz_at q10w07_10_24 19)
theorem dX5_marksTrue_44 : decode cX5_marksTrue 44 = .ok (.ireturn, 1) := dz_172 (dz_at q10w07_10_24 20)
theorem dX5_marksTrue_5 : decode cX5_marksTrue 5 = .ok (.aload_n 0, 1) := dz_42 (dz_at q10w07_10_0 5)
theorem dX5_marksTrue_6 : decode cX5_marksTrue 6 = .ok (.getfield 18, 3) := dz_180 (dz_at q10w07_10_0 6) rfl
theorem dX5_marksTrue_9 : decode cX5_marksTrue 9 = .ok (.if_icmp .ge 34, 3) := dz_162 (dz_at q10w07_10_0 9) (by decide +kernel)
theorem q10w07_11_0 : (cX5_trueFrom.data.toList.drop 0).take 24 = [3, 62, 3, 54, 4, 21, 4, 42, 180, 0, 18, 162, 0, 44, 29, 42, 180, 0, 36, 27, 42, 180, 0, 39] := by decide +kernel
theorem q10w07_11_24 : (cX5_trueFrom.data.toList.drop 24).take 24 = [21, 4, 46, 96, 133, 28, 184, 0, 107, 46, 42, 180, 0, 15, 21, 4, 46, 122, 4, 126, 21, 4, 120, 128] := by decide +kernel
theorem q10w07_11_48 : (cX5_trueFrom.data.toList.drop 48).take 9 = [62, 132, 4, 1, 167, 255, 209, 29, 172] := by decide +kernel
theorem dX5_trueFrom_0 : decode cX5_trueFrom 0 = .ok (.iconst 0, 1) := dz_3 (dz_at q10w07_11_0 0)
theorem dX5_trueFrom_1 : decode cX5_trueFrom 1 = .ok (.istore_n 3, 1) := dz_62 (dz_at q10w07_11_0 1)
theorem dX5_trueFrom_11 : decode cX5_trueFrom 11 = .ok (.if_icmp .ge 44, 3) := dz_162 (dz_at q10w07_11_0 11) (by decide +kernel)
theorem dX5_trueFrom_14 : decode cX5_trueFrom 14 = .ok (.iload_n 3, 1) := dz_29 (dz_at q10w07_11_0 14)
theorem dX5_trueFrom_15 : decode cX5_trueFrom 15 = .ok (.aload_n 0, 1) := dz_42 (dz_at q10w07_11_0 15)
theorem dX5_trueFrom_16 : decode cX5_trueFrom 16 = .ok (.getfield 36, 3) := dz_180 (dz_at q10w07_11_0 16) rfl
theorem dX5_trueFrom_19 : decode cX5_trueFrom 19 = .ok (.iload_n 1, 1) := dz_27 (dz_at q10w07_11_0 19)
theorem dX5_trueFrom_2 : decode cX5_trueFrom 2 = .ok (.iconst 0, 1) := dz_3 (dz_at q10w07_11_0 2)
theorem dX5_trueFrom_20 : decode cX5_trueFrom 20 = .ok (.aload_n 0, 1) := dz_42 (dz_at q10w07_11_0 20)
theorem dX5_trueFrom_21 : decode cX5_trueFrom 21 = .ok (.getfield 39, 3) := dz_180 (dz_at q10w07_11_0 21) rfl
theorem dX5_trueFrom_24 : decode cX5_trueFrom 24 = .ok (.iload 4, 2) := dz_21 (dz_at q10w07_11_24 0)
theorem dX5_trueFrom_26 : decode cX5_trueFrom 26 = .ok (.iaload, 1) := dz_46 (dz_at q10w07_11_24 2)
theorem dX5_trueFrom_27 : decode cX5_trueFrom 27 = .ok (.iadd, 1) := dz_96 (dz_at q10w07_11_24 3)
theorem dX5_trueFrom_28 : decode cX5_trueFrom 28 = .ok (.i2l, 1) := dz_133 (dz_at q10w07_11_24 4)
theorem dX5_trueFrom_29 : decode cX5_trueFrom 29 = .ok (.iload_n 2, 1) := dz_28 (dz_at q10w07_11_24 5)
theorem dX5_trueFrom_3 : decode cX5_trueFrom 3 = .ok (.istore 4, 2) := dz_54 (dz_at q10w07_11_0 3)
theorem dX5_trueFrom_30 : decode cX5_trueFrom 30 = .ok (.invokestatic 107, 3) := dz_184 (dz_at q10w07_11_24 6) rfl
theorem dX5_trueFrom_33 : decode cX5_trueFrom 33 = .ok (.iaload, 1) := dz_46 (dz_at q10w07_11_24 9)
theorem dX5_trueFrom_34 : decode cX5_trueFrom 34 = .ok (.aload_n 0, 1) := dz_42 (dz_at q10w07_11_24 10)
theorem dX5_trueFrom_35 : decode cX5_trueFrom 35 = .ok (.getfield 15, 3) := dz_180 (dz_at q10w07_11_24 11) rfl
theorem dX5_trueFrom_38 : decode cX5_trueFrom 38 = .ok (.iload 4, 2) := dz_21 (dz_at q10w07_11_24 14)
theorem dX5_trueFrom_40 : decode cX5_trueFrom 40 = .ok (.iaload, 1) := dz_46 (dz_at q10w07_11_24 16)
theorem dX5_trueFrom_41 : decode cX5_trueFrom 41 = .ok (.ishr, 1) := dz_122 (dz_at q10w07_11_24 17)
theorem dX5_trueFrom_42 : decode cX5_trueFrom 42 = .ok (.iconst 1, 1) := dz_4 (dz_at q10w07_11_24 18)
theorem dX5_trueFrom_43 : decode cX5_trueFrom 43 = .ok (.iand, 1) := dz_126 (dz_at q10w07_11_24 19)
theorem dX5_trueFrom_44 : decode cX5_trueFrom 44 = .ok (.iload 4, 2) := dz_21 (dz_at q10w07_11_24 20)
theorem dX5_trueFrom_46 : decode cX5_trueFrom 46 = .ok (.ishl, 1) := dz_120 (dz_at q10w07_11_24 22)
theorem dX5_trueFrom_47 : decode cX5_trueFrom 47 = .ok (.ior, 1) := dz_128 (dz_at q10w07_11_24 23)
theorem dX5_trueFrom_48 : decode cX5_trueFrom 48 = .ok (.istore_n 3, 1) := dz_62 (dz_at q10w07_11_48 0)
theorem dX5_trueFrom_49 : decode cX5_trueFrom 49 = .ok (.iinc 4 1, 3) := dz_132 (dz_at q10w07_11_48 1) (by decide +kernel)
theorem dX5_trueFrom_5 : decode cX5_trueFrom 5 = .ok (.iload 4, 2) := dz_21 (dz_at q10w07_11_0 5)
theorem dX5_trueFrom_52 : decode cX5_trueFrom 52 = .ok (.goto (-47), 3) := dz_167 (dz_at q10w07_11_48 4) (by decide +kernel)
theorem dX5_trueFrom_55 : decode cX5_trueFrom 55 = .ok (.iload_n 3, 1) := dz_29 (dz_at q10w07_11_48 7)
theorem dX5_trueFrom_56 : decode cX5_trueFrom 56 = .ok (.ireturn, 1) := dz_172 (dz_at q10w07_11_48 8)
theorem dX5_trueFrom_7 : decode cX5_trueFrom 7 = .ok (.aload_n 0, 1) := dz_42 (dz_at q10w07_11_0 7)
theorem dX5_trueFrom_8 : decode cX5_trueFrom 8 = .ok (.getfield 18, 3) := dz_180 (dz_at q10w07_11_0 8) rfl
theorem dm_X11_isSound : yX11_isSound.cls = RX11 ∧ yX11_isSound.cls ≠ "java/lang/invoke/MethodHandle" ∧ yX11_isSound.cls ≠ "java/lang/invoke/VarHandle" ∧ (parseMethodDescriptor yX11_isSound.desc).map (fun d => d.parameters.length) = some 1 := by decide +kernel
theorem dm_X5_add : yX5_add.cls = RX5 ∧ yX5_add.cls ≠ "java/lang/invoke/MethodHandle" ∧ yX5_add.cls ≠ "java/lang/invoke/VarHandle" ∧ (parseMethodDescriptor yX5_add.desc).map (fun d => d.parameters.length) = some 2 := by decide +kernel
theorem dm_X5_marksTrue : yX5_marksTrue.cls = RX5 ∧ yX5_marksTrue.cls ≠ "java/lang/invoke/MethodHandle" ∧ yX5_marksTrue.cls ≠ "java/lang/invoke/VarHandle" ∧ (parseMethodDescriptor yX5_marksTrue.desc).map (fun d => d.parameters.length) = some 1 := by decide +kernel
theorem dm_X5_trueFrom : yX5_trueFrom.cls = RX5 ∧ yX5_trueFrom.cls ≠ "java/lang/invoke/MethodHandle" ∧ yX5_trueFrom.cls ≠ "java/lang/invoke/VarHandle" ∧ (parseMethodDescriptor yX5_trueFrom.desc).map (fun d => d.parameters.length) = some 2 := by decide +kernel
theorem dm_J7_fill_53178 : yJ7_fill_53178.cls = RJ7 ∧ yJ7_fill_53178.cls ≠ "java/lang/invoke/MethodHandle" ∧ yJ7_fill_53178.cls ≠ "java/lang/invoke/VarHandle" ∧ (parseMethodDescriptor yJ7_fill_53178.desc).map (fun d => d.parameters.length) = some 2 := by decide +kernel
theorem dm_X5_cost : yX5_cost.cls = RX5 ∧ yX5_cost.cls ≠ "java/lang/invoke/MethodHandle" ∧ yX5_cost.cls ≠ "java/lang/invoke/VarHandle" ∧ (parseMethodDescriptor yX5_cost.desc).map (fun d => d.parameters.length) = some 3 := by decide +kernel
set_option maxRecDepth 100000 in
def wC_often  (M : zM) (Q : Int → zM → Prop) : Prop := wC_Meeting_look  M (fun M1 => wC_Meeting_howOften  M1 (fun z3 => Q z3 M1))
set_option maxHeartbeats 4000000 in
set_option maxRecDepth 100000 in
theorem cC_often (l : Launch) (D : va_G) (dA : Nat → ClassId) (b : Nat) (M : zM)   (Q : Int → zM → Prop) (h : wC_often  M Q) : Met l yX11_often (.code yX11_often cX11_often 1 (some .long) :: zt) (z_rm 6) (va_Pc [.ref (b + 0)] (wPre D dA vwCl (z_tys dA) wC nC b M)) (va_Ql (wQl Q) (zB D dA vwCl wC nC b) (zA nC b)) 0 0 (zA nC b) := by
  unfold wC_often at h
  refine Met.ofW (cc := cX11_often) (maxL := 1) (ret := (some .long)) (by decide) rfl ?_
  intro p e s m args below meth c s₁ B hml hv
  obtain ⟨hargs, hS, hK⟩ := hv
  have hx := B.exec
  have hb := B.bytes
  have hr := B.returns
  have hts := atoms_spec (ws := .code yX11_often cX11_often 1 (some .long) :: zt) B.pre
  have hown : s.vm.findClass RX11 = some m.cls := findClass_of_methodNamed B.named
  have hlocks := B.notSynchronized
  have hS0 : va_S (zA nC b) s.heap s.heap [] := va_S.rf
  have hl := lv_entry ([.ref (b + 0)]) (n := 1) (Nat.le_of_ble_eq_true rfl)
  have hent : entryFrame m args 1 = F0 m 0 ((lg_sl ([.ref (b + 0)]) ++ List.replicate (1 - (lg_sl ([.ref (b + 0)])).length) Slot.unset).toArray) [] := by rw [hargs]; exact lg_entry_eq m ([.ref (b + 0)]) 1
  rw [hent]
  generalize (lg_sl ([.ref (b + 0)]) ++ List.replicate (1 - (lg_sl ([.ref (b + 0)])).length) Slot.unset).toArray = ls at hl ⊢
  have hl : lv_has ls 1 [(0, .ref (b + 0))] := hl
  refine lv_aload_n hx hb dX11_often_0 rfl (lv_at hl 0 rfl) ?_
  refine w_getr (j2 := 57) hx hb hts (z_memU u11) hown hK.1 hS f11_3 (by decide) (zkd_of (rfl : zcd wC 0 = 0) rfl) (zrf_of (rfl : zcd wC 0 = 0) rfl) (Or.inl (hts _ (z_mem k245))) dX11_often_1 ?_
  refine lv_aload_n hx hb dX11_often_4 rfl (lv_at hl 0 rfl) ?_
  refine w_getr (j2 := 32) hx hb hts (z_memU u11) hown hK.1 hS f11_2 (by decide) (zkd_of (rfl : zcd wC 0 = 0) rfl) (zrf_of (rfl : zcd wC 0 = 0) rfl) (Or.inl (hts _ (z_mem k244))) dX11_often_5 ?_
  refine w_callv (va_runV (As := [.ref (b + 32)]) (rest := []) ⟨hx, hb, hml, hown, hts⟩ (cC_Meeting_look l D dA b M  _ h) (cwV 1 hts (z_gV k511 k512 k513 k7 k514) rfl rfl rfl dm_X1_look ⟨Nat.le_of_ble_eq_true rfl, Nat.le_of_ble_eq_true rfl⟩) ⟨wPre_blind, (w_recv hS hK.1 (by decide) (zkd_of (rfl : zcd wC 57 = 16) rfl) (by decide) (rfl : vwCl[1]? = some (RX1, TX1, 4))), w_pre hS hK⟩ rfl rfl hl.1 rfl (lv_room (Nat.le_of_ble_eq_true rfl)) dX11_often_8 ⟨Nat.le_refl _, Nat.le_refl _⟩) hS0 (fun M1 H locs h hS hS0 => ?_)
  refine lv_aload_n hx hb dX11_often_11 rfl (lv_at hl 0 rfl) ?_
  refine w_getr (j2 := 57) hx hb hts (z_memU u11) hown hK.1 hS f11_3 (by decide) (zkd_of (rfl : zcd wC 0 = 0) rfl) (zrf_of (rfl : zcd wC 0 = 0) rfl) (Or.inl (hts _ (z_mem k245))) dX11_often_12 ?_
  refine w_calll (va_runV (As := []) (rest := []) ⟨hx, hb, hml, hown, hts⟩ (cC_Meeting_howOften l D dA b M1  _ h) (cwV 0 hts (z_gV k595 k572 k573 k7 k574) rfl rfl rfl dm_X1_howOften ⟨Nat.le_of_ble_eq_true rfl, Nat.le_of_ble_eq_true rfl⟩) ⟨wPre_blind, (w_recv hS hK.1 (by decide) (zkd_of (rfl : zcd wC 57 = 16) rfl) (by decide) (rfl : vwCl[1]? = some (RX1, TX1, 4))), w_pre hS hK⟩ rfl rfl hl.1 rfl (lv_room (Nat.le_of_ble_eq_true rfl)) dX11_often_15 ⟨Nat.le_refl _, Nat.le_refl _⟩) hS0 (fun z3 M2 H locs r4 h hS hS0 => ?_)
  obtain ⟨e5, h⟩ := h
  rw [e5] at hS
  exact w_lret hx hb hr hlocks hS hS0 (sL_of r4) h dX11_often_18

set_option maxRecDepth 100000 in
def wC_isSound (a0 : Int) (M : zM) (Q : Int → Prop) : Prop := wC_within a0 1 9 M (fun z2 => Q z2)
set_option maxHeartbeats 4000000 in
set_option maxRecDepth 100000 in
theorem cC_isSound (l : Launch) (D : va_G) (dA : Nat → ClassId) (b : Nat) (M : zM) (a0 : Int)  (Q : Int → Prop) (h : wC_isSound a0 M Q) : Met l yX11_isSound (.code yX11_isSound cX11_isSound 1 (some .boolean) :: zt) (z_rm 1) (va_Pc [.int (iI a0)] (wPre D dA vwCl (z_tys dA) wC nC b M)) (va_Qi (wQz (fun z9 u9 => u9 = M ∧ Q z9)) (zB D dA vwCl wC nC b) (zA nC b)) 0 0 (zA nC b) := by
  unfold wC_isSound at h
  refine Met.ofW (cc := cX11_isSound) (maxL := 1) (ret := (some .boolean)) (by decide) rfl ?_
  intro p e s m args below meth c s₁ B hml hv
  obtain ⟨hargs, hS, hK⟩ := hv
  have hx := B.exec
  have hb := B.bytes
  have hr := B.returns
  have hts := atoms_spec (ws := .code yX11_isSound cX11_isSound 1 (some .boolean) :: zt) B.pre
  have hown : s.vm.findClass RX11 = some m.cls := findClass_of_methodNamed B.named
  have hlocks := B.notSynchronized
  have hS0 : va_S (zA nC b) s.heap s.heap [] := va_S.rf
  have hl := lv_entry ([.int (iI a0)]) (n := 1) (Nat.le_of_ble_eq_true rfl)
  have hent : entryFrame m args 1 = F0 m 0 ((lg_sl ([.int (iI a0)]) ++ List.replicate (1 - (lg_sl ([.int (iI a0)])).length) Slot.unset).toArray) [] := by rw [hargs]; exact lg_entry_eq m ([.int (iI a0)]) 1
  rw [hent]
  generalize (lg_sl ([.int (iI a0)]) ++ List.replicate (1 - (lg_sl ([.int (iI a0)])).length) Slot.unset).toArray = ls at hl ⊢
  have hl : lv_has ls 1 [(0, .int (iI a0))] := hl
  refine lv_iload_n hx hb dX11_isSound_0 rfl (lv_at hl 0 rfl) ?_
  refine z_iconst hx hb dX11_isSound_1 ?_
  refine z_bipush hx hb (by decide) dX11_isSound_2 ?_
  refine w_callz (va_runS (As := [.int (iI a0), .int (iI 1), .int (iI 9)]) (rest := []) ⟨hx, hb, hml, hown, hts⟩ (cC_within l D dA b M a0 1 9 _ h) (va_cwS 3 hts (z_gS k382 k383 k1 k384) rfl rfl rfl dm_X11_within.2 ⟨Nat.le_of_ble_eq_true rfl, Nat.le_of_ble_eq_true rfl⟩) ⟨wPre_blind, w_pre hS hK⟩ rfl rfl hl.1 rfl (lv_room (Nat.le_of_ble_eq_true rfl)) dX11_isSound_4 ⟨Nat.le_refl _, Nat.le_refl _⟩) hS0 (fun z2 M1 H locs r3 h hS hS0 => ?_)
  obtain ⟨e4, h⟩ := h
  rw [e4] at hS
  exact w_zret hx hb hr hlocks hS hS0 (sI_01 r3) r3 ⟨rfl, h⟩ dX11_isSound_7

set_option maxRecDepth 100000 in
def wC_Planner_add (a0 : Int) (a1 : Int) (M : zM) (Q : Int → zM → Prop) : Prop := ((sI (M 60 2)) < 6 → ((0 ≤ (sI (M 60 2)) ∧ (sI (M 60 2)) < 6) ∧ (∀ M3 : zM, M3 = zup M 61 (sI (M 60 2)).toNat a0 → ((0 ≤ (sI (M3 60 2)) ∧ (sI (M3 60 2)) < 6) ∧ (∀ M6 : zM, M6 = zup M3 62 (sI (M3 60 2)).toNat a1 → (∀ M8 : zM, M8 = zup M6 60 2 ((M6 60 2) + 1) → Q (sI (M8 60 2)) M8)))))) ∧ (6 ≤ (sI (M 60 2)) → Q (-1) M)
set_option maxHeartbeats 4000000 in
set_option maxRecDepth 100000 in
theorem cC_Planner_add (l : Launch) (D : va_G) (dA : Nat → ClassId) (b : Nat) (M : zM) (a0 : Int) (a1 : Int)  (Q : Int → zM → Prop) (h : wC_Planner_add a0 a1 M Q) : Met l yX5_add (.code yX5_add cX5_add 3 (some .int) :: zt) (z_rm 0) (va_Pc [.ref (b + 60), .int (iI a0), .int (iI a1)] (wPre D dA vwCl (z_tys dA) wC nC b M)) (va_Qi (wQi Q) (zB D dA vwCl wC nC b) (zA nC b)) 0 0 (zA nC b) := by
  unfold wC_Planner_add at h
  refine Met.ofW (cc := cX5_add) (maxL := 3) (ret := (some .int)) (by decide) rfl ?_
  intro p e s m args below meth c s₁ B hml hv
  obtain ⟨hargs, hS, hK⟩ := hv
  have hx := B.exec
  have hb := B.bytes
  have hr := B.returns
  have hts := atoms_spec (ws := .code yX5_add cX5_add 3 (some .int) :: zt) B.pre
  have hown : s.vm.findClass RX5 = some m.cls := findClass_of_methodNamed B.named
  have hlocks := B.notSynchronized
  have hS0 : va_S (zA nC b) s.heap s.heap [] := va_S.rf
  have hl := lv_entry ([.ref (b + 60), .int (iI a0), .int (iI a1)]) (n := 3) (Nat.le_of_ble_eq_true rfl)
  have hent : entryFrame m args 3 = F0 m 0 ((lg_sl ([.ref (b + 60), .int (iI a0), .int (iI a1)]) ++ List.replicate (3 - (lg_sl ([.ref (b + 60), .int (iI a0), .int (iI a1)])).length) Slot.unset).toArray) [] := by rw [hargs]; exact lg_entry_eq m ([.ref (b + 60), .int (iI a0), .int (iI a1)]) 3
  rw [hent]
  generalize (lg_sl ([.ref (b + 60), .int (iI a0), .int (iI a1)]) ++ List.replicate (3 - (lg_sl ([.ref (b + 60), .int (iI a0), .int (iI a1)])).length) Slot.unset).toArray = ls at hl ⊢
  have hl : lv_has ls 3 [(0, .ref (b + 60)), (1, .int (iI a0)), (2, .int (iI a1))] := hl
  refine lv_aload_n hx hb dX5_add_0 rfl (lv_at hl 0 rfl) ?_
  refine w_geti hx hb hts (z_memU u5) hown hK.1 hS f5_2 (by decide) (zkd_of (rfl : zcd wC 60 = 19) rfl) (Or.inl (hts _ (z_mem k145))) dX5_add_1 ?_
  refine z_bipush hx hb (by decide) dX5_add_4 ?_
  refine w_icmp_lt (tgt := 11) hx hb rfl (sI_of (by decide)) dX5_add_6 (by decide) (fun c1 => ?_) (fun c1 => ?_)
  · skip
    have h := h.1 c1
    refine lv_aload_n hx hb dX5_add_11 rfl (lv_at hl 0 rfl) ?_
    refine w_getr (j2 := 61) hx hb hts (z_memU u5) hown hK.1 hS f5_0 (by decide) (zkd_of (rfl : zcd wC 60 = 19) rfl) (zrf_of (rfl : zcd wC 60 = 19) rfl) (Or.inl (hts _ (z_mem k143))) dX5_add_12 ?_
    refine lv_aload_n hx hb dX5_add_15 rfl (lv_at hl 0 rfl) ?_
    refine w_geti hx hb hts (z_memU u5) hown hK.1 hS f5_2 (by decide) (zkd_of (rfl : zcd wC 60 = 19) rfl) (Or.inl (hts _ (z_mem k145))) dX5_add_16 ?_
    refine lv_iload_n hx hb dX5_add_19 rfl (lv_at hl 1 rfl) ?_
    obtain ⟨o2, h⟩ := h
    refine w_iast (z := a0) (n := 6) (i := (sI (M 60 2))) hx hb hK.1 (t0 := 0) rfl hS hS0 (by decide) (zkd_of (rfl : zcd wC 61 = 20) rfl) (zln_of (rfl : zcd wC 61 = 20) rfl) rfl o2.1 o2.2 (by decide) dX5_add_20 (fun H locs hS hS0 => ?_)
    obtain ⟨M3, e4⟩ : ∃ M3 : zM, M3 = zup M 61 (sI (M 60 2)).toNat a0 := ⟨_, rfl⟩
    rw [← e4] at hS
    have h := h M3 e4
    refine lv_aload_n hx hb dX5_add_21 rfl (lv_at hl 0 rfl) ?_
    refine w_getr (j2 := 62) hx hb hts (z_memU u5) hown hK.1 hS f5_1 (by decide) (zkd_of (rfl : zcd wC 60 = 19) rfl) (zrf_of (rfl : zcd wC 60 = 19) rfl) (Or.inl (hts _ (z_mem k144))) dX5_add_22 ?_
    refine lv_aload_n hx hb dX5_add_25 rfl (lv_at hl 0 rfl) ?_
    refine w_geti hx hb hts (z_memU u5) hown hK.1 hS f5_2 (by decide) (zkd_of (rfl : zcd wC 60 = 19) rfl) (Or.inl (hts _ (z_mem k145))) dX5_add_26 ?_
    refine lv_iload_n hx hb dX5_add_29 rfl (lv_at hl 2 rfl) ?_
    obtain ⟨o5, h⟩ := h
    refine w_iast (z := a1) (n := 6) (i := (sI (M3 60 2))) hx hb hK.1 (t0 := 0) rfl hS hS0 (by decide) (zkd_of (rfl : zcd wC 62 = 21) rfl) (zln_of (rfl : zcd wC 62 = 21) rfl) rfl o5.1 o5.2 (by decide) dX5_add_30 (fun H locs hS hS0 => ?_)
    obtain ⟨M6, e7⟩ : ∃ M6 : zM, M6 = zup M3 62 (sI (M3 60 2)).toNat a1 := ⟨_, rfl⟩
    rw [← e7] at hS
    have h := h M6 e7
    refine lv_aload_n hx hb dX5_add_31 rfl (lv_at hl 0 rfl) ?_
    refine lv_dup hx hb dX5_add_32 rfl ?_
    refine w_geti hx hb hts (z_memU u5) hown hK.1 hS f5_2 (by decide) (zkd_of (rfl : zcd wC 60 = 19) rfl) (Or.inl (hts _ (z_mem k145))) dX5_add_33 ?_
    refine z_iconst hx hb dX5_add_36 ?_
    refine z_iadd hx hb dX5_add_37 ?_
    refine w_puti hx hb hts (z_memU u5) tyX5 tyX5_ok nmX5 hown hK.1 hS hS0 f5_2 (by decide) (zkd_of (rfl : zcd wC 60 = 19) rfl) (Or.inl (hts _ (z_mem k145))) rfl (z := ((M6 60 2) + 1)) (by decide +kernel) dX5_add_38 (fun H locs hS hS0 => ?_)
    obtain ⟨M8, e9⟩ : ∃ M8 : zM, M8 = zup M6 60 2 ((M6 60 2) + 1) := ⟨_, rfl⟩
    rw [← e9] at hS
    have h := h M8 e9
    refine lv_aload_n hx hb dX5_add_41 rfl (lv_at hl 0 rfl) ?_
    refine w_geti hx hb hts (z_memU u5) hown hK.1 hS f5_2 (by decide) (zkd_of (rfl : zcd wC 60 = 19) rfl) (Or.inl (hts _ (z_mem k145))) dX5_add_42 ?_
    exact w_iret hx hb hr hlocks hS hS0 rfl h dX5_add_45
  · skip
    have h := h.2 c1
    refine z_iconst hx hb dX5_add_9 ?_
    exact w_iret hx hb hr hlocks hS hS0 (sI_of (by decide)) h dX5_add_10

set_option maxRecDepth 100000 in
def wC_mark (a0 : Int) (a1 : Int) (M : zM) (Q : Int → zM → Prop) : Prop := wC_within a0 0 100000 M (fun z2 => (z2 = 0 → Q (-1) M) ∧ (z2 ≠ 0 → wC_isSound a1 M (fun z7 => (z7 ≠ 0 → wC_Planner_add a0 a1 M (fun z12 M11 => Q z12 M11)) ∧ (z7 = 0 → Q (-1) M))))
set_option maxHeartbeats 4000000 in
set_option maxRecDepth 100000 in
theorem cC_mark (l : Launch) (D : va_G) (dA : Nat → ClassId) (b : Nat) (M : zM) (a0 : Int) (a1 : Int)  (Q : Int → zM → Prop) (h : wC_mark a0 a1 M Q) : Met l yX11_mark (.code yX11_mark cX11_mark 3 (some .int) :: zt) (z_rm 2) (va_Pc [.ref (b + 0), .int (iI a0), .int (iI a1)] (wPre D dA vwCl (z_tys dA) wC nC b M)) (va_Qi (wQi Q) (zB D dA vwCl wC nC b) (zA nC b)) 0 0 (zA nC b) := by
  unfold wC_mark at h
  refine Met.ofW (cc := cX11_mark) (maxL := 3) (ret := (some .int)) (by decide) rfl ?_
  intro p e s m args below meth c s₁ B hml hv
  obtain ⟨hargs, hS, hK⟩ := hv
  have hx := B.exec
  have hb := B.bytes
  have hr := B.returns
  have hts := atoms_spec (ws := .code yX11_mark cX11_mark 3 (some .int) :: zt) B.pre
  have hown : s.vm.findClass RX11 = some m.cls := findClass_of_methodNamed B.named
  have hlocks := B.notSynchronized
  have hS0 : va_S (zA nC b) s.heap s.heap [] := va_S.rf
  have hl := lv_entry ([.ref (b + 0), .int (iI a0), .int (iI a1)]) (n := 3) (Nat.le_of_ble_eq_true rfl)
  have hent : entryFrame m args 3 = F0 m 0 ((lg_sl ([.ref (b + 0), .int (iI a0), .int (iI a1)]) ++ List.replicate (3 - (lg_sl ([.ref (b + 0), .int (iI a0), .int (iI a1)])).length) Slot.unset).toArray) [] := by rw [hargs]; exact lg_entry_eq m ([.ref (b + 0), .int (iI a0), .int (iI a1)]) 3
  rw [hent]
  generalize (lg_sl ([.ref (b + 0), .int (iI a0), .int (iI a1)]) ++ List.replicate (3 - (lg_sl ([.ref (b + 0), .int (iI a0), .int (iI a1)])).length) Slot.unset).toArray = ls at hl ⊢
  have hl : lv_has ls 3 [(0, .ref (b + 0)), (1, .int (iI a0)), (2, .int (iI a1))] := hl
  refine lv_iload_n hx hb dX11_mark_0 rfl (lv_at hl 1 rfl) ?_
  refine z_iconst hx hb dX11_mark_1 ?_
  refine z_ldc (n := 100000) hx hb hown (hts _ (z_mem k600)) (by decide) dX11_mark_2 ?_
  refine w_callz (va_runS (As := [.int (iI a0), .int (iI 0), .int (iI 100000)]) (rest := []) ⟨hx, hb, hml, hown, hts⟩ (cC_within l D dA b M a0 0 100000 _ h) (va_cwS 3 hts (z_gS k382 k383 k1 k384) rfl rfl rfl dm_X11_within.2 ⟨Nat.le_of_ble_eq_true rfl, Nat.le_of_ble_eq_true rfl⟩) ⟨wPre_blind, w_pre hS hK⟩ rfl rfl hl.1 rfl (lv_room (Nat.le_of_ble_eq_true rfl)) dX11_mark_4 ⟨Nat.le_refl _, Nat.le_refl _⟩) hS0 (fun z2 M1 H locs r3 h hS hS0 => ?_)
  obtain ⟨e4, h⟩ := h
  rw [e4] at hS
  refine w_if_eq (tgt := 17) hx hb (sI_01 r3) dX11_mark_7 (by decide) (fun c5 => ?_) (fun c5 => ?_)
  · skip
    have h := h.1 c5
    refine z_iconst hx hb dX11_mark_17 ?_
    exact w_iret hx hb hr hlocks hS hS0 (sI_of (by decide)) h dX11_mark_18
  · skip
    have h := h.2 c5
    refine lv_iload_n hx hb dX11_mark_10 rfl (lv_at hl 2 rfl) ?_
    refine w_callz (va_runS (As := [.int (iI a1)]) (rest := []) ⟨hx, hb, hml, hown, hts⟩ (cC_isSound l D dA b M a1 _ h) (va_cwS 1 hts (z_gS k601 k602 k1 k603) rfl rfl rfl dm_X11_isSound.2 ⟨Nat.le_of_ble_eq_true rfl, Nat.le_of_ble_eq_true rfl⟩) ⟨wPre_blind, w_pre hS hK⟩ rfl rfl hl.1 rfl (lv_room (Nat.le_of_ble_eq_true rfl)) dX11_mark_11 ⟨Nat.le_refl _, Nat.le_refl _⟩) hS0 (fun z7 M6 H locs r8 h hS hS0 => ?_)
    obtain ⟨e9, h⟩ := h
    rw [e9] at hS
    refine w_if_ne (tgt := 19) hx hb (sI_01 r8) dX11_mark_14 (by decide) (fun c10 => ?_) (fun c10 => ?_)
    · skip
      have h := h.1 c10
      refine lv_aload_n hx hb dX11_mark_19 rfl (lv_at hl 0 rfl) ?_
      refine w_getr (j2 := 60) hx hb hts (z_memU u11) hown hK.1 hS f11_4 (by decide) (zkd_of (rfl : zcd wC 0 = 0) rfl) (zrf_of (rfl : zcd wC 0 = 0) rfl) (Or.inl (hts _ (z_mem k246))) dX11_mark_20 ?_
      refine lv_iload_n hx hb dX11_mark_23 rfl (lv_at hl 1 rfl) ?_
      refine lv_iload_n hx hb dX11_mark_24 rfl (lv_at hl 2 rfl) ?_
      refine w_calli (va_runV (As := [.int (iI a0), .int (iI a1)]) (rest := []) ⟨hx, hb, hml, hown, hts⟩ (cC_Planner_add l D dA b M a0 a1 _ h) (cwV 2 hts (z_gV k604 k605 k606 k8 k607) rfl rfl rfl dm_X5_add ⟨Nat.le_of_ble_eq_true rfl, Nat.le_of_ble_eq_true rfl⟩) ⟨wPre_blind, (w_recv hS hK.1 (by decide) (zkd_of (rfl : zcd wC 60 = 19) rfl) (by decide) (rfl : vwCl[5]? = some (RX5, TX5, 9))), w_pre hS hK⟩ rfl rfl hl.1 rfl (lv_room (Nat.le_of_ble_eq_true rfl)) dX11_mark_25 ⟨Nat.le_refl _, Nat.le_refl _⟩) hS0 (fun z12 M11 H locs r13 h hS hS0 => ?_)
      exact w_iret hx hb hr hlocks hS hS0 (sI_of r13) h dX11_mark_28
    · skip
      have h := h.2 c10
      refine z_iconst hx hb dX11_mark_17 ?_
      exact w_iret hx hb hr hlocks hS hS0 (sI_of (by decide)) h dX11_mark_18

set_option maxRecDepth 100000 in
def wC_Planner_marksTrue  (M : zM) (Q : Int → Prop) : Prop := pL2 (fun K4 x1 x2 => ((sI (M 60 2)) ≤ (sI x2) → Q (sI x1)) ∧ ((sI x2) < (sI (M 60 2)) → ((0 ≤ (sI x2) ∧ (sI x2) < 6) ∧ wC_Studio_heardInAll (sI (M 61 (sI x2).toNat)) M (fun z13 => ((0 ≤ (sI x2) ∧ (sI x2) < 6) ∧ (∀ t17 : Int, t17 = (orI x1 (shlI (andI (shrI z13 (M 62 (sI x2).toNat)) 1) x2)) → K4 t17 (x2 + 1))))))) 0 0
set_option maxHeartbeats 4000000 in
set_option maxRecDepth 100000 in
theorem cC_Planner_marksTrue (l : Launch) (D : va_G) (dA : Nat → ClassId) (b : Nat) (M : zM)   (Q : Int → Prop) (h : wC_Planner_marksTrue  M Q) : Met l yX5_marksTrue (.code yX5_marksTrue cX5_marksTrue 4 (some .int) :: zt) (z_rm 4) (va_Pc [.ref (b + 60), .ref (b + 32)] (wPre D dA vwCl (z_tys dA) wC nC b M)) (va_Qi (wQi (fun z9 u9 => u9 = M ∧ Q z9)) (zB D dA vwCl wC nC b) (zA nC b)) 0 0 (zA nC b) := by
  unfold wC_Planner_marksTrue at h
  refine Met.ofW (cc := cX5_marksTrue) (maxL := 4) (ret := (some .int)) (by decide) rfl ?_
  intro p e s m args below meth c s₁ B hml hv
  obtain ⟨hargs, hS, hK⟩ := hv
  have hx := B.exec
  have hb := B.bytes
  have hr := B.returns
  have hts := atoms_spec (ws := .code yX5_marksTrue cX5_marksTrue 4 (some .int) :: zt) B.pre
  have hown : s.vm.findClass RX5 = some m.cls := findClass_of_methodNamed B.named
  have hlocks := B.notSynchronized
  have hS0 : va_S (zA nC b) s.heap s.heap [] := va_S.rf
  have hl := lv_entry ([.ref (b + 60), .ref (b + 32)]) (n := 4) (Nat.le_of_ble_eq_true rfl)
  have hent : entryFrame m args 4 = F0 m 0 ((lg_sl ([.ref (b + 60), .ref (b + 32)]) ++ List.replicate (4 - (lg_sl ([.ref (b + 60), .ref (b + 32)])).length) Slot.unset).toArray) [] := by rw [hargs]; exact lg_entry_eq m ([.ref (b + 60), .ref (b + 32)]) 4
  rw [hent]
  generalize (lg_sl ([.ref (b + 60), .ref (b + 32)]) ++ List.replicate (4 - (lg_sl ([.ref (b + 60), .ref (b + 32)])).length) Slot.unset).toArray = ls at hl ⊢
  have hl : lv_has ls 4 [(0, .ref (b + 60)), (1, .ref (b + 32))] := hl
  refine z_iconst hx hb dX5_marksTrue_0 ?_
  refine lv_istore_n (lv' := [(2, .int (iI 0)), (0, .ref (b + 60)), (1, .ref (b + 32))]) hx hb dX5_marksTrue_1 rfl hl (by decide) rfl (fun ls hl => ?_)
  refine z_iconst hx hb dX5_marksTrue_2 ?_
  refine lv_istore_n (lv' := [(3, .int (iI 0)), (2, .int (iI 0)), (0, .ref (b + 60)), (1, .ref (b + 32))]) hx hb dX5_marksTrue_3 rfl hl (by decide) rfl (fun ls hl => ?_)
  obtain ⟨I3, ⟨n4, h5⟩, h6⟩ := h
  have L7 : ∀ (n8 : Nat) (x1 x2 : Int) (H : Heap) (locs : List Loc) (ls : Array Slot), I3 n8 x1 x2 → zR D dA vwCl wC nC b M H → va_S (zA nC b) s.heap H locs → lv_has ls 4 [(0, .ref (b + 60)), (1, .ref (b + 32)), (2, .int (iI x1)), (3, .int (iI x2))] → W p l e (headSpec (.code yX5_marksTrue cX5_marksTrue 4 (some .int) :: zt) (z_rm 4)).room s m args below meth c H locs 0 0 (MQ below (va_Qi (wQi (fun z9 u9 => u9 = M ∧ Q z9)) (zB D dA vwCl wC nC b) (zA nC b)) args s 0 0 (zA nC b)) (F0 m 4 ls []) := by
    intro n8
    induction n8 using Nat.strongRecOn with
    | ind n8 i9 =>
      intro x1 x2 H locs ls h hS hS0 hl
      have h := h6 n8 x1 x2 h
      refine lv_iload_n hx hb dX5_marksTrue_4 rfl (lv_at hl 3 rfl) ?_
      refine lv_aload_n hx hb dX5_marksTrue_5 rfl (lv_at hl 0 rfl) ?_
      refine w_geti hx hb hts (z_memU u5) hown hK.1 hS f5_2 (by decide) (zkd_of (rfl : zcd wC 60 = 19) rfl) (Or.inl (hts _ (z_mem k145))) dX5_marksTrue_6 ?_
      refine w_icmp_ge (tgt := 43) hx hb rfl rfl dX5_marksTrue_9 (by decide) (fun c10 => ?_) (fun c10 => ?_)
      · skip
        have h := h.1 c10
        refine lv_iload_n hx hb dX5_marksTrue_43 rfl (lv_at hl 2 rfl) ?_
        exact w_iret hx hb hr hlocks hS hS0 rfl ⟨rfl, h⟩ dX5_marksTrue_44
      · skip
        have h := h.2 c10
        refine lv_iload_n hx hb dX5_marksTrue_12 rfl (lv_at hl 2 rfl) ?_
        refine lv_aload_n hx hb dX5_marksTrue_13 rfl (lv_at hl 1 rfl) ?_
        refine lv_aload_n hx hb dX5_marksTrue_14 rfl (lv_at hl 0 rfl) ?_
        refine w_getr (j2 := 61) hx hb hts (z_memU u5) hown hK.1 hS f5_0 (by decide) (zkd_of (rfl : zcd wC 60 = 19) rfl) (zrf_of (rfl : zcd wC 60 = 19) rfl) (Or.inl (hts _ (z_mem k143))) dX5_marksTrue_15 ?_
        refine lv_iload_n hx hb dX5_marksTrue_18 rfl (lv_at hl 3 rfl) ?_
        obtain ⟨o11, h⟩ := h
        refine w_iald (n := 6) (i := (sI x2)) hx hb hK.1 (t0 := 0) rfl hS (by decide) (zkd_of (rfl : zcd wC 61 = 20) rfl) (zln_of (rfl : zcd wC 61 = 20) rfl) rfl o11.1 o11.2 (by decide) dX5_marksTrue_19 ?_
        refine w_i2l hx hb rfl dX5_marksTrue_20 ?_
        refine w_calli (va_runV (As := [.long (iL (sI (M 61 (sI x2).toNat)))]) (rest := [.int (iI x1)]) ⟨hx, hb, hml, hown, hts⟩ (cC_Studio_heardInAll l D dA b M (sI (M 61 (sI x2).toNat)) _ h) (cwV 1 hts (z_gV k616 k475 k476 k4 k477) rfl rfl rfl dm_X9_heardInAll ⟨Nat.le_of_ble_eq_true rfl, Nat.le_of_ble_eq_true rfl⟩) ⟨wPre_blind, (w_recv hS hK.1 (by decide) (zkd_of (rfl : zcd wC 32 = 8) rfl) (by decide) (rfl : vwCl[9]? = some (RX9, TX9, 3))), w_pre hS hK⟩ rfl rfl hl.1 rfl (lv_room (Nat.le_of_ble_eq_true rfl)) dX5_marksTrue_21 ⟨Nat.le_refl _, Nat.le_refl _⟩) hS0 (fun z13 M12 H locs r14 h hS hS0 => ?_)
        obtain ⟨e15, h⟩ := h
        rw [e15] at hS
        refine lv_aload_n hx hb dX5_marksTrue_24 rfl (lv_at hl 0 rfl) ?_
        refine w_getr (j2 := 62) hx hb hts (z_memU u5) hown hK.1 hS f5_1 (by decide) (zkd_of (rfl : zcd wC 60 = 19) rfl) (zrf_of (rfl : zcd wC 60 = 19) rfl) (Or.inl (hts _ (z_mem k144))) dX5_marksTrue_25 ?_
        refine lv_iload_n hx hb dX5_marksTrue_28 rfl (lv_at hl 3 rfl) ?_
        obtain ⟨o16, h⟩ := h
        refine w_iald (n := 6) (i := (sI x2)) hx hb hK.1 (t0 := 0) rfl hS (by decide) (zkd_of (rfl : zcd wC 62 = 21) rfl) (zln_of (rfl : zcd wC 62 = 21) rfl) rfl o16.1 o16.2 (by decide) dX5_marksTrue_29 ?_
        refine w_ishr hx hb dX5_marksTrue_30 ?_
        refine z_iconst hx hb dX5_marksTrue_31 ?_
        refine w_iand hx hb dX5_marksTrue_32 ?_
        refine lv_iload_n hx hb dX5_marksTrue_33 rfl (lv_at hl 3 rfl) ?_
        refine w_ishl hx hb dX5_marksTrue_34 ?_
        refine w_ior hx hb dX5_marksTrue_35 ?_
        obtain ⟨t17, e18⟩ : ∃ t17 : Int, t17 = (orI x1 (shlI (andI (shrI z13 (M 62 (sI x2).toNat)) 1) x2)) := ⟨_, rfl⟩
        refine z_top (y := t17) e18.symm ?_
        have h := h t17 e18
        refine lv_istore_n (lv' := [(2, .int (iI t17)), (0, .ref (b + 60)), (1, .ref (b + 32)), (3, .int (iI x2))]) hx hb dX5_marksTrue_36 rfl hl (by decide) rfl (fun ls hl => ?_)
        refine z_iinc (lv' := [(3, .int (iI (x2 + 1))), (2, .int (iI t17)), (0, .ref (b + 60)), (1, .ref (b + 32))]) hx hb dX5_marksTrue_37 hl (k := 3) rfl (by decide) rfl (fun ls hl => ?_)
        refine lv_goto (tgt := 4) hx hb dX5_marksTrue_40 (by decide) ?_
        obtain ⟨n19, h20, h⟩ := h
        exact i9 n19 h20 t17 (x2 + 1) _ _ _ h hS hS0 (lv_sub hl [2, 3, 1, 0] rfl)
  exact L7 n4 0 0 _ _ _ h5 hS hS0 (lv_sub hl [2, 3, 1, 0] rfl)

set_option maxRecDepth 100000 in
def wC_kept  (M : zM) (Q : Int → Prop) : Prop := wC_Planner_marksTrue  M (fun z2 => Q z2)
set_option maxHeartbeats 4000000 in
set_option maxRecDepth 100000 in
theorem cC_kept (l : Launch) (D : va_G) (dA : Nat → ClassId) (b : Nat) (M : zM)   (Q : Int → Prop) (h : wC_kept  M Q) : Met l yX11_kept (.code yX11_kept cX11_kept 1 (some .int) :: zt) (z_rm 5) (va_Pc [.ref (b + 0)] (wPre D dA vwCl (z_tys dA) wC nC b M)) (va_Qi (wQi (fun z9 u9 => u9 = M ∧ Q z9)) (zB D dA vwCl wC nC b) (zA nC b)) 0 0 (zA nC b) := by
  unfold wC_kept at h
  refine Met.ofW (cc := cX11_kept) (maxL := 1) (ret := (some .int)) (by decide) rfl ?_
  intro p e s m args below meth c s₁ B hml hv
  obtain ⟨hargs, hS, hK⟩ := hv
  have hx := B.exec
  have hb := B.bytes
  have hr := B.returns
  have hts := atoms_spec (ws := .code yX11_kept cX11_kept 1 (some .int) :: zt) B.pre
  have hown : s.vm.findClass RX11 = some m.cls := findClass_of_methodNamed B.named
  have hlocks := B.notSynchronized
  have hS0 : va_S (zA nC b) s.heap s.heap [] := va_S.rf
  have hl := lv_entry ([.ref (b + 0)]) (n := 1) (Nat.le_of_ble_eq_true rfl)
  have hent : entryFrame m args 1 = F0 m 0 ((lg_sl ([.ref (b + 0)]) ++ List.replicate (1 - (lg_sl ([.ref (b + 0)])).length) Slot.unset).toArray) [] := by rw [hargs]; exact lg_entry_eq m ([.ref (b + 0)]) 1
  rw [hent]
  generalize (lg_sl ([.ref (b + 0)]) ++ List.replicate (1 - (lg_sl ([.ref (b + 0)])).length) Slot.unset).toArray = ls at hl ⊢
  have hl : lv_has ls 1 [(0, .ref (b + 0))] := hl
  refine lv_aload_n hx hb dX11_kept_0 rfl (lv_at hl 0 rfl) ?_
  refine w_getr (j2 := 60) hx hb hts (z_memU u11) hown hK.1 hS f11_4 (by decide) (zkd_of (rfl : zcd wC 0 = 0) rfl) (zrf_of (rfl : zcd wC 0 = 0) rfl) (Or.inl (hts _ (z_mem k246))) dX11_kept_1 ?_
  refine lv_aload_n hx hb dX11_kept_4 rfl (lv_at hl 0 rfl) ?_
  refine w_getr (j2 := 32) hx hb hts (z_memU u11) hown hK.1 hS f11_2 (by decide) (zkd_of (rfl : zcd wC 0 = 0) rfl) (zrf_of (rfl : zcd wC 0 = 0) rfl) (Or.inl (hts _ (z_mem k244))) dX11_kept_5 ?_
  refine w_calli (va_runV (As := [.ref (b + 32)]) (rest := []) ⟨hx, hb, hml, hown, hts⟩ (cC_Planner_marksTrue l D dA b M  _ h) (cwV 1 hts (z_gV k612 k613 k614 k8 k615) rfl rfl rfl dm_X5_marksTrue ⟨Nat.le_of_ble_eq_true rfl, Nat.le_of_ble_eq_true rfl⟩) ⟨wPre_blind, (w_recv hS hK.1 (by decide) (zkd_of (rfl : zcd wC 60 = 19) rfl) (by decide) (rfl : vwCl[5]? = some (RX5, TX5, 9))), w_pre hS hK⟩ rfl rfl hl.1 rfl (lv_room (Nat.le_of_ble_eq_true rfl)) dX11_kept_8 ⟨Nat.le_refl _, Nat.le_refl _⟩) hS0 (fun z2 M1 H locs r3 h hS hS0 => ?_)
  obtain ⟨e4, h⟩ := h
  rw [e4] at hS
  exact w_iret hx hb hr hlocks hS hS0 (sI_of r3) ⟨rfl, h⟩ dX11_kept_11

set_option maxRecDepth 100000 in
def wC_fill (a0 : Nat) (a1 : Int) (M : zM) (Q : zM → Prop) : Prop := wL1 (fun K5 x1 M2 => (((zln wC a0) : Int) ≤ (sI x1) → Q M2) ∧ ((sI x1) < ((zln wC a0) : Int) → ((0 ≤ (sI x1) ∧ (sI x1) < (zln wC a0)) ∧ (∀ M12 : zM, M12 = zup M2 a0 (sI x1).toNat a1 → K5 (x1 + 1) M12)))) 0 M
set_option maxHeartbeats 4000000 in
set_option maxRecDepth 100000 in
theorem cC_fill (l : Launch) (D : va_G) (dA : Nat → ClassId) (b : Nat) (M : zM) (a0 : Nat) (a1 : Int) (lt_a0 : a0 < nC) (kd_a0 : zkd wC a0 = 100) (ln_a0 : zln wC a0 < 2147483648) (Q : zM → Prop) (h : wC_fill a0 a1 M Q) : Met l yJ7_fill_53178 (.code yJ7_fill_53178 cJ7_fill_53178 4 none :: zt) (z_rm 0) (va_Pc [.ref (b + a0), .int (iI a1)] (wPre D dA vwCl (z_tys dA) wC nC b M)) (va_Qv (wQv Q) (zB D dA vwCl wC nC b) (zA nC b)) 0 0 (zA nC b) := by
  unfold wC_fill at h
  refine Met.ofW (cc := cJ7_fill_53178) (maxL := 4) (ret := none) (by decide) rfl ?_
  intro p e s m args below meth c s₁ B hml hv
  obtain ⟨hargs, hS, hK⟩ := hv
  have hx := B.exec
  have hb := B.bytes
  have hr := B.returns
  have hts := atoms_spec (ws := .code yJ7_fill_53178 cJ7_fill_53178 4 none :: zt) B.pre
  have hown : s.vm.findClass RJ7 = some m.cls := findClass_of_methodNamed B.named
  have hlocks := B.notSynchronized
  have hS0 : va_S (zA nC b) s.heap s.heap [] := va_S.rf
  have hl := lv_entry ([.ref (b + a0), .int (iI a1)]) (n := 4) (Nat.le_of_ble_eq_true rfl)
  have hent : entryFrame m args 4 = F0 m 0 ((lg_sl ([.ref (b + a0), .int (iI a1)]) ++ List.replicate (4 - (lg_sl ([.ref (b + a0), .int (iI a1)])).length) Slot.unset).toArray) [] := by rw [hargs]; exact lg_entry_eq m ([.ref (b + a0), .int (iI a1)]) 4
  rw [hent]
  generalize (lg_sl ([.ref (b + a0), .int (iI a1)]) ++ List.replicate (4 - (lg_sl ([.ref (b + a0), .int (iI a1)])).length) Slot.unset).toArray = ls at hl ⊢
  have hl : lv_has ls 4 [(0, .ref (b + a0)), (1, .int (iI a1))] := hl
  refine z_iconst hx hb dJ7_fill_53178_0 ?_
  refine lv_istore_n (lv' := [(2, .int (iI 0)), (0, .ref (b + a0)), (1, .int (iI a1))]) hx hb dJ7_fill_53178_1 rfl hl (by decide) rfl (fun ls hl => ?_)
  refine lv_aload_n hx hb dJ7_fill_53178_2 rfl (lv_at hl 1 rfl) ?_
  refine w_alen (n := (zln wC a0)) hx hb hK.1 (t0 := 0) rfl hS lt_a0 kd_a0 rfl dJ7_fill_53178_3 ?_
  refine lv_istore_n (lv' := [(3, .int (iI ((zln wC a0) : Int))), (2, .int (iI 0)), (0, .ref (b + a0)), (1, .int (iI a1))]) hx hb dJ7_fill_53178_4 rfl hl (by decide) rfl (fun ls hl => ?_)
  obtain ⟨I3, ⟨n4, h5⟩, h6⟩ := h
  have L7 : ∀ (n8 : Nat) (x1 : Int) (M2 : zM) (H : Heap) (locs : List Loc) (ls : Array Slot), I3 n8 x1 M2 → zR D dA vwCl wC nC b M2 H → va_S (zA nC b) s.heap H locs → lv_has ls 4 [(0, .ref (b + a0)), (1, .int (iI a1)), (2, .int (iI x1)), (3, .int (iI ((zln wC a0) : Int)))] → W p l e (headSpec (.code yJ7_fill_53178 cJ7_fill_53178 4 none :: zt) (z_rm 0)).room s m args below meth c H locs 0 0 (MQ below (va_Qv (wQv Q) (zB D dA vwCl wC nC b) (zA nC b)) args s 0 0 (zA nC b)) (F0 m 5 ls []) := by
    intro n8
    induction n8 using Nat.strongRecOn with
    | ind n8 i9 =>
      intro x1 M2 H locs ls h hS hS0 hl
      have h := h6 n8 x1 M2 h
      refine lv_iload_n hx hb dJ7_fill_53178_5 rfl (lv_at hl 2 rfl) ?_
      refine lv_iload_n hx hb dJ7_fill_53178_6 rfl (lv_at hl 3 rfl) ?_
      refine w_icmp_ge (tgt := 20) hx hb rfl (sI_of ⟨by clear h; omega, by clear h; have := ln_a0; omega⟩) dJ7_fill_53178_7 (by decide) (fun c10 => ?_) (fun c10 => ?_)
      · skip
        have h := h.1 c10
        exact w_vret hx hb hr hlocks hS hS0 h dJ7_fill_53178_20
      · skip
        have h := h.2 c10
        refine lv_aload_n hx hb dJ7_fill_53178_10 rfl (lv_at hl 0 rfl) ?_
        refine lv_iload_n hx hb dJ7_fill_53178_11 rfl (lv_at hl 2 rfl) ?_
        refine lv_iload_n hx hb dJ7_fill_53178_12 rfl (lv_at hl 1 rfl) ?_
        obtain ⟨o11, h⟩ := h
        refine w_iast (z := a1) (n := (zln wC a0)) (i := (sI x1)) hx hb hK.1 (t0 := 0) rfl hS hS0 lt_a0 kd_a0 rfl rfl o11.1 o11.2 ln_a0 dJ7_fill_53178_13 (fun H locs hS hS0 => ?_)
        obtain ⟨M12, e13⟩ : ∃ M12 : zM, M12 = zup M2 a0 (sI x1).toNat a1 := ⟨_, rfl⟩
        rw [← e13] at hS
        have h := h M12 e13
        refine z_iinc (lv' := [(2, .int (iI (x1 + 1))), (0, .ref (b + a0)), (1, .int (iI a1)), (3, .int (iI ((zln wC a0) : Int)))]) hx hb dJ7_fill_53178_14 hl (k := 2) rfl (by decide) rfl (fun ls hl => ?_)
        refine lv_goto (tgt := 5) hx hb dJ7_fill_53178_17 (by decide) ?_
        obtain ⟨n14, h15, h⟩ := h
        exact i9 n14 h15 (x1 + 1) M12 _ _ _ h hS hS0 (lv_sub hl [1, 2, 0, 3] rfl)
  exact L7 n4 0 M _ _ _ h5 hS hS0 (lv_sub hl [2, 3, 1, 0] rfl)

set_option maxRecDepth 100000 in
def wC_Planner_trueFrom (a0 : Int) (a1 : Int) (M : zM) (Q : Int → Prop) : Prop := pL2 (fun K5 x1 x2 => ((sI (M 60 2)) ≤ (sI x2) → Q (sI x1)) ∧ ((sI x2) < (sI (M 60 2)) → ((0 ≤ (sI x2) ∧ (sI x2) < 6) ∧ wC_by (sI (a0 + (M 77 (sI x2).toNat))) a1 M (fun z13 => ((0 ≤ z13 ∧ z13 < 24) ∧ ((0 ≤ (sI x2) ∧ (sI x2) < 6) ∧ (∀ t18 : Int, t18 = (orI x1 (shlI (andI (shrI (M 76 z13.toNat) (M 62 (sI x2).toNat)) 1) x2)) → K5 t18 (x2 + 1)))))))) 0 0
set_option maxHeartbeats 4000000 in
set_option maxRecDepth 100000 in
theorem cC_Planner_trueFrom (l : Launch) (D : va_G) (dA : Nat → ClassId) (b : Nat) (M : zM) (a0 : Int) (a1 : Int)  (Q : Int → Prop) (h : wC_Planner_trueFrom a0 a1 M Q) : Met l yX5_trueFrom (.code yX5_trueFrom cX5_trueFrom 5 (some .int) :: zt) (z_rm 1) (va_Pc [.ref (b + 60), .int (iI a0), .int (iI a1)] (wPre D dA vwCl (z_tys dA) wC nC b M)) (va_Qi (wQi (fun z9 u9 => u9 = M ∧ Q z9)) (zB D dA vwCl wC nC b) (zA nC b)) 0 0 (zA nC b) := by
  unfold wC_Planner_trueFrom at h
  refine Met.ofW (cc := cX5_trueFrom) (maxL := 5) (ret := (some .int)) (by decide) rfl ?_
  intro p e s m args below meth c s₁ B hml hv
  obtain ⟨hargs, hS, hK⟩ := hv
  have hx := B.exec
  have hb := B.bytes
  have hr := B.returns
  have hts := atoms_spec (ws := .code yX5_trueFrom cX5_trueFrom 5 (some .int) :: zt) B.pre
  have hown : s.vm.findClass RX5 = some m.cls := findClass_of_methodNamed B.named
  have hlocks := B.notSynchronized
  have hS0 : va_S (zA nC b) s.heap s.heap [] := va_S.rf
  have hl := lv_entry ([.ref (b + 60), .int (iI a0), .int (iI a1)]) (n := 5) (Nat.le_of_ble_eq_true rfl)
  have hent : entryFrame m args 5 = F0 m 0 ((lg_sl ([.ref (b + 60), .int (iI a0), .int (iI a1)]) ++ List.replicate (5 - (lg_sl ([.ref (b + 60), .int (iI a0), .int (iI a1)])).length) Slot.unset).toArray) [] := by rw [hargs]; exact lg_entry_eq m ([.ref (b + 60), .int (iI a0), .int (iI a1)]) 5
  rw [hent]
  generalize (lg_sl ([.ref (b + 60), .int (iI a0), .int (iI a1)]) ++ List.replicate (5 - (lg_sl ([.ref (b + 60), .int (iI a0), .int (iI a1)])).length) Slot.unset).toArray = ls at hl ⊢
  have hl : lv_has ls 5 [(0, .ref (b + 60)), (1, .int (iI a0)), (2, .int (iI a1))] := hl
  refine z_iconst hx hb dX5_trueFrom_0 ?_
  refine lv_istore_n (lv' := [(3, .int (iI 0)), (0, .ref (b + 60)), (1, .int (iI a0)), (2, .int (iI a1))]) hx hb dX5_trueFrom_1 rfl hl (by decide) rfl (fun ls hl => ?_)
  refine z_iconst hx hb dX5_trueFrom_2 ?_
  refine lv_istore (lv' := [(4, .int (iI 0)), (3, .int (iI 0)), (0, .ref (b + 60)), (1, .int (iI a0)), (2, .int (iI a1))]) hx hb dX5_trueFrom_3 hl (by decide) rfl (fun ls hl => ?_)
  obtain ⟨I3, ⟨n4, h5⟩, h6⟩ := h
  have L7 : ∀ (n8 : Nat) (x1 x2 : Int) (H : Heap) (locs : List Loc) (ls : Array Slot), I3 n8 x1 x2 → zR D dA vwCl wC nC b M H → va_S (zA nC b) s.heap H locs → lv_has ls 5 [(0, .ref (b + 60)), (1, .int (iI a0)), (2, .int (iI a1)), (3, .int (iI x1)), (4, .int (iI x2))] → W p l e (headSpec (.code yX5_trueFrom cX5_trueFrom 5 (some .int) :: zt) (z_rm 1)).room s m args below meth c H locs 0 0 (MQ below (va_Qi (wQi (fun z9 u9 => u9 = M ∧ Q z9)) (zB D dA vwCl wC nC b) (zA nC b)) args s 0 0 (zA nC b)) (F0 m 5 ls []) := by
    intro n8
    induction n8 using Nat.strongRecOn with
    | ind n8 i9 =>
      intro x1 x2 H locs ls h hS hS0 hl
      have h := h6 n8 x1 x2 h
      refine lv_iload hx hb dX5_trueFrom_5 (lv_at hl 4 rfl) ?_
      refine lv_aload_n hx hb dX5_trueFrom_7 rfl (lv_at hl 0 rfl) ?_
      refine w_geti hx hb hts (z_memU u5) hown hK.1 hS f5_2 (by decide) (zkd_of (rfl : zcd wC 60 = 19) rfl) (Or.inl (hts _ (z_mem k145))) dX5_trueFrom_8 ?_
      refine w_icmp_ge (tgt := 55) hx hb rfl rfl dX5_trueFrom_11 (by decide) (fun c10 => ?_) (fun c10 => ?_)
      · skip
        have h := h.1 c10
        refine lv_iload_n hx hb dX5_trueFrom_55 rfl (lv_at hl 3 rfl) ?_
        exact w_iret hx hb hr hlocks hS hS0 rfl ⟨rfl, h⟩ dX5_trueFrom_56
      · skip
        have h := h.2 c10
        refine lv_iload_n hx hb dX5_trueFrom_14 rfl (lv_at hl 3 rfl) ?_
        refine lv_aload_n hx hb dX5_trueFrom_15 rfl (lv_at hl 0 rfl) ?_
        refine w_getr (j2 := 76) hx hb hts (z_memU u5) hown hK.1 hS f5_7 (by decide) (zkd_of (rfl : zcd wC 60 = 19) rfl) (zrf_of (rfl : zcd wC 60 = 19) rfl) (Or.inl (hts _ (z_mem k152))) dX5_trueFrom_16 ?_
        refine lv_iload_n hx hb dX5_trueFrom_19 rfl (lv_at hl 1 rfl) ?_
        refine lv_aload_n hx hb dX5_trueFrom_20 rfl (lv_at hl 0 rfl) ?_
        refine w_getr (j2 := 77) hx hb hts (z_memU u5) hown hK.1 hS f5_8 (by decide) (zkd_of (rfl : zcd wC 60 = 19) rfl) (zrf_of (rfl : zcd wC 60 = 19) rfl) (Or.inl (hts _ (z_mem k153))) dX5_trueFrom_21 ?_
        refine lv_iload hx hb dX5_trueFrom_24 (lv_at hl 4 rfl) ?_
        obtain ⟨o11, h⟩ := h
        refine w_iald (n := 6) (i := (sI x2)) hx hb hK.1 (t0 := 0) rfl hS (by decide) (zkd_of (rfl : zcd wC 77 = 29) rfl) (zln_of (rfl : zcd wC 77 = 29) rfl) rfl o11.1 o11.2 (by decide) dX5_trueFrom_26 ?_
        refine z_iadd hx hb dX5_trueFrom_27 ?_
        refine w_i2l hx hb rfl dX5_trueFrom_28 ?_
        refine lv_iload_n hx hb dX5_trueFrom_29 rfl (lv_at hl 2 rfl) ?_
        refine w_calli (va_runSN (As := [.long (iL (sI (a0 + (M 77 (sI x2).toNat)))), .int (iI a1)]) (rest := [.ref (b + 76), .int (iI x1)]) ⟨hx, hb, hml, hown, hts⟩ (cC_by l D dA b M (sI (a0 + (M 77 (sI x2).toNat))) a1 _ h) ⟨va_cnB 2 hts (z_gN k406) rfl rfl rfl (hK.2 (RX5, 107, yX11_by, RX11) (List.mem_of_getElem? (i := 16) rfl)) (hts _ (z_mem k1)) dm_X11_by.2 ⟨Nat.le_of_ble_eq_true rfl, Nat.le_of_ble_eq_true rfl⟩, (hts _ (z_mem k405)), trivial⟩ ⟨wPre_blind, w_pre hS hK⟩ rfl rfl hl.1 rfl (lv_room (Nat.le_of_ble_eq_true rfl)) dX5_trueFrom_30 ⟨Nat.le_refl _, Nat.le_refl _⟩) hS0 (fun z13 M12 H locs r14 h hS hS0 => ?_)
        obtain ⟨e15, h⟩ := h
        rw [e15] at hS
        obtain ⟨o16, h⟩ := h
        refine w_iald (n := 24) (i := z13) hx hb hK.1 (t0 := 0) rfl hS (by decide) (zkd_of (rfl : zcd wC 76 = 28) rfl) (zln_of (rfl : zcd wC 76 = 28) rfl) (sI_of r14) o16.1 o16.2 (by decide) dX5_trueFrom_33 ?_
        refine lv_aload_n hx hb dX5_trueFrom_34 rfl (lv_at hl 0 rfl) ?_
        refine w_getr (j2 := 62) hx hb hts (z_memU u5) hown hK.1 hS f5_1 (by decide) (zkd_of (rfl : zcd wC 60 = 19) rfl) (zrf_of (rfl : zcd wC 60 = 19) rfl) (Or.inl (hts _ (z_mem k144))) dX5_trueFrom_35 ?_
        refine lv_iload hx hb dX5_trueFrom_38 (lv_at hl 4 rfl) ?_
        obtain ⟨o17, h⟩ := h
        refine w_iald (n := 6) (i := (sI x2)) hx hb hK.1 (t0 := 0) rfl hS (by decide) (zkd_of (rfl : zcd wC 62 = 21) rfl) (zln_of (rfl : zcd wC 62 = 21) rfl) rfl o17.1 o17.2 (by decide) dX5_trueFrom_40 ?_
        refine w_ishr hx hb dX5_trueFrom_41 ?_
        refine z_iconst hx hb dX5_trueFrom_42 ?_
        refine w_iand hx hb dX5_trueFrom_43 ?_
        refine lv_iload hx hb dX5_trueFrom_44 (lv_at hl 4 rfl) ?_
        refine w_ishl hx hb dX5_trueFrom_46 ?_
        refine w_ior hx hb dX5_trueFrom_47 ?_
        obtain ⟨t18, e19⟩ : ∃ t18 : Int, t18 = (orI x1 (shlI (andI (shrI (M 76 z13.toNat) (M 62 (sI x2).toNat)) 1) x2)) := ⟨_, rfl⟩
        refine z_top (y := t18) e19.symm ?_
        have h := h t18 e19
        refine lv_istore_n (lv' := [(3, .int (iI t18)), (0, .ref (b + 60)), (1, .int (iI a0)), (2, .int (iI a1)), (4, .int (iI x2))]) hx hb dX5_trueFrom_48 rfl hl (by decide) rfl (fun ls hl => ?_)
        refine z_iinc (lv' := [(4, .int (iI (x2 + 1))), (3, .int (iI t18)), (0, .ref (b + 60)), (1, .int (iI a0)), (2, .int (iI a1))]) hx hb dX5_trueFrom_49 hl (k := 4) rfl (by decide) rfl (fun ls hl => ?_)
        refine lv_goto (tgt := 5) hx hb dX5_trueFrom_52 (by decide) ?_
        obtain ⟨n20, h21, h⟩ := h
        exact i9 n20 h21 t18 (x2 + 1) _ _ _ h hS hS0 (lv_sub hl [2, 3, 4, 1, 0] rfl)
  exact L7 n4 0 0 _ _ _ h5 hS hS0 (lv_sub hl [2, 3, 4, 1, 0] rfl)

set_option maxRecDepth 100000 in
def wC_Planner_listTrue (a0 : Nat) (a1 : Nat) (a2 : Nat) (M : zM) (Q : zM → Prop) : Prop := wL2 (fun K12 x11 x12 M13 => ((sI x12) ≤ 0 → Q M13) ∧ (0 < (sI x12) → wC_Ring_fillUnder a0 76 x12 M13 (fun M22 => wL1 (fun K30 x23 M24 => ((sI (M24 60 2)) ≤ (sI x23) → wL2 (fun K69 x33 x34 M35 => ((sI x12) ≤ (sI x34) → K12 x33 (x12 + (-1)) M35) ∧ ((sI x34) < (sI x12) → (((zln wC a2) : Int) ≤ (sI x33) → K12 x33 (x12 + (-1)) M35) ∧ ((sI x33) < ((zln wC a2) : Int) → wC_Planner_trueFrom x34 x12 M35 (fun z50 => ((0 ≤ (sI x33) ∧ (sI x33) < (zln wC a2)) ∧ (∀ M54 : zM, M54 = zup M35 a2 (sI x33).toNat z50 → K69 (x33 + 1) (x34 + 1) M54)))))) x11 0 M24) ∧ ((sI x23) < (sI (M24 60 2)) → ((0 ≤ (sI x23) ∧ (sI x23) < 6) ∧ wC_Motor_wayBy a1 (sI (M24 61 (sI x23).toNat)) x12 M24 (fun z60 => ((0 ≤ (sI x23) ∧ (sI x23) < 6) ∧ (∀ M64 : zM, M64 = zup M24 77 (sI x23).toNat z60 → K30 (x23 + 1) M64)))))) 0 M22))) 0 (M (a0 + 1) 1) M
set_option maxHeartbeats 4000000 in
set_option maxRecDepth 100000 in
theorem cC_Planner_listTrue (l : Launch) (D : va_G) (dA : Nat → ClassId) (b : Nat) (M : zM) (a0 : Nat) (a1 : Nat) (a2 : Nat) (lt_a0 : a0 < nC) (cd_a0 : zcd wC a0 = 14) (lt_a1 : a1 < nC) (cd_a1 : zcd wC a1 = 11) (lt_a2 : a2 < nC) (kd_a2 : zkd wC a2 = 100) (ln_a2 : zln wC a2 < 2147483648) (Q : zM → Prop) (h : wC_Planner_listTrue a0 a1 a2 M Q) : Met l yX5_listTrue (.code yX5_listTrue cX5_listTrue 7 none :: zt) (z_rm 3) (va_Pc [.ref (b + 60), .ref (b + a0), .ref (b + a1), .ref (b + a2)] (wPre D dA vwCl (z_tys dA) wC nC b M)) (va_Qv (wQv Q) (zB D dA vwCl wC nC b) (zA nC b)) 0 0 (zA nC b) := by
  unfold wC_Planner_listTrue at h
  refine Met.ofW (cc := cX5_listTrue) (maxL := 7) (ret := none) (by decide) rfl ?_
  intro p e s m args below meth c s₁ B hml hv
  obtain ⟨hargs, hS, hK⟩ := hv
  have hx := B.exec
  have hb := B.bytes
  have hr := B.returns
  have hts := atoms_spec (ws := .code yX5_listTrue cX5_listTrue 7 none :: zt) B.pre
  have hown : s.vm.findClass RX5 = some m.cls := findClass_of_methodNamed B.named
  have hlocks := B.notSynchronized
  have hS0 : va_S (zA nC b) s.heap s.heap [] := va_S.rf
  have hl := lv_entry ([.ref (b + 60), .ref (b + a0), .ref (b + a1), .ref (b + a2)]) (n := 7) (Nat.le_of_ble_eq_true rfl)
  have hent : entryFrame m args 7 = F0 m 0 ((lg_sl ([.ref (b + 60), .ref (b + a0), .ref (b + a1), .ref (b + a2)]) ++ List.replicate (7 - (lg_sl ([.ref (b + 60), .ref (b + a0), .ref (b + a1), .ref (b + a2)])).length) Slot.unset).toArray) [] := by rw [hargs]; exact lg_entry_eq m ([.ref (b + 60), .ref (b + a0), .ref (b + a1), .ref (b + a2)]) 7
  rw [hent]
  generalize (lg_sl ([.ref (b + 60), .ref (b + a0), .ref (b + a1), .ref (b + a2)]) ++ List.replicate (7 - (lg_sl ([.ref (b + 60), .ref (b + a0), .ref (b + a1), .ref (b + a2)])).length) Slot.unset).toArray = ls at hl ⊢
  have hl : lv_has ls 7 [(0, .ref (b + 60)), (1, .ref (b + a0)), (2, .ref (b + a1)), (3, .ref (b + a2))] := hl
  obtain ⟨lt1, cd2, lt3, cd4, lt5, cd6⟩ := nx_ring a0 lt_a0 cd_a0
  obtain ⟨lt7, cd8, lt9, cd10⟩ := nx_motor a1 lt_a1 cd_a1
  refine z_iconst hx hb dX5_listTrue_0 ?_
  refine lv_istore (lv' := [(4, .int (iI 0)), (0, .ref (b + 60)), (1, .ref (b + a0)), (2, .ref (b + a1)), (3, .ref (b + a2))]) hx hb dX5_listTrue_1 hl (by decide) rfl (fun ls hl => ?_)
  refine lv_aload_n hx hb dX5_listTrue_3 rfl (lv_at hl 2 rfl) ?_
  refine w_getr (j2 := (a0 + 1)) hx hb hts (z_memU u6) hown hK.1 hS f6_0 lt_a0 (zkd_of cd_a0 rfl) (zrf_of cd_a0 rfl) (Or.inl (hts _ (z_mem k94))) dX5_listTrue_4 ?_
  refine w_geti hx hb hts (z_memU u8) hown hK.1 hS f8_1 lt1 (zkd_of cd2 rfl) (Or.inl (hts _ (z_mem k48))) dX5_listTrue_7 ?_
  refine lv_istore (lv' := [(5, .int (iI (M (a0 + 1) 1))), (4, .int (iI 0)), (0, .ref (b + 60)), (1, .ref (b + a0)), (2, .ref (b + a1)), (3, .ref (b + a2))]) hx hb dX5_listTrue_10 hl (by decide) rfl (fun ls hl => ?_)
  obtain ⟨I14, ⟨n15, h16⟩, h17⟩ := h
  have L18 : ∀ (n19 : Nat) (x11 x12 : Int) (M13 : zM) (H : Heap) (locs : List Loc) (ls : Array Slot), I14 n19 x11 x12 M13 → zR D dA vwCl wC nC b M13 H → va_S (zA nC b) s.heap H locs → lv_has ls 7 [(0, .ref (b + 60)), (1, .ref (b + a0)), (2, .ref (b + a1)), (3, .ref (b + a2)), (4, .int (iI x11)), (5, .int (iI x12))] → W p l e (headSpec (.code yX5_listTrue cX5_listTrue 7 none :: zt) (z_rm 3)).room s m args below meth c H locs 0 0 (MQ below (va_Qv (wQv Q) (zB D dA vwCl wC nC b) (zA nC b)) args s 0 0 (zA nC b)) (F0 m 12 ls []) := by
    intro n19
    induction n19 using Nat.strongRecOn with
    | ind n19 i20 =>
      intro x11 x12 M13 H locs ls h hS hS0 hl
      have h := h17 n19 x11 x12 M13 h
      refine lv_iload hx hb dX5_listTrue_12 (lv_at hl 5 rfl) ?_
      refine w_if_le (tgt := 110) hx hb rfl dX5_listTrue_14 (by decide) (fun c21 => ?_) (fun c21 => ?_)
      · skip
        have h := h.1 c21
        exact w_vret hx hb hr hlocks hS hS0 h dX5_listTrue_110
      · skip
        have h := h.2 c21
        refine lv_aload_n hx hb dX5_listTrue_17 rfl (lv_at hl 1 rfl) ?_
        refine lv_aload_n hx hb dX5_listTrue_18 rfl (lv_at hl 0 rfl) ?_
        refine w_getr (j2 := 76) hx hb hts (z_memU u5) hown hK.1 hS f5_7 (by decide) (zkd_of (rfl : zcd wC 60 = 19) rfl) (zrf_of (rfl : zcd wC 60 = 19) rfl) (Or.inl (hts _ (z_mem k152))) dX5_listTrue_19 ?_
        refine lv_iload hx hb dX5_listTrue_22 (lv_at hl 5 rfl) ?_
        refine w_callv (va_runV (As := [.ref (b + 76), .int (iI x12)]) (rest := []) ⟨hx, hb, hml, hown, hts⟩ (cC_Ring_fillUnder l D dA b M13 a0 76 x12 lt_a0 cd_a0 (by decide) (zkd_of (rfl : zcd wC 76 = 28) rfl) (Nat.lt_of_le_of_lt (Nat.le_of_eq (zln_of (rfl : zcd wC 76 = 28) rfl)) (by decide)) _ h) (cwV 2 hts (z_gV k632 k399 k400 k6 k401) rfl rfl rfl dm_X6_fillUnder ⟨Nat.le_of_ble_eq_true rfl, Nat.le_of_ble_eq_true rfl⟩) ⟨wPre_blind, (w_recv hS hK.1 lt_a0 (zkd_of cd_a0 rfl) (by decide) (rfl : vwCl[6]? = some (RX6, TX6, 6))), w_pre hS hK⟩ rfl rfl hl.1 rfl (lv_room (Nat.le_of_ble_eq_true rfl)) dX5_listTrue_24 ⟨Nat.le_refl _, Nat.le_refl _⟩) hS0 (fun M22 H locs h hS hS0 => ?_)
        refine z_iconst hx hb dX5_listTrue_27 ?_
        refine lv_istore (lv' := [(6, .int (iI 0)), (0, .ref (b + 60)), (1, .ref (b + a0)), (2, .ref (b + a1)), (3, .ref (b + a2)), (4, .int (iI x11)), (5, .int (iI x12))]) hx hb dX5_listTrue_28 hl (by decide) rfl (fun ls hl => ?_)
        obtain ⟨I25, ⟨n26, h27⟩, h28⟩ := h
        have L29 : ∀ (n30 : Nat) (x23 : Int) (M24 : zM) (H : Heap) (locs : List Loc) (ls : Array Slot), I25 n30 x23 M24 → zR D dA vwCl wC nC b M24 H → va_S (zA nC b) s.heap H locs → lv_has ls 7 [(0, .ref (b + 60)), (1, .ref (b + a0)), (2, .ref (b + a1)), (3, .ref (b + a2)), (4, .int (iI x11)), (5, .int (iI x12)), (6, .int (iI x23))] → W p l e (headSpec (.code yX5_listTrue cX5_listTrue 7 none :: zt) (z_rm 3)).room s m args below meth c H locs 0 0 (MQ below (va_Qv (wQv Q) (zB D dA vwCl wC nC b) (zA nC b)) args s 0 0 (zA nC b)) (F0 m 30 ls []) := by
          intro n30
          induction n30 using Nat.strongRecOn with
          | ind n30 i31 =>
            intro x23 M24 H locs ls h hS hS0 hl
            have h := h28 n30 x23 M24 h
            refine lv_iload hx hb dX5_listTrue_30 (lv_at hl 6 rfl) ?_
            refine lv_aload_n hx hb dX5_listTrue_32 rfl (lv_at hl 0 rfl) ?_
            refine w_geti hx hb hts (z_memU u5) hown hK.1 hS f5_2 (by decide) (zkd_of (rfl : zcd wC 60 = 19) rfl) (Or.inl (hts _ (z_mem k145))) dX5_listTrue_33 ?_
            refine w_icmp_ge (tgt := 66) hx hb rfl rfl dX5_listTrue_36 (by decide) (fun c32 => ?_) (fun c32 => ?_)
            · skip
              have h := h.1 c32
              refine z_iconst hx hb dX5_listTrue_66 ?_
              refine lv_istore (lv' := [(6, .int (iI 0)), (0, .ref (b + 60)), (1, .ref (b + a0)), (2, .ref (b + a1)), (3, .ref (b + a2)), (4, .int (iI x11)), (5, .int (iI x12))]) hx hb dX5_listTrue_67 hl (by decide) rfl (fun ls hl => ?_)
              obtain ⟨I36, ⟨n37, h38⟩, h39⟩ := h
              have L40 : ∀ (n41 : Nat) (x33 x34 : Int) (M35 : zM) (H : Heap) (locs : List Loc) (ls : Array Slot), I36 n41 x33 x34 M35 → zR D dA vwCl wC nC b M35 H → va_S (zA nC b) s.heap H locs → lv_has ls 7 [(0, .ref (b + 60)), (1, .ref (b + a0)), (2, .ref (b + a1)), (3, .ref (b + a2)), (4, .int (iI x33)), (5, .int (iI x12)), (6, .int (iI x34))] → W p l e (headSpec (.code yX5_listTrue cX5_listTrue 7 none :: zt) (z_rm 3)).room s m args below meth c H locs 0 0 (MQ below (va_Qv (wQv Q) (zB D dA vwCl wC nC b) (zA nC b)) args s 0 0 (zA nC b)) (F0 m 69 ls []) := by
                intro n41
                induction n41 using Nat.strongRecOn with
                | ind n41 i42 =>
                  intro x33 x34 M35 H locs ls h hS hS0 hl
                  have h := h39 n41 x33 x34 M35 h
                  refine lv_iload hx hb dX5_listTrue_69 (lv_at hl 6 rfl) ?_
                  refine lv_iload hx hb dX5_listTrue_71 (lv_at hl 5 rfl) ?_
                  refine w_icmp_ge (tgt := 104) hx hb rfl rfl dX5_listTrue_73 (by decide) (fun c43 => ?_) (fun c43 => ?_)
                  · skip
                    have h := h.1 c43
                    refine z_iinc (lv' := [(5, .int (iI (x12 + (-1)))), (0, .ref (b + 60)), (1, .ref (b + a0)), (2, .ref (b + a1)), (3, .ref (b + a2)), (4, .int (iI x33)), (6, .int (iI x34))]) hx hb dX5_listTrue_104 hl (k := 5) rfl (by decide) rfl (fun ls hl => ?_)
                    refine lv_goto (tgt := 12) hx hb dX5_listTrue_107 (by decide) ?_
                    obtain ⟨n44, h45, h⟩ := h
                    exact i20 n44 h45 x33 (x12 + (-1)) M35 _ _ _ h hS hS0 (lv_sub hl [1, 2, 3, 4, 5, 0] rfl)
                  · skip
                    have h := h.2 c43
                    refine lv_iload hx hb dX5_listTrue_76 (lv_at hl 4 rfl) ?_
                    refine lv_aload_n hx hb dX5_listTrue_78 rfl (lv_at hl 3 rfl) ?_
                    refine w_alen (n := (zln wC a2)) hx hb hK.1 (t0 := 0) rfl hS lt_a2 kd_a2 rfl dX5_listTrue_79 ?_
                    refine w_icmp_ge (tgt := 104) hx hb rfl (sI_of ⟨by clear h; omega, by clear h; have := ln_a2; omega⟩) dX5_listTrue_80 (by decide) (fun c46 => ?_) (fun c46 => ?_)
                    · skip
                      have h := h.1 c46
                      refine z_iinc (lv' := [(5, .int (iI (x12 + (-1)))), (0, .ref (b + 60)), (1, .ref (b + a0)), (2, .ref (b + a1)), (3, .ref (b + a2)), (4, .int (iI x33)), (6, .int (iI x34))]) hx hb dX5_listTrue_104 hl (k := 5) rfl (by decide) rfl (fun ls hl => ?_)
                      refine lv_goto (tgt := 12) hx hb dX5_listTrue_107 (by decide) ?_
                      obtain ⟨n47, h48, h⟩ := h
                      exact i20 n47 h48 x33 (x12 + (-1)) M35 _ _ _ h hS hS0 (lv_sub hl [1, 2, 3, 4, 5, 0] rfl)
                    · skip
                      have h := h.2 c46
                      refine lv_aload_n hx hb dX5_listTrue_83 rfl (lv_at hl 3 rfl) ?_
                      refine lv_iload hx hb dX5_listTrue_84 (lv_at hl 4 rfl) ?_
                      refine lv_aload_n hx hb dX5_listTrue_86 rfl (lv_at hl 0 rfl) ?_
                      refine lv_iload hx hb dX5_listTrue_87 (lv_at hl 6 rfl) ?_
                      refine lv_iload hx hb dX5_listTrue_89 (lv_at hl 5 rfl) ?_
                      refine w_calli (va_runV (As := [.int (iI x34), .int (iI x12)]) (rest := [.int (iI x33), .ref (b + a2)]) ⟨hx, hb, hml, hown, hts⟩ (cC_Planner_trueFrom l D dA b M35 x34 x12 _ h) (cwV 2 hts (z_gV k634 k635 k1371 k8 k636) rfl rfl rfl dm_X5_trueFrom ⟨Nat.le_of_ble_eq_true rfl, Nat.le_of_ble_eq_true rfl⟩) ⟨wPre_blind, (w_recv hS hK.1 (by decide) (zkd_of (rfl : zcd wC 60 = 19) rfl) (by decide) (rfl : vwCl[5]? = some (RX5, TX5, 9))), w_pre hS hK⟩ rfl rfl hl.1 rfl (lv_room (Nat.le_of_ble_eq_true rfl)) dX5_listTrue_91 ⟨Nat.le_refl _, Nat.le_refl _⟩) hS0 (fun z50 M49 H locs r51 h hS hS0 => ?_)
                      obtain ⟨e52, h⟩ := h
                      rw [e52] at hS
                      obtain ⟨o53, h⟩ := h
                      refine w_iast (z := z50) (n := (zln wC a2)) (i := (sI x33)) hx hb hK.1 (t0 := 0) rfl hS hS0 lt_a2 kd_a2 rfl rfl o53.1 o53.2 ln_a2 dX5_listTrue_94 (fun H locs hS hS0 => ?_)
                      obtain ⟨M54, e55⟩ : ∃ M54 : zM, M54 = zup M35 a2 (sI x33).toNat z50 := ⟨_, rfl⟩
                      rw [← e55] at hS
                      have h := h M54 e55
                      refine z_iinc (lv' := [(4, .int (iI (x33 + 1))), (0, .ref (b + 60)), (1, .ref (b + a0)), (2, .ref (b + a1)), (3, .ref (b + a2)), (5, .int (iI x12)), (6, .int (iI x34))]) hx hb dX5_listTrue_95 hl (k := 4) rfl (by decide) rfl (fun ls hl => ?_)
                      refine z_iinc (lv' := [(6, .int (iI (x34 + 1))), (4, .int (iI (x33 + 1))), (0, .ref (b + 60)), (1, .ref (b + a0)), (2, .ref (b + a1)), (3, .ref (b + a2)), (5, .int (iI x12))]) hx hb dX5_listTrue_98 hl (k := 6) rfl (by decide) rfl (fun ls hl => ?_)
                      refine lv_goto (tgt := 69) hx hb dX5_listTrue_101 (by decide) ?_
                      obtain ⟨n56, h57, h⟩ := h
                      exact i42 n56 h57 (x33 + 1) (x34 + 1) M54 _ _ _ h hS hS0 (lv_sub hl [2, 3, 4, 5, 1, 6, 0] rfl)
              exact L40 n37 x11 0 M24 _ _ _ h38 hS hS0 (lv_sub hl [1, 2, 3, 4, 5, 6, 0] rfl)
            · skip
              have h := h.2 c32
              refine lv_aload_n hx hb dX5_listTrue_39 rfl (lv_at hl 0 rfl) ?_
              refine w_getr (j2 := 77) hx hb hts (z_memU u5) hown hK.1 hS f5_8 (by decide) (zkd_of (rfl : zcd wC 60 = 19) rfl) (zrf_of (rfl : zcd wC 60 = 19) rfl) (Or.inl (hts _ (z_mem k153))) dX5_listTrue_40 ?_
              refine lv_iload hx hb dX5_listTrue_43 (lv_at hl 6 rfl) ?_
              refine lv_aload_n hx hb dX5_listTrue_45 rfl (lv_at hl 2 rfl) ?_
              refine lv_aload_n hx hb dX5_listTrue_46 rfl (lv_at hl 0 rfl) ?_
              refine w_getr (j2 := 61) hx hb hts (z_memU u5) hown hK.1 hS f5_0 (by decide) (zkd_of (rfl : zcd wC 60 = 19) rfl) (zrf_of (rfl : zcd wC 60 = 19) rfl) (Or.inl (hts _ (z_mem k143))) dX5_listTrue_47 ?_
              refine lv_iload hx hb dX5_listTrue_50 (lv_at hl 6 rfl) ?_
              obtain ⟨o58, h⟩ := h
              refine w_iald (n := 6) (i := (sI x23)) hx hb hK.1 (t0 := 0) rfl hS (by decide) (zkd_of (rfl : zcd wC 61 = 20) rfl) (zln_of (rfl : zcd wC 61 = 20) rfl) rfl o58.1 o58.2 (by decide) dX5_listTrue_52 ?_
              refine w_i2l hx hb rfl dX5_listTrue_53 ?_
              refine lv_iload hx hb dX5_listTrue_54 (lv_at hl 5 rfl) ?_
              refine w_calli (va_runV (As := [.long (iL (sI (M24 61 (sI x23).toNat))), .int (iI x12)]) (rest := [.int (iI x23), .ref (b + 77)]) ⟨hx, hb, hml, hown, hts⟩ (cC_Motor_wayBy l D dA b M24 a1 (sI (M24 61 (sI x23).toNat)) x12 lt_a1 cd_a1 _ h) (cwV 2 hts (z_gV k633 k484 k485 k5 k486) rfl rfl rfl dm_X2_wayBy ⟨Nat.le_of_ble_eq_true rfl, Nat.le_of_ble_eq_true rfl⟩) ⟨wPre_blind, (w_recv hS hK.1 lt_a1 (zkd_of cd_a1 rfl) (by decide) (rfl : vwCl[2]? = some (RX2, TX2, 3))), w_pre hS hK⟩ rfl rfl hl.1 rfl (lv_room (Nat.le_of_ble_eq_true rfl)) dX5_listTrue_56 ⟨Nat.le_refl _, Nat.le_refl _⟩) hS0 (fun z60 M59 H locs r61 h hS hS0 => ?_)
              obtain ⟨e62, h⟩ := h
              rw [e62] at hS
              obtain ⟨o63, h⟩ := h
              refine w_iast (z := z60) (n := 6) (i := (sI x23)) hx hb hK.1 (t0 := 0) rfl hS hS0 (by decide) (zkd_of (rfl : zcd wC 77 = 29) rfl) (zln_of (rfl : zcd wC 77 = 29) rfl) rfl o63.1 o63.2 (by decide) dX5_listTrue_59 (fun H locs hS hS0 => ?_)
              obtain ⟨M64, e65⟩ : ∃ M64 : zM, M64 = zup M24 77 (sI x23).toNat z60 := ⟨_, rfl⟩
              rw [← e65] at hS
              have h := h M64 e65
              refine z_iinc (lv' := [(6, .int (iI (x23 + 1))), (0, .ref (b + 60)), (1, .ref (b + a0)), (2, .ref (b + a1)), (3, .ref (b + a2)), (4, .int (iI x11)), (5, .int (iI x12))]) hx hb dX5_listTrue_60 hl (k := 6) rfl (by decide) rfl (fun ls hl => ?_)
              refine lv_goto (tgt := 30) hx hb dX5_listTrue_63 (by decide) ?_
              obtain ⟨n66, h67, h⟩ := h
              exact i31 n66 h67 (x23 + 1) M64 _ _ _ h hS hS0 (lv_sub hl [1, 2, 3, 4, 5, 6, 0] rfl)
        exact L29 n26 0 M22 _ _ _ h27 hS hS0 (lv_sub hl [1, 2, 3, 4, 5, 6, 0] rfl)
  exact L18 n15 0 (M (a0 + 1) 1) M _ _ _ h16 hS hS0 (lv_sub hl [2, 3, 4, 5, 1, 0] rfl)

set_option maxRecDepth 100000 in
def wC_Planner_cost (a0 : Nat) (a1 : Int) (a2 : Int) (M : zM) (Q : Int → Prop) : Prop := Q (sI ((5 * a1) + (absI (sI (a2 - (M a0 2))))))
set_option maxHeartbeats 4000000 in
set_option maxRecDepth 100000 in
theorem cC_Planner_cost (l : Launch) (D : va_G) (dA : Nat → ClassId) (b : Nat) (M : zM) (a0 : Nat) (a1 : Int) (a2 : Int) (lt_a0 : a0 < nC) (cd_a0 : zcd wC a0 = 14) (Q : Int → Prop) (h : wC_Planner_cost a0 a1 a2 M Q) : Met l yX5_cost (.code yX5_cost cX5_cost 3 (some .int) :: zt) (z_rm 1) (va_Pc [.ref (b + a0), .int (iI a1), .int (iI a2)] (wPre D dA vwCl (z_tys dA) wC nC b M)) (va_Qi (wQi (fun z9 u9 => u9 = M ∧ Q z9)) (zB D dA vwCl wC nC b) (zA nC b)) 0 0 (zA nC b) := by
  unfold wC_Planner_cost at h
  refine Met.ofW (cc := cX5_cost) (maxL := 3) (ret := (some .int)) (by decide) rfl ?_
  intro p e s m args below meth c s₁ B hml hv
  obtain ⟨hargs, hS, hK⟩ := hv
  have hx := B.exec
  have hb := B.bytes
  have hr := B.returns
  have hts := atoms_spec (ws := .code yX5_cost cX5_cost 3 (some .int) :: zt) B.pre
  have hown : s.vm.findClass RX5 = some m.cls := findClass_of_methodNamed B.named
  have hlocks := B.notSynchronized
  have hS0 : va_S (zA nC b) s.heap s.heap [] := va_S.rf
  have hl := lv_entry ([.ref (b + a0), .int (iI a1), .int (iI a2)]) (n := 3) (Nat.le_of_ble_eq_true rfl)
  have hent : entryFrame m args 3 = F0 m 0 ((lg_sl ([.ref (b + a0), .int (iI a1), .int (iI a2)]) ++ List.replicate (3 - (lg_sl ([.ref (b + a0), .int (iI a1), .int (iI a2)])).length) Slot.unset).toArray) [] := by rw [hargs]; exact lg_entry_eq m ([.ref (b + a0), .int (iI a1), .int (iI a2)]) 3
  rw [hent]
  generalize (lg_sl ([.ref (b + a0), .int (iI a1), .int (iI a2)]) ++ List.replicate (3 - (lg_sl ([.ref (b + a0), .int (iI a1), .int (iI a2)])).length) Slot.unset).toArray = ls at hl ⊢
  have hl : lv_has ls 3 [(0, .ref (b + a0)), (1, .int (iI a1)), (2, .int (iI a2))] := hl
  obtain ⟨lt1, cd2, lt3, cd4, lt5, cd6⟩ := nx_ring a0 lt_a0 cd_a0
  refine z_iconst hx hb dX5_cost_0 ?_
  refine lv_iload_n hx hb dX5_cost_1 rfl (lv_at hl 1 rfl) ?_
  refine z_imul hx hb dX5_cost_2 ?_
  refine lv_iload_n hx hb dX5_cost_3 rfl (lv_at hl 2 rfl) ?_
  refine lv_aload_n hx hb dX5_cost_4 rfl (lv_at hl 0 rfl) ?_
  refine w_geti hx hb hts (z_memU u6) hown hK.1 hS f6_2 lt_a0 (zkd_of cd_a0 rfl) (Or.inl (hts _ (z_mem k102))) dX5_cost_5 ?_
  refine z_isub hx hb dX5_cost_8 ?_
  refine w_mabs hx hb (hml.trans hl.1.symm) hown (hts _ (z_mem k643)) (hts _ (z_mem k644)) (hts _ (z_mem k15)) (hts _ (z_mem k645)) (by exact Nat.le_of_ble_eq_true rfl) (by exact Nat.le_of_ble_eq_true rfl) (by exact Nat.le_refl _) (by exact Nat.le_refl _) rfl dX5_cost_9 ?_
  refine z_iadd hx hb dX5_cost_12 ?_
  exact w_iret hx hb hr hlocks hS hS0 rfl ⟨rfl, h⟩ dX5_cost_13

set_option maxRecDepth 100000 in
def wC_Planner_listCheapest (a0 : Nat) (a1 : Nat) (M : zM) (Q : zM → Prop) : Prop := wC_fill 75 1000000 M (fun M7 => wL2 (fun K14 x8 x9 M10 => ((sI (M10 (a0 + 1) 1)) ≤ (sI x9) → Q M10) ∧ ((sI x9) < (sI (M10 (a0 + 1) 1)) → wL2 (fun K29 x19 x20 M21 => ((sI ((M21 (a0 + 1) 1) - x9)) ≤ (sI x20) → K14 x19 (x9 + 1) M21) ∧ ((sI x20) < (sI ((M21 (a0 + 1) 1) - x9)) → (((zln wC a1) : Int) ≤ (sI x19) → K14 x19 (x9 + 1) M21) ∧ ((sI x19) < ((zln wC a1) : Int) → ((0 ≤ (sI x19) ∧ (sI x19) < (zln wC a1)) ∧ ((0 ≤ (sI x19) ∧ (sI x19) < (zln wC a1)) ∧ ((0 ≤ (sI (M21 a1 (sI x19).toNat)) ∧ (sI (M21 a1 (sI x19).toNat)) < 64) ∧ wC_Planner_cost a0 x9 x20 M21 (fun z39 => ((0 ≤ (sI (M21 a1 (sI x19).toNat)) ∧ (sI (M21 a1 (sI x19).toNat)) < 64) ∧ (∀ M43 : zM, M43 = zup M21 75 (sI (M21 a1 (sI x19).toNat)).toNat (min (sI (M21 75 (sI (M21 a1 (sI x19).toNat)).toNat)) z39) → K29 (x19 + 1) (x20 + 1) M43))))))))) x8 0 M10)) 0 0 M7)
set_option maxHeartbeats 4000000 in
set_option maxRecDepth 100000 in
theorem cC_Planner_listCheapest (l : Launch) (D : va_G) (dA : Nat → ClassId) (b : Nat) (M : zM) (a0 : Nat) (a1 : Nat) (lt_a0 : a0 < nC) (cd_a0 : zcd wC a0 = 14) (lt_a1 : a1 < nC) (kd_a1 : zkd wC a1 = 100) (ln_a1 : zln wC a1 < 2147483648) (Q : zM → Prop) (h : wC_Planner_listCheapest a0 a1 M Q) : Met l yX5_listCheapest (.code yX5_listCheapest cX5_listCheapest 6 none :: zt) (z_rm 2) (va_Pc [.ref (b + 60), .ref (b + a0), .ref (b + a1)] (wPre D dA vwCl (z_tys dA) wC nC b M)) (va_Qv (wQv Q) (zB D dA vwCl wC nC b) (zA nC b)) 0 0 (zA nC b) := by
  unfold wC_Planner_listCheapest at h
  refine Met.ofW (cc := cX5_listCheapest) (maxL := 6) (ret := none) (by decide) rfl ?_
  intro p e s m args below meth c s₁ B hml hv
  obtain ⟨hargs, hS, hK⟩ := hv
  have hx := B.exec
  have hb := B.bytes
  have hr := B.returns
  have hts := atoms_spec (ws := .code yX5_listCheapest cX5_listCheapest 6 none :: zt) B.pre
  have hown : s.vm.findClass RX5 = some m.cls := findClass_of_methodNamed B.named
  have hlocks := B.notSynchronized
  have hS0 : va_S (zA nC b) s.heap s.heap [] := va_S.rf
  have hl := lv_entry ([.ref (b + 60), .ref (b + a0), .ref (b + a1)]) (n := 6) (Nat.le_of_ble_eq_true rfl)
  have hent : entryFrame m args 6 = F0 m 0 ((lg_sl ([.ref (b + 60), .ref (b + a0), .ref (b + a1)]) ++ List.replicate (6 - (lg_sl ([.ref (b + 60), .ref (b + a0), .ref (b + a1)])).length) Slot.unset).toArray) [] := by rw [hargs]; exact lg_entry_eq m ([.ref (b + 60), .ref (b + a0), .ref (b + a1)]) 6
  rw [hent]
  generalize (lg_sl ([.ref (b + 60), .ref (b + a0), .ref (b + a1)]) ++ List.replicate (6 - (lg_sl ([.ref (b + 60), .ref (b + a0), .ref (b + a1)])).length) Slot.unset).toArray = ls at hl ⊢
  have hl : lv_has ls 6 [(0, .ref (b + 60)), (1, .ref (b + a0)), (2, .ref (b + a1))] := hl
  obtain ⟨lt1, cd2, lt3, cd4, lt5, cd6⟩ := nx_ring a0 lt_a0 cd_a0
  refine lv_aload_n hx hb dX5_listCheapest_0 rfl (lv_at hl 0 rfl) ?_
  refine w_getr (j2 := 75) hx hb hts (z_memU u5) hown hK.1 hS f5_6 (by decide) (zkd_of (rfl : zcd wC 60 = 19) rfl) (zrf_of (rfl : zcd wC 60 = 19) rfl) (Or.inl (hts _ (z_mem k151))) dX5_listCheapest_1 ?_
  refine z_ldc (n := 1000000) hx hb hown (hts _ (z_mem k625)) (by decide) dX5_listCheapest_4 ?_
  refine w_callv (va_runS (As := [.ref (b + 75), .int (iI 1000000)]) (rest := []) ⟨hx, hb, hml, hown, hts⟩ (cC_fill l D dA b M 75 1000000 (by decide) (zkd_of (rfl : zcd wC 75 = 27) rfl) (Nat.lt_of_le_of_lt (Nat.le_of_eq (zln_of (rfl : zcd wC 75 = 27) rfl)) (by decide)) _ h) (va_cwS 2 hts (z_gS k626 k170 k10 k171) rfl rfl rfl dm_J7_fill_53178.2 ⟨Nat.le_of_ble_eq_true rfl, Nat.le_of_ble_eq_true rfl⟩) ⟨wPre_blind, w_pre hS hK⟩ rfl rfl hl.1 rfl (lv_room (Nat.le_of_ble_eq_true rfl)) dX5_listCheapest_6 ⟨Nat.le_refl _, Nat.le_refl _⟩) hS0 (fun M7 H locs h hS hS0 => ?_)
  refine z_iconst hx hb dX5_listCheapest_9 ?_
  refine lv_istore_n (lv' := [(3, .int (iI 0)), (0, .ref (b + 60)), (1, .ref (b + a0)), (2, .ref (b + a1))]) hx hb dX5_listCheapest_10 rfl hl (by decide) rfl (fun ls hl => ?_)
  refine z_iconst hx hb dX5_listCheapest_11 ?_
  refine lv_istore (lv' := [(4, .int (iI 0)), (3, .int (iI 0)), (0, .ref (b + 60)), (1, .ref (b + a0)), (2, .ref (b + a1))]) hx hb dX5_listCheapest_12 hl (by decide) rfl (fun ls hl => ?_)
  obtain ⟨I11, ⟨n12, h13⟩, h14⟩ := h
  have L15 : ∀ (n16 : Nat) (x8 x9 : Int) (M10 : zM) (H : Heap) (locs : List Loc) (ls : Array Slot), I11 n16 x8 x9 M10 → zR D dA vwCl wC nC b M10 H → va_S (zA nC b) s.heap H locs → lv_has ls 6 [(0, .ref (b + 60)), (1, .ref (b + a0)), (2, .ref (b + a1)), (3, .int (iI x8)), (4, .int (iI x9))] → W p l e (headSpec (.code yX5_listCheapest cX5_listCheapest 6 none :: zt) (z_rm 2)).room s m args below meth c H locs 0 0 (MQ below (va_Qv (wQv Q) (zB D dA vwCl wC nC b) (zA nC b)) args s 0 0 (zA nC b)) (F0 m 14 ls []) := by
    intro n16
    induction n16 using Nat.strongRecOn with
    | ind n16 i17 =>
      intro x8 x9 M10 H locs ls h hS hS0 hl
      have h := h14 n16 x8 x9 M10 h
      refine lv_iload hx hb dX5_listCheapest_14 (lv_at hl 4 rfl) ?_
      refine lv_aload_n hx hb dX5_listCheapest_16 rfl (lv_at hl 1 rfl) ?_
      refine w_getr (j2 := (a0 + 1)) hx hb hts (z_memU u6) hown hK.1 hS f6_0 lt_a0 (zkd_of cd_a0 rfl) (zrf_of cd_a0 rfl) (Or.inl (hts _ (z_mem k94))) dX5_listCheapest_17 ?_
      refine w_geti hx hb hts (z_memU u8) hown hK.1 hS f8_1 lt1 (zkd_of cd2 rfl) (Or.inl (hts _ (z_mem k48))) dX5_listCheapest_20 ?_
      refine w_icmp_ge (tgt := 92) hx hb rfl rfl dX5_listCheapest_23 (by decide) (fun c18 => ?_) (fun c18 => ?_)
      · skip
        have h := h.1 c18
        exact w_vret hx hb hr hlocks hS hS0 h dX5_listCheapest_92
      · skip
        have h := h.2 c18
        refine z_iconst hx hb dX5_listCheapest_26 ?_
        refine lv_istore (lv' := [(5, .int (iI 0)), (0, .ref (b + 60)), (1, .ref (b + a0)), (2, .ref (b + a1)), (3, .int (iI x8)), (4, .int (iI x9))]) hx hb dX5_listCheapest_27 hl (by decide) rfl (fun ls hl => ?_)
        obtain ⟨I22, ⟨n23, h24⟩, h25⟩ := h
        have L26 : ∀ (n27 : Nat) (x19 x20 : Int) (M21 : zM) (H : Heap) (locs : List Loc) (ls : Array Slot), I22 n27 x19 x20 M21 → zR D dA vwCl wC nC b M21 H → va_S (zA nC b) s.heap H locs → lv_has ls 6 [(0, .ref (b + 60)), (1, .ref (b + a0)), (2, .ref (b + a1)), (3, .int (iI x19)), (4, .int (iI x9)), (5, .int (iI x20))] → W p l e (headSpec (.code yX5_listCheapest cX5_listCheapest 6 none :: zt) (z_rm 2)).room s m args below meth c H locs 0 0 (MQ below (va_Qv (wQv Q) (zB D dA vwCl wC nC b) (zA nC b)) args s 0 0 (zA nC b)) (F0 m 29 ls []) := by
          intro n27
          induction n27 using Nat.strongRecOn with
          | ind n27 i28 =>
            intro x19 x20 M21 H locs ls h hS hS0 hl
            have h := h25 n27 x19 x20 M21 h
            refine lv_iload hx hb dX5_listCheapest_29 (lv_at hl 5 rfl) ?_
            refine lv_aload_n hx hb dX5_listCheapest_31 rfl (lv_at hl 1 rfl) ?_
            refine w_getr (j2 := (a0 + 1)) hx hb hts (z_memU u6) hown hK.1 hS f6_0 lt_a0 (zkd_of cd_a0 rfl) (zrf_of cd_a0 rfl) (Or.inl (hts _ (z_mem k94))) dX5_listCheapest_32 ?_
            refine w_geti hx hb hts (z_memU u8) hown hK.1 hS f8_1 lt1 (zkd_of cd2 rfl) (Or.inl (hts _ (z_mem k48))) dX5_listCheapest_35 ?_
            refine lv_iload hx hb dX5_listCheapest_38 (lv_at hl 4 rfl) ?_
            refine z_isub hx hb dX5_listCheapest_40 ?_
            refine w_icmp_ge (tgt := 86) hx hb rfl rfl dX5_listCheapest_41 (by decide) (fun c29 => ?_) (fun c29 => ?_)
            · skip
              have h := h.1 c29
              refine z_iinc (lv' := [(4, .int (iI (x9 + 1))), (0, .ref (b + 60)), (1, .ref (b + a0)), (2, .ref (b + a1)), (3, .int (iI x19)), (5, .int (iI x20))]) hx hb dX5_listCheapest_86 hl (k := 4) rfl (by decide) rfl (fun ls hl => ?_)
              refine lv_goto (tgt := 14) hx hb dX5_listCheapest_89 (by decide) ?_
              obtain ⟨n30, h31, h⟩ := h
              exact i17 n30 h31 x19 (x9 + 1) M21 _ _ _ h hS hS0 (lv_sub hl [1, 2, 3, 4, 0] rfl)
            · skip
              have h := h.2 c29
              refine lv_iload_n hx hb dX5_listCheapest_44 rfl (lv_at hl 3 rfl) ?_
              refine lv_aload_n hx hb dX5_listCheapest_45 rfl (lv_at hl 2 rfl) ?_
              refine w_alen (n := (zln wC a1)) hx hb hK.1 (t0 := 0) rfl hS lt_a1 kd_a1 rfl dX5_listCheapest_46 ?_
              refine w_icmp_ge (tgt := 86) hx hb rfl (sI_of ⟨by clear h; omega, by clear h; have := ln_a1; omega⟩) dX5_listCheapest_47 (by decide) (fun c32 => ?_) (fun c32 => ?_)
              · skip
                have h := h.1 c32
                refine z_iinc (lv' := [(4, .int (iI (x9 + 1))), (0, .ref (b + 60)), (1, .ref (b + a0)), (2, .ref (b + a1)), (3, .int (iI x19)), (5, .int (iI x20))]) hx hb dX5_listCheapest_86 hl (k := 4) rfl (by decide) rfl (fun ls hl => ?_)
                refine lv_goto (tgt := 14) hx hb dX5_listCheapest_89 (by decide) ?_
                obtain ⟨n33, h34, h⟩ := h
                exact i17 n33 h34 x19 (x9 + 1) M21 _ _ _ h hS hS0 (lv_sub hl [1, 2, 3, 4, 0] rfl)
              · skip
                have h := h.2 c32
                refine lv_aload_n hx hb dX5_listCheapest_50 rfl (lv_at hl 0 rfl) ?_
                refine w_getr (j2 := 75) hx hb hts (z_memU u5) hown hK.1 hS f5_6 (by decide) (zkd_of (rfl : zcd wC 60 = 19) rfl) (zrf_of (rfl : zcd wC 60 = 19) rfl) (Or.inl (hts _ (z_mem k151))) dX5_listCheapest_51 ?_
                refine lv_aload_n hx hb dX5_listCheapest_54 rfl (lv_at hl 2 rfl) ?_
                refine lv_iload_n hx hb dX5_listCheapest_55 rfl (lv_at hl 3 rfl) ?_
                obtain ⟨o35, h⟩ := h
                refine w_iald (n := (zln wC a1)) (i := (sI x19)) hx hb hK.1 (t0 := 0) rfl hS lt_a1 kd_a1 rfl rfl o35.1 o35.2 ln_a1 dX5_listCheapest_56 ?_
                refine lv_aload_n hx hb dX5_listCheapest_57 rfl (lv_at hl 0 rfl) ?_
                refine w_getr (j2 := 75) hx hb hts (z_memU u5) hown hK.1 hS f5_6 (by decide) (zkd_of (rfl : zcd wC 60 = 19) rfl) (zrf_of (rfl : zcd wC 60 = 19) rfl) (Or.inl (hts _ (z_mem k151))) dX5_listCheapest_58 ?_
                refine lv_aload_n hx hb dX5_listCheapest_61 rfl (lv_at hl 2 rfl) ?_
                refine lv_iload_n hx hb dX5_listCheapest_62 rfl (lv_at hl 3 rfl) ?_
                obtain ⟨o36, h⟩ := h
                refine w_iald (n := (zln wC a1)) (i := (sI x19)) hx hb hK.1 (t0 := 0) rfl hS lt_a1 kd_a1 rfl rfl o36.1 o36.2 ln_a1 dX5_listCheapest_63 ?_
                obtain ⟨o37, h⟩ := h
                refine w_iald (n := 64) (i := (sI (M21 a1 (sI x19).toNat))) hx hb hK.1 (t0 := 0) rfl hS (by decide) (zkd_of (rfl : zcd wC 75 = 27) rfl) (zln_of (rfl : zcd wC 75 = 27) rfl) rfl o37.1 o37.2 (by decide) dX5_listCheapest_64 ?_
                refine lv_aload_n hx hb dX5_listCheapest_65 rfl (lv_at hl 1 rfl) ?_
                refine lv_iload hx hb dX5_listCheapest_66 (lv_at hl 4 rfl) ?_
                refine lv_iload hx hb dX5_listCheapest_68 (lv_at hl 5 rfl) ?_
                refine w_calli (va_runS (As := [.ref (b + a0), .int (iI x9), .int (iI x20)]) (rest := [.int (iI (M21 75 (sI (M21 a1 (sI x19).toNat)).toNat)), .int (iI (M21 a1 (sI x19).toNat)), .ref (b + 75)]) ⟨hx, hb, hml, hown, hts⟩ (cC_Planner_cost l D dA b M21 a0 x9 x20 lt_a0 cd_a0 _ h) (va_cwS 3 hts (z_gS k640 k641 k8 k642) rfl rfl rfl dm_X5_cost.2 ⟨Nat.le_of_ble_eq_true rfl, Nat.le_of_ble_eq_true rfl⟩) ⟨wPre_blind, w_pre hS hK⟩ rfl rfl hl.1 rfl (lv_room (Nat.le_of_ble_eq_true rfl)) dX5_listCheapest_70 ⟨Nat.le_refl _, Nat.le_refl _⟩) hS0 (fun z39 M38 H locs r40 h hS hS0 => ?_)
                obtain ⟨e41, h⟩ := h
                rw [e41] at hS
                refine w_mmin hx hb (hml.trans hl.1.symm) hown (hts _ (z_mem k646)) (hts _ (z_mem k320)) (hts _ (z_mem k15)) (hts _ (z_mem k321)) (by exact Nat.le_of_ble_eq_true rfl) (by exact Nat.le_of_ble_eq_true rfl) (by exact Nat.le_refl _) (by exact Nat.le_refl _) rfl (sI_of r40) dX5_listCheapest_73 ?_
                obtain ⟨o42, h⟩ := h
                refine w_iast (z := (min (sI (M21 75 (sI (M21 a1 (sI x19).toNat)).toNat)) z39)) (n := 64) (i := (sI (M21 a1 (sI x19).toNat))) hx hb hK.1 (t0 := 0) rfl hS hS0 (by decide) (zkd_of (rfl : zcd wC 75 = 27) rfl) (zln_of (rfl : zcd wC 75 = 27) rfl) rfl o42.1 o42.2 (by decide) dX5_listCheapest_76 (fun H locs hS hS0 => ?_)
                obtain ⟨M43, e44⟩ : ∃ M43 : zM, M43 = zup M21 75 (sI (M21 a1 (sI x19).toNat)).toNat (min (sI (M21 75 (sI (M21 a1 (sI x19).toNat)).toNat)) z39) := ⟨_, rfl⟩
                rw [← e44] at hS
                have h := h M43 e44
                refine z_iinc (lv' := [(3, .int (iI (x19 + 1))), (0, .ref (b + 60)), (1, .ref (b + a0)), (2, .ref (b + a1)), (4, .int (iI x9)), (5, .int (iI x20))]) hx hb dX5_listCheapest_77 hl (k := 3) rfl (by decide) rfl (fun ls hl => ?_)
                refine z_iinc (lv' := [(5, .int (iI (x20 + 1))), (3, .int (iI (x19 + 1))), (0, .ref (b + 60)), (1, .ref (b + a0)), (2, .ref (b + a1)), (4, .int (iI x9))]) hx hb dX5_listCheapest_80 hl (k := 5) rfl (by decide) rfl (fun ls hl => ?_)
                refine lv_goto (tgt := 29) hx hb dX5_listCheapest_83 (by decide) ?_
                obtain ⟨n45, h46, h⟩ := h
                exact i28 n45 h46 (x19 + 1) (x20 + 1) M43 _ _ _ h hS hS0 (lv_sub hl [2, 3, 4, 1, 5, 0] rfl)
        exact L26 n23 x8 0 M10 _ _ _ h24 hS hS0 (lv_sub hl [1, 2, 3, 4, 5, 0] rfl)
  exact L15 n12 0 0 M7 _ _ _ h13 hS hS0 (lv_sub hl [2, 3, 4, 1, 0] rfl)

set_option maxRecDepth 100000 in
def wC_Planner_addCosts (a0 : Nat) (a1 : Nat) (M : zM) (Q : zM → Prop) : Prop := wL1 (fun K10 x1 M2 => ((shlI 1 (M 60 2)) ≤ (sI x1) → Q M2) ∧ ((sI x1) < (shlI 1 (M 60 2)) → pL2 (fun K23 x11 x12 => ((shlI 1 (M 60 2)) ≤ (sI x12) → ((0 ≤ (sI x1) ∧ (sI x1) < (zln wC a1)) ∧ (∀ M22 : zM, M22 = zup M2 a1 (sI x1).toNat x11 → K10 (x1 + 1) M22))) ∧ ((sI x12) < (shlI 1 (M 60 2)) → ((0 ≤ (sI x12) ∧ (sI x12) < 64) ∧ ((0 ≤ (andI x1 (xorI x12 (-1))) ∧ (andI x1 (xorI x12 (-1))) < (zln wC a0)) ∧ (∀ t28 : Int, t28 = (min (sI x11) (sI ((M2 75 (sI x12).toNat) + (M2 a0 (andI x1 (xorI x12 (-1))).toNat)))) → K23 t28 (x12 + 1)))))) 1000000 0)) 0 M
set_option maxHeartbeats 4000000 in
set_option maxRecDepth 100000 in
theorem cC_Planner_addCosts (l : Launch) (D : va_G) (dA : Nat → ClassId) (b : Nat) (M : zM) (a0 : Nat) (a1 : Nat) (lt_a0 : a0 < nC) (kd_a0 : zkd wC a0 = 100) (ln_a0 : zln wC a0 < 2147483648) (lt_a1 : a1 < nC) (kd_a1 : zkd wC a1 = 100) (ln_a1 : zln wC a1 < 2147483648) (Q : zM → Prop) (h : wC_Planner_addCosts a0 a1 M Q) : Met l yX5_addCosts (.code yX5_addCosts cX5_addCosts 7 none :: zt) (z_rm 1) (va_Pc [.ref (b + 60), .ref (b + a0), .ref (b + a1)] (wPre D dA vwCl (z_tys dA) wC nC b M)) (va_Qv (wQv Q) (zB D dA vwCl wC nC b) (zA nC b)) 0 0 (zA nC b) := by
  unfold wC_Planner_addCosts at h
  refine Met.ofW (cc := cX5_addCosts) (maxL := 7) (ret := none) (by decide) rfl ?_
  intro p e s m args below meth c s₁ B hml hv
  obtain ⟨hargs, hS, hK⟩ := hv
  have hx := B.exec
  have hb := B.bytes
  have hr := B.returns
  have hts := atoms_spec (ws := .code yX5_addCosts cX5_addCosts 7 none :: zt) B.pre
  have hown : s.vm.findClass RX5 = some m.cls := findClass_of_methodNamed B.named
  have hlocks := B.notSynchronized
  have hS0 : va_S (zA nC b) s.heap s.heap [] := va_S.rf
  have hl := lv_entry ([.ref (b + 60), .ref (b + a0), .ref (b + a1)]) (n := 7) (Nat.le_of_ble_eq_true rfl)
  have hent : entryFrame m args 7 = F0 m 0 ((lg_sl ([.ref (b + 60), .ref (b + a0), .ref (b + a1)]) ++ List.replicate (7 - (lg_sl ([.ref (b + 60), .ref (b + a0), .ref (b + a1)])).length) Slot.unset).toArray) [] := by rw [hargs]; exact lg_entry_eq m ([.ref (b + 60), .ref (b + a0), .ref (b + a1)]) 7
  rw [hent]
  generalize (lg_sl ([.ref (b + 60), .ref (b + a0), .ref (b + a1)]) ++ List.replicate (7 - (lg_sl ([.ref (b + 60), .ref (b + a0), .ref (b + a1)])).length) Slot.unset).toArray = ls at hl ⊢
  have hl : lv_has ls 7 [(0, .ref (b + 60)), (1, .ref (b + a0)), (2, .ref (b + a1))] := hl
  refine z_iconst hx hb dX5_addCosts_0 ?_
  refine lv_aload_n hx hb dX5_addCosts_1 rfl (lv_at hl 0 rfl) ?_
  refine w_geti hx hb hts (z_memU u5) hown hK.1 hS f5_2 (by decide) (zkd_of (rfl : zcd wC 60 = 19) rfl) (Or.inl (hts _ (z_mem k145))) dX5_addCosts_2 ?_
  refine w_ishl hx hb dX5_addCosts_5 ?_
  refine lv_istore_n (lv' := [(3, .int (iI (shlI 1 (M 60 2)))), (0, .ref (b + 60)), (1, .ref (b + a0)), (2, .ref (b + a1))]) hx hb dX5_addCosts_6 rfl hl (by decide) rfl (fun ls hl => ?_)
  refine z_iconst hx hb dX5_addCosts_7 ?_
  refine lv_istore (lv' := [(4, .int (iI 0)), (3, .int (iI (shlI 1 (M 60 2)))), (0, .ref (b + 60)), (1, .ref (b + a0)), (2, .ref (b + a1))]) hx hb dX5_addCosts_8 hl (by decide) rfl (fun ls hl => ?_)
  obtain ⟨I3, ⟨n4, h5⟩, h6⟩ := h
  have L7 : ∀ (n8 : Nat) (x1 : Int) (M2 : zM) (H : Heap) (locs : List Loc) (ls : Array Slot), I3 n8 x1 M2 → zR D dA vwCl wC nC b M2 H → va_S (zA nC b) s.heap H locs → lv_has ls 7 [(0, .ref (b + 60)), (1, .ref (b + a0)), (2, .ref (b + a1)), (3, .int (iI (shlI 1 (M 60 2)))), (4, .int (iI x1))] → W p l e (headSpec (.code yX5_addCosts cX5_addCosts 7 none :: zt) (z_rm 1)).room s m args below meth c H locs 0 0 (MQ below (va_Qv (wQv Q) (zB D dA vwCl wC nC b) (zA nC b)) args s 0 0 (zA nC b)) (F0 m 10 ls []) := by
    intro n8
    induction n8 using Nat.strongRecOn with
    | ind n8 i9 =>
      intro x1 M2 H locs ls h hS hS0 hl
      have h := h6 n8 x1 M2 h
      refine lv_iload hx hb dX5_addCosts_10 (lv_at hl 4 rfl) ?_
      refine lv_iload_n hx hb dX5_addCosts_12 rfl (lv_at hl 3 rfl) ?_
      refine w_icmp_ge (tgt := 71) hx hb rfl (sI_of (shlI_R _ _)) dX5_addCosts_13 (by decide) (fun c10 => ?_) (fun c10 => ?_)
      · skip
        have h := h.1 c10
        exact w_vret hx hb hr hlocks hS hS0 h dX5_addCosts_71
      · skip
        have h := h.2 c10
        refine z_ldc (n := 1000000) hx hb hown (hts _ (z_mem k625)) (by decide) dX5_addCosts_16 ?_
        refine lv_istore (lv' := [(5, .int (iI 1000000)), (0, .ref (b + 60)), (1, .ref (b + a0)), (2, .ref (b + a1)), (3, .int (iI (shlI 1 (M 60 2)))), (4, .int (iI x1))]) hx hb dX5_addCosts_18 hl (by decide) rfl (fun ls hl => ?_)
        refine z_iconst hx hb dX5_addCosts_20 ?_
        refine lv_istore (lv' := [(6, .int (iI 0)), (5, .int (iI 1000000)), (0, .ref (b + 60)), (1, .ref (b + a0)), (2, .ref (b + a1)), (3, .int (iI (shlI 1 (M 60 2)))), (4, .int (iI x1))]) hx hb dX5_addCosts_21 hl (by decide) rfl (fun ls hl => ?_)
        obtain ⟨I13, ⟨n14, h15⟩, h16⟩ := h
        have L17 : ∀ (n18 : Nat) (x11 x12 : Int) (H : Heap) (locs : List Loc) (ls : Array Slot), I13 n18 x11 x12 → zR D dA vwCl wC nC b M2 H → va_S (zA nC b) s.heap H locs → lv_has ls 7 [(0, .ref (b + 60)), (1, .ref (b + a0)), (2, .ref (b + a1)), (3, .int (iI (shlI 1 (M 60 2)))), (4, .int (iI x1)), (5, .int (iI x11)), (6, .int (iI x12))] → W p l e (headSpec (.code yX5_addCosts cX5_addCosts 7 none :: zt) (z_rm 1)).room s m args below meth c H locs 0 0 (MQ below (va_Qv (wQv Q) (zB D dA vwCl wC nC b) (zA nC b)) args s 0 0 (zA nC b)) (F0 m 23 ls []) := by
          intro n18
          induction n18 using Nat.strongRecOn with
          | ind n18 i19 =>
            intro x11 x12 H locs ls h hS hS0 hl
            have h := h16 n18 x11 x12 h
            refine lv_iload hx hb dX5_addCosts_23 (lv_at hl 6 rfl) ?_
            refine lv_iload_n hx hb dX5_addCosts_25 rfl (lv_at hl 3 rfl) ?_
            refine w_icmp_ge (tgt := 59) hx hb rfl (sI_of (shlI_R _ _)) dX5_addCosts_26 (by decide) (fun c20 => ?_) (fun c20 => ?_)
            · skip
              have h := h.1 c20
              refine lv_aload_n hx hb dX5_addCosts_59 rfl (lv_at hl 2 rfl) ?_
              refine lv_iload hx hb dX5_addCosts_60 (lv_at hl 4 rfl) ?_
              refine lv_iload hx hb dX5_addCosts_62 (lv_at hl 5 rfl) ?_
              obtain ⟨o21, h⟩ := h
              refine w_iast (z := x11) (n := (zln wC a1)) (i := (sI x1)) hx hb hK.1 (t0 := 0) rfl hS hS0 lt_a1 kd_a1 rfl rfl o21.1 o21.2 ln_a1 dX5_addCosts_64 (fun H locs hS hS0 => ?_)
              obtain ⟨M22, e23⟩ : ∃ M22 : zM, M22 = zup M2 a1 (sI x1).toNat x11 := ⟨_, rfl⟩
              rw [← e23] at hS
              have h := h M22 e23
              refine z_iinc (lv' := [(4, .int (iI (x1 + 1))), (0, .ref (b + 60)), (1, .ref (b + a0)), (2, .ref (b + a1)), (3, .int (iI (shlI 1 (M 60 2)))), (5, .int (iI x11)), (6, .int (iI x12))]) hx hb dX5_addCosts_65 hl (k := 4) rfl (by decide) rfl (fun ls hl => ?_)
              refine lv_goto (tgt := 10) hx hb dX5_addCosts_68 (by decide) ?_
              obtain ⟨n24, h25, h⟩ := h
              exact i9 n24 h25 (x1 + 1) M22 _ _ _ h hS hS0 (lv_sub hl [1, 2, 3, 4, 0] rfl)
            · skip
              have h := h.2 c20
              refine lv_iload hx hb dX5_addCosts_29 (lv_at hl 5 rfl) ?_
              refine lv_aload_n hx hb dX5_addCosts_31 rfl (lv_at hl 0 rfl) ?_
              refine w_getr (j2 := 75) hx hb hts (z_memU u5) hown hK.1 hS f5_6 (by decide) (zkd_of (rfl : zcd wC 60 = 19) rfl) (zrf_of (rfl : zcd wC 60 = 19) rfl) (Or.inl (hts _ (z_mem k151))) dX5_addCosts_32 ?_
              refine lv_iload hx hb dX5_addCosts_35 (lv_at hl 6 rfl) ?_
              obtain ⟨o26, h⟩ := h
              refine w_iald (n := 64) (i := (sI x12)) hx hb hK.1 (t0 := 0) rfl hS (by decide) (zkd_of (rfl : zcd wC 75 = 27) rfl) (zln_of (rfl : zcd wC 75 = 27) rfl) rfl o26.1 o26.2 (by decide) dX5_addCosts_37 ?_
              refine lv_aload_n hx hb dX5_addCosts_38 rfl (lv_at hl 1 rfl) ?_
              refine lv_iload hx hb dX5_addCosts_39 (lv_at hl 4 rfl) ?_
              refine lv_iload hx hb dX5_addCosts_41 (lv_at hl 6 rfl) ?_
              refine z_iconst hx hb dX5_addCosts_43 ?_
              refine w_ixor hx hb dX5_addCosts_44 ?_
              refine w_iand hx hb dX5_addCosts_45 ?_
              obtain ⟨o27, h⟩ := h
              refine w_iald (n := (zln wC a0)) (i := (andI x1 (xorI x12 (-1)))) hx hb hK.1 (t0 := 0) rfl hS lt_a0 kd_a0 rfl (sI_of (andI_R _ _)) o27.1 o27.2 ln_a0 dX5_addCosts_46 ?_
              refine z_iadd hx hb dX5_addCosts_47 ?_
              refine w_mmin hx hb (hml.trans hl.1.symm) hown (hts _ (z_mem k646)) (hts _ (z_mem k320)) (hts _ (z_mem k15)) (hts _ (z_mem k321)) (by exact Nat.le_of_ble_eq_true rfl) (by exact Nat.le_of_ble_eq_true rfl) (by exact Nat.le_refl _) (by exact Nat.le_refl _) rfl rfl dX5_addCosts_48 ?_
              obtain ⟨t28, e29⟩ : ∃ t28 : Int, t28 = (min (sI x11) (sI ((M2 75 (sI x12).toNat) + (M2 a0 (andI x1 (xorI x12 (-1))).toNat)))) := ⟨_, rfl⟩
              refine z_top (y := t28) e29.symm ?_
              have h := h t28 e29
              refine lv_istore (lv' := [(5, .int (iI t28)), (0, .ref (b + 60)), (1, .ref (b + a0)), (2, .ref (b + a1)), (3, .int (iI (shlI 1 (M 60 2)))), (4, .int (iI x1)), (6, .int (iI x12))]) hx hb dX5_addCosts_51 hl (by decide) rfl (fun ls hl => ?_)
              refine z_iinc (lv' := [(6, .int (iI (x12 + 1))), (5, .int (iI t28)), (0, .ref (b + 60)), (1, .ref (b + a0)), (2, .ref (b + a1)), (3, .int (iI (shlI 1 (M 60 2)))), (4, .int (iI x1))]) hx hb dX5_addCosts_53 hl (k := 6) rfl (by decide) rfl (fun ls hl => ?_)
              refine lv_goto (tgt := 23) hx hb dX5_addCosts_56 (by decide) ?_
              obtain ⟨n30, h31, h⟩ := h
              exact i19 n30 h31 t28 (x12 + 1) _ _ _ h hS hS0 (lv_sub hl [2, 3, 4, 5, 6, 1, 0] rfl)
        exact L17 n14 1000000 0 _ _ _ h15 hS hS0 (lv_sub hl [2, 3, 4, 5, 6, 1, 0] rfl)
  exact L7 n4 0 M _ _ _ h5 hS hS0 (lv_sub hl [2, 3, 4, 1, 0] rfl)
end zz10_w07
section zz10_w08
/-! the W layer, 8 -/
theorem q10w08_0_0 : (cX11_make.data.toList.drop 0).take 22 = [42, 180, 0, 40, 42, 180, 0, 26, 182, 0, 215, 60, 27, 2, 159, 0, 14, 42, 180, 0, 40, 42] := by decide +kernel
theorem q10w08_0_22 : (cX11_make.data.toList.drop 22).take 8 = [180, 0, 26, 182, 0, 223, 27, 172] := by decide +kernel
theorem dX11_make_0 : decode cX11_make 0 = .ok (.aload_n 0, 1) := dz_42 (dz_at q10w08_0_0 0)
theorem dX11_make_1 : decode cX11_make 1 = .ok (.getfield 40, 3) := dz_180 (dz_at q10w08_0_0 1) rfl
theorem dX11_make_11 : decode cX11_make 11 = .ok (.istore_n 1, 1) := dz_60 (dz_at q10w08_0_0 11)
theorem dX11_make_12 : decode cX11_make 12 = .ok (.iload_n 1, 1) := dz_27 (dz_at q10w08_0_0 12)
theorem dX11_make_13 : decode cX11_make 13 = .ok (.iconst (-1), 1) := dz_2 (dz_at q10w08_0_0 13)
theorem dX11_make_14 : decode cX11_make 14 = .ok (.if_icmp .eq 14, 3) := dz_159 (dz_at q10w08_0_0 14) (by decide +kernel)
theorem dX11_make_17 : decode cX11_make 17 = .ok (.aload_n 0, 1) := dz_42 (dz_at q10w08_0_0 17)
theorem dX11_make_18 : decode cX11_make 18 = .ok (.getfield 40, 3) := dz_180 (dz_at q10w08_0_0 18) rfl
theorem dX11_make_21 : decode cX11_make 21 = .ok (.aload_n 0, 1) := dz_42 (dz_at q10w08_0_0 21)
theorem dX11_make_22 : decode cX11_make 22 = .ok (.getfield 26, 3) := dz_180 (dz_at q10w08_0_22 0) rfl
theorem dX11_make_25 : decode cX11_make 25 = .ok (.invokevirtual 223, 3) := dz_182 (dz_at q10w08_0_22 3) rfl
theorem dX11_make_28 : decode cX11_make 28 = .ok (.iload_n 1, 1) := dz_27 (dz_at q10w08_0_22 6)
theorem dX11_make_29 : decode cX11_make 29 = .ok (.ireturn, 1) := dz_172 (dz_at q10w08_0_22 7)
theorem dX11_make_4 : decode cX11_make 4 = .ok (.aload_n 0, 1) := dz_42 (dz_at q10w08_0_0 4)
theorem dX11_make_5 : decode cX11_make 5 = .ok (.getfield 26, 3) := dz_180 (dz_at q10w08_0_0 5) rfl
theorem dX11_make_8 : decode cX11_make 8 = .ok (.invokevirtual 215, 3) := dz_182 (dz_at q10w08_0_0 8) rfl
theorem q10w08_1_0 : (cX11_plan.data.toList.drop 0).take 22 = [42, 180, 0, 40, 42, 180, 0, 26, 182, 0, 215, 60, 27, 2, 159, 0, 23, 42, 42, 180, 0, 40] := by decide +kernel
theorem q10w08_1_22 : (cX11_plan.data.toList.drop 22).take 17 = [180, 0, 217, 5, 42, 180, 0, 26, 180, 0, 151, 104, 182, 0, 220, 27, 172] := by decide +kernel
theorem dX11_plan_0 : decode cX11_plan 0 = .ok (.aload_n 0, 1) := dz_42 (dz_at q10w08_1_0 0)
theorem dX11_plan_1 : decode cX11_plan 1 = .ok (.getfield 40, 3) := dz_180 (dz_at q10w08_1_0 1) rfl
theorem dX11_plan_11 : decode cX11_plan 11 = .ok (.istore_n 1, 1) := dz_60 (dz_at q10w08_1_0 11)
theorem dX11_plan_12 : decode cX11_plan 12 = .ok (.iload_n 1, 1) := dz_27 (dz_at q10w08_1_0 12)
theorem dX11_plan_13 : decode cX11_plan 13 = .ok (.iconst (-1), 1) := dz_2 (dz_at q10w08_1_0 13)
theorem dX11_plan_14 : decode cX11_plan 14 = .ok (.if_icmp .eq 23, 3) := dz_159 (dz_at q10w08_1_0 14) (by decide +kernel)
theorem dX11_plan_17 : decode cX11_plan 17 = .ok (.aload_n 0, 1) := dz_42 (dz_at q10w08_1_0 17)
theorem dX11_plan_18 : decode cX11_plan 18 = .ok (.aload_n 0, 1) := dz_42 (dz_at q10w08_1_0 18)
theorem dX11_plan_19 : decode cX11_plan 19 = .ok (.getfield 40, 3) := dz_180 (dz_at q10w08_1_0 19) rfl
theorem dX11_plan_22 : decode cX11_plan 22 = .ok (.getfield 217, 3) := dz_180 (dz_at q10w08_1_22 0) rfl
theorem dX11_plan_25 : decode cX11_plan 25 = .ok (.iconst 2, 1) := dz_5 (dz_at q10w08_1_22 3)
theorem dX11_plan_26 : decode cX11_plan 26 = .ok (.aload_n 0, 1) := dz_42 (dz_at q10w08_1_22 4)
theorem dX11_plan_27 : decode cX11_plan 27 = .ok (.getfield 26, 3) := dz_180 (dz_at q10w08_1_22 5) rfl
theorem dX11_plan_30 : decode cX11_plan 30 = .ok (.getfield 151, 3) := dz_180 (dz_at q10w08_1_22 8) rfl
theorem dX11_plan_33 : decode cX11_plan 33 = .ok (.imul, 1) := dz_104 (dz_at q10w08_1_22 11)
theorem dX11_plan_34 : decode cX11_plan 34 = .ok (.invokevirtual 220, 3) := dz_182 (dz_at q10w08_1_22 12) rfl
theorem dX11_plan_37 : decode cX11_plan 37 = .ok (.iload_n 1, 1) := dz_27 (dz_at q10w08_1_22 15)
theorem dX11_plan_38 : decode cX11_plan 38 = .ok (.ireturn, 1) := dz_172 (dz_at q10w08_1_22 16)
theorem dX11_plan_4 : decode cX11_plan 4 = .ok (.aload_n 0, 1) := dz_42 (dz_at q10w08_1_0 4)
theorem dX11_plan_5 : decode cX11_plan 5 = .ok (.getfield 26, 3) := dz_180 (dz_at q10w08_1_0 5) rfl
theorem dX11_plan_8 : decode cX11_plan 8 = .ok (.invokevirtual 215, 3) := dz_182 (dz_at q10w08_1_0 8) rfl
theorem q10w08_2_0 : (cX11_tell.data.toList.drop 0).take 24 = [42, 28, 43, 190, 42, 180, 0, 72, 190, 184, 1, 32, 184, 1, 32, 181, 0, 76, 43, 3, 42, 180, 0, 72] := by decide +kernel
theorem q10w08_2_24 : (cX11_tell.data.toList.drop 24).take 9 = [3, 42, 180, 0, 76, 184, 1, 37, 177] := by decide +kernel
theorem dX11_tell_0 : decode cX11_tell 0 = .ok (.aload_n 0, 1) := dz_42 (dz_at q10w08_2_0 0)
theorem dX11_tell_1 : decode cX11_tell 1 = .ok (.iload_n 2, 1) := dz_28 (dz_at q10w08_2_0 1)
theorem dX11_tell_12 : decode cX11_tell 12 = .ok (.invokestatic 288, 3) := dz_184 (dz_at q10w08_2_0 12) rfl
theorem dX11_tell_15 : decode cX11_tell 15 = .ok (.putfield 76, 3) := dz_181 (dz_at q10w08_2_0 15) rfl
theorem dX11_tell_18 : decode cX11_tell 18 = .ok (.aload_n 1, 1) := dz_43 (dz_at q10w08_2_0 18)
theorem dX11_tell_19 : decode cX11_tell 19 = .ok (.iconst 0, 1) := dz_3 (dz_at q10w08_2_0 19)
theorem dX11_tell_2 : decode cX11_tell 2 = .ok (.aload_n 1, 1) := dz_43 (dz_at q10w08_2_0 2)
theorem dX11_tell_20 : decode cX11_tell 20 = .ok (.aload_n 0, 1) := dz_42 (dz_at q10w08_2_0 20)
theorem dX11_tell_21 : decode cX11_tell 21 = .ok (.getfield 72, 3) := dz_180 (dz_at q10w08_2_0 21) rfl
theorem dX11_tell_24 : decode cX11_tell 24 = .ok (.iconst 0, 1) := dz_3 (dz_at q10w08_2_24 0)
theorem dX11_tell_25 : decode cX11_tell 25 = .ok (.aload_n 0, 1) := dz_42 (dz_at q10w08_2_24 1)
theorem dX11_tell_26 : decode cX11_tell 26 = .ok (.getfield 76, 3) := dz_180 (dz_at q10w08_2_24 2) rfl
theorem dX11_tell_29 : decode cX11_tell 29 = .ok (.invokestatic 293, 3) := dz_184 (dz_at q10w08_2_24 5) rfl
theorem dX11_tell_3 : decode cX11_tell 3 = .ok (.arraylength, 1) := dz_190 (dz_at q10w08_2_0 3)
theorem dX11_tell_32 : decode cX11_tell 32 = .ok (.return_, 1) := dz_177 (dz_at q10w08_2_24 8)
theorem dX11_tell_4 : decode cX11_tell 4 = .ok (.aload_n 0, 1) := dz_42 (dz_at q10w08_2_0 4)
theorem dX11_tell_5 : decode cX11_tell 5 = .ok (.getfield 72, 3) := dz_180 (dz_at q10w08_2_0 5) rfl
theorem dX11_tell_8 : decode cX11_tell 8 = .ok (.arraylength, 1) := dz_190 (dz_at q10w08_2_0 8)
theorem dX11_tell_9 : decode cX11_tell 9 = .ok (.invokestatic 288, 3) := dz_184 (dz_at q10w08_2_0 9) rfl
theorem q10w08_3_0 : (cX5_carryOut.data.toList.drop 0).take 24 = [3, 61, 28, 7, 162, 0, 45, 43, 28, 182, 0, 56, 78, 45, 198, 0, 29, 45, 42, 180, 0, 22, 5, 28] := by decide +kernel
theorem q10w08_3_24 : (cX5_carryOut.data.toList.drop 24).take 22 = [104, 46, 182, 0, 125, 45, 42, 180, 0, 22, 5, 28, 104, 4, 96, 46, 181, 0, 118, 132, 2, 1] := by decide +kernel
theorem q10w08_3_46 : (cX5_carryOut.data.toList.drop 46).take 4 = [167, 255, 212, 177] := by decide +kernel
theorem dX5_carryOut_0 : decode cX5_carryOut 0 = .ok (.iconst 0, 1) := dz_3 (dz_at q10w08_3_0 0)
theorem dX5_carryOut_1 : decode cX5_carryOut 1 = .ok (.istore_n 2, 1) := dz_61 (dz_at q10w08_3_0 1)
theorem dX5_carryOut_12 : decode cX5_carryOut 12 = .ok (.astore_n 3, 1) := dz_78 (dz_at q10w08_3_0 12)
theorem dX5_carryOut_13 : decode cX5_carryOut 13 = .ok (.aload_n 3, 1) := dz_45 (dz_at q10w08_3_0 13)
theorem dX5_carryOut_14 : decode cX5_carryOut 14 = .ok (.ifnull 29, 3) := dz_198 (dz_at q10w08_3_0 14) (by decide +kernel)
theorem dX5_carryOut_17 : decode cX5_carryOut 17 = .ok (.aload_n 3, 1) := dz_45 (dz_at q10w08_3_0 17)
theorem dX5_carryOut_18 : decode cX5_carryOut 18 = .ok (.aload_n 0, 1) := dz_42 (dz_at q10w08_3_0 18)
theorem dX5_carryOut_19 : decode cX5_carryOut 19 = .ok (.getfield 22, 3) := dz_180 (dz_at q10w08_3_0 19) rfl
theorem dX5_carryOut_2 : decode cX5_carryOut 2 = .ok (.iload_n 2, 1) := dz_28 (dz_at q10w08_3_0 2)
theorem dX5_carryOut_22 : decode cX5_carryOut 22 = .ok (.iconst 2, 1) := dz_5 (dz_at q10w08_3_0 22)
theorem dX5_carryOut_23 : decode cX5_carryOut 23 = .ok (.iload_n 2, 1) := dz_28 (dz_at q10w08_3_0 23)
theorem dX5_carryOut_24 : decode cX5_carryOut 24 = .ok (.imul, 1) := dz_104 (dz_at q10w08_3_24 0)
theorem dX5_carryOut_25 : decode cX5_carryOut 25 = .ok (.iaload, 1) := dz_46 (dz_at q10w08_3_24 1)
theorem dX5_carryOut_26 : decode cX5_carryOut 26 = .ok (.invokevirtual 125, 3) := dz_182 (dz_at q10w08_3_24 2) rfl
theorem dX5_carryOut_29 : decode cX5_carryOut 29 = .ok (.aload_n 3, 1) := dz_45 (dz_at q10w08_3_24 5)
theorem dX5_carryOut_3 : decode cX5_carryOut 3 = .ok (.iconst 4, 1) := dz_7 (dz_at q10w08_3_0 3)
theorem dX5_carryOut_30 : decode cX5_carryOut 30 = .ok (.aload_n 0, 1) := dz_42 (dz_at q10w08_3_24 6)
theorem dX5_carryOut_31 : decode cX5_carryOut 31 = .ok (.getfield 22, 3) := dz_180 (dz_at q10w08_3_24 7) rfl
theorem dX5_carryOut_34 : decode cX5_carryOut 34 = .ok (.iconst 2, 1) := dz_5 (dz_at q10w08_3_24 10)
theorem dX5_carryOut_35 : decode cX5_carryOut 35 = .ok (.iload_n 2, 1) := dz_28 (dz_at q10w08_3_24 11)
theorem dX5_carryOut_36 : decode cX5_carryOut 36 = .ok (.imul, 1) := dz_104 (dz_at q10w08_3_24 12)
theorem dX5_carryOut_37 : decode cX5_carryOut 37 = .ok (.iconst 1, 1) := dz_4 (dz_at q10w08_3_24 13)
theorem dX5_carryOut_38 : decode cX5_carryOut 38 = .ok (.iadd, 1) := dz_96 (dz_at q10w08_3_24 14)
theorem dX5_carryOut_39 : decode cX5_carryOut 39 = .ok (.iaload, 1) := dz_46 (dz_at q10w08_3_24 15)
theorem dX5_carryOut_4 : decode cX5_carryOut 4 = .ok (.if_icmp .ge 45, 3) := dz_162 (dz_at q10w08_3_0 4) (by decide +kernel)
theorem dX5_carryOut_40 : decode cX5_carryOut 40 = .ok (.putfield 118, 3) := dz_181 (dz_at q10w08_3_24 16) rfl
theorem dX5_carryOut_43 : decode cX5_carryOut 43 = .ok (.iinc 2 1, 3) := dz_132 (dz_at q10w08_3_24 19) (by decide +kernel)
theorem dX5_carryOut_46 : decode cX5_carryOut 46 = .ok (.goto (-44), 3) := dz_167 (dz_at q10w08_3_46 0) (by decide +kernel)
theorem dX5_carryOut_49 : decode cX5_carryOut 49 = .ok (.return_, 1) := dz_177 (dz_at q10w08_3_46 3)
theorem dX5_carryOut_7 : decode cX5_carryOut 7 = .ok (.aload_n 1, 1) := dz_43 (dz_at q10w08_3_0 7)
theorem dX5_carryOut_8 : decode cX5_carryOut 8 = .ok (.iload_n 2, 1) := dz_28 (dz_at q10w08_3_0 8)
theorem dX5_carryOut_9 : decode cX5_carryOut 9 = .ok (.invokevirtual 56, 3) := dz_182 (dz_at q10w08_3_0 9) rfl
theorem q10w08_4_0 : (cX5_choose.data.toList.drop 0).take 24 = [43, 199, 0, 5, 29, 172, 3, 54, 4, 3, 54, 5, 21, 5, 43, 180, 0, 85, 180, 0, 89, 162, 0, 115] := by decide +kernel
theorem q10w08_4_24 : (cX5_choose.data.toList.drop 24).take 23 = [3, 54, 6, 21, 6, 43, 180, 0, 85, 180, 0, 89, 21, 5, 100, 162, 0, 91, 21, 4, 17, 1, 44] := by decide +kernel
theorem q10w08_4_47 : (cX5_choose.data.toList.drop 47).take 24 = [162, 0, 83, 29, 42, 180, 0, 27, 28, 50, 21, 4, 46, 2, 130, 126, 54, 7, 132, 4, 1, 43, 21, 5] := by decide +kernel
theorem q10w08_4_71 : (cX5_choose.data.toList.drop 71).take 24 = [21, 6, 184, 0, 110, 42, 180, 0, 30, 28, 4, 96, 50, 21, 7, 46, 96, 42, 180, 0, 30, 28, 50, 29] := by decide +kernel
theorem q10w08_4_95 : (cX5_choose.data.toList.drop 95).take 23 = [46, 160, 0, 28, 42, 180, 0, 22, 5, 28, 104, 21, 5, 79, 42, 180, 0, 22, 5, 28, 104, 4, 96] := by decide +kernel
theorem q10w08_4_118 : (cX5_choose.data.toList.drop 118).take 20 = [21, 6, 79, 21, 7, 172, 132, 6, 1, 167, 255, 156, 132, 5, 1, 167, 255, 135, 29, 172] := by decide +kernel
theorem dX5_choose_0 : decode cX5_choose 0 = .ok (.aload_n 1, 1) := dz_43 (dz_at q10w08_4_0 0)
theorem dX5_choose_1 : decode cX5_choose 1 = .ok (.ifnonnull 5, 3) := dz_199 (dz_at q10w08_4_0 1) (by decide +kernel)
theorem dX5_choose_10 : decode cX5_choose 10 = .ok (.istore 5, 2) := dz_54 (dz_at q10w08_4_0 10)
theorem dX5_choose_100 : decode cX5_choose 100 = .ok (.getfield 22, 3) := dz_180 (dz_at q10w08_4_95 5) rfl
theorem dX5_choose_103 : decode cX5_choose 103 = .ok (.iconst 2, 1) := dz_5 (dz_at q10w08_4_95 8)
theorem dX5_choose_104 : decode cX5_choose 104 = .ok (.iload_n 2, 1) := dz_28 (dz_at q10w08_4_95 9)
theorem dX5_choose_105 : decode cX5_choose 105 = .ok (.imul, 1) := dz_104 (dz_at q10w08_4_95 10)
theorem dX5_choose_106 : decode cX5_choose 106 = .ok (.iload 5, 2) := dz_21 (dz_at q10w08_4_95 11)
theorem dX5_choose_108 : decode cX5_choose 108 = .ok (.iastore, 1) := dz_79 (dz_at q10w08_4_95 13)
theorem dX5_choose_109 : decode cX5_choose 109 = .ok (.aload_n 0, 1) := dz_42 (dz_at q10w08_4_95 14)
theorem dX5_choose_110 : decode cX5_choose 110 = .ok (.getfield 22, 3) := dz_180 (dz_at q10w08_4_95 15) rfl
theorem dX5_choose_113 : decode cX5_choose 113 = .ok (.iconst 2, 1) := dz_5 (dz_at q10w08_4_95 18)
theorem dX5_choose_114 : decode cX5_choose 114 = .ok (.iload_n 2, 1) := dz_28 (dz_at q10w08_4_95 19)
theorem dX5_choose_115 : decode cX5_choose 115 = .ok (.imul, 1) := dz_104 (dz_at q10w08_4_95 20)
theorem dX5_choose_116 : decode cX5_choose 116 = .ok (.iconst 1, 1) := dz_4 (dz_at q10w08_4_95 21)
theorem dX5_choose_117 : decode cX5_choose 117 = .ok (.iadd, 1) := dz_96 (dz_at q10w08_4_95 22)
theorem dX5_choose_118 : decode cX5_choose 118 = .ok (.iload 6, 2) := dz_21 (dz_at q10w08_4_118 0)
theorem dX5_choose_12 : decode cX5_choose 12 = .ok (.iload 5, 2) := dz_21 (dz_at q10w08_4_0 12)
theorem dX5_choose_120 : decode cX5_choose 120 = .ok (.iastore, 1) := dz_79 (dz_at q10w08_4_118 2)
theorem dX5_choose_121 : decode cX5_choose 121 = .ok (.iload 7, 2) := dz_21 (dz_at q10w08_4_118 3)
theorem dX5_choose_123 : decode cX5_choose 123 = .ok (.ireturn, 1) := dz_172 (dz_at q10w08_4_118 5)
theorem dX5_choose_124 : decode cX5_choose 124 = .ok (.iinc 6 1, 3) := dz_132 (dz_at q10w08_4_118 6) (by decide +kernel)
theorem dX5_choose_127 : decode cX5_choose 127 = .ok (.goto (-100), 3) := dz_167 (dz_at q10w08_4_118 9) (by decide +kernel)
theorem dX5_choose_130 : decode cX5_choose 130 = .ok (.iinc 5 1, 3) := dz_132 (dz_at q10w08_4_118 12) (by decide +kernel)
theorem dX5_choose_133 : decode cX5_choose 133 = .ok (.goto (-121), 3) := dz_167 (dz_at q10w08_4_118 15) (by decide +kernel)
theorem dX5_choose_136 : decode cX5_choose 136 = .ok (.iload_n 3, 1) := dz_29 (dz_at q10w08_4_118 18)
theorem dX5_choose_137 : decode cX5_choose 137 = .ok (.ireturn, 1) := dz_172 (dz_at q10w08_4_118 19)
theorem dX5_choose_14 : decode cX5_choose 14 = .ok (.aload_n 1, 1) := dz_43 (dz_at q10w08_4_0 14)
theorem dX5_choose_15 : decode cX5_choose 15 = .ok (.getfield 85, 3) := dz_180 (dz_at q10w08_4_0 15) rfl
theorem dX5_choose_18 : decode cX5_choose 18 = .ok (.getfield 89, 3) := dz_180 (dz_at q10w08_4_0 18) rfl
theorem dX5_choose_21 : decode cX5_choose 21 = .ok (.if_icmp .ge 115, 3) := dz_162 (dz_at q10w08_4_0 21) (by decide +kernel)
theorem dX5_choose_24 : decode cX5_choose 24 = .ok (.iconst 0, 1) := dz_3 (dz_at q10w08_4_24 0)
theorem dX5_choose_25 : decode cX5_choose 25 = .ok (.istore 6, 2) := dz_54 (dz_at q10w08_4_24 1)
theorem dX5_choose_27 : decode cX5_choose 27 = .ok (.iload 6, 2) := dz_21 (dz_at q10w08_4_24 3)
theorem dX5_choose_29 : decode cX5_choose 29 = .ok (.aload_n 1, 1) := dz_43 (dz_at q10w08_4_24 5)
theorem dX5_choose_30 : decode cX5_choose 30 = .ok (.getfield 85, 3) := dz_180 (dz_at q10w08_4_24 6) rfl
theorem dX5_choose_33 : decode cX5_choose 33 = .ok (.getfield 89, 3) := dz_180 (dz_at q10w08_4_24 9) rfl
theorem dX5_choose_36 : decode cX5_choose 36 = .ok (.iload 5, 2) := dz_21 (dz_at q10w08_4_24 12)
theorem dX5_choose_38 : decode cX5_choose 38 = .ok (.isub, 1) := dz_100 (dz_at q10w08_4_24 14)
theorem dX5_choose_39 : decode cX5_choose 39 = .ok (.if_icmp .ge 91, 3) := dz_162 (dz_at q10w08_4_24 15) (by decide +kernel)
theorem dX5_choose_4 : decode cX5_choose 4 = .ok (.iload_n 3, 1) := dz_29 (dz_at q10w08_4_0 4)
theorem dX5_choose_42 : decode cX5_choose 42 = .ok (.iload 4, 2) := dz_21 (dz_at q10w08_4_24 18)
theorem dX5_choose_44 : decode cX5_choose 44 = .ok (.sipush 300, 3) := dz_17 (dz_at q10w08_4_24 20) (by decide +kernel)
theorem dX5_choose_47 : decode cX5_choose 47 = .ok (.if_icmp .ge 83, 3) := dz_162 (dz_at q10w08_4_47 0) (by decide +kernel)
theorem dX5_choose_5 : decode cX5_choose 5 = .ok (.ireturn, 1) := dz_172 (dz_at q10w08_4_0 5)
theorem dX5_choose_50 : decode cX5_choose 50 = .ok (.iload_n 3, 1) := dz_29 (dz_at q10w08_4_47 3)
theorem dX5_choose_51 : decode cX5_choose 51 = .ok (.aload_n 0, 1) := dz_42 (dz_at q10w08_4_47 4)
theorem dX5_choose_52 : decode cX5_choose 52 = .ok (.getfield 27, 3) := dz_180 (dz_at q10w08_4_47 5) rfl
theorem dX5_choose_55 : decode cX5_choose 55 = .ok (.iload_n 2, 1) := dz_28 (dz_at q10w08_4_47 8)
theorem dX5_choose_56 : decode cX5_choose 56 = .ok (.aaload, 1) := dz_50 (dz_at q10w08_4_47 9)
theorem dX5_choose_57 : decode cX5_choose 57 = .ok (.iload 4, 2) := dz_21 (dz_at q10w08_4_47 10)
theorem dX5_choose_59 : decode cX5_choose 59 = .ok (.iaload, 1) := dz_46 (dz_at q10w08_4_47 12)
theorem dX5_choose_6 : decode cX5_choose 6 = .ok (.iconst 0, 1) := dz_3 (dz_at q10w08_4_0 6)
theorem dX5_choose_60 : decode cX5_choose 60 = .ok (.iconst (-1), 1) := dz_2 (dz_at q10w08_4_47 13)
theorem dX5_choose_61 : decode cX5_choose 61 = .ok (.ixor, 1) := dz_130 (dz_at q10w08_4_47 14)
theorem dX5_choose_62 : decode cX5_choose 62 = .ok (.iand, 1) := dz_126 (dz_at q10w08_4_47 15)
theorem dX5_choose_63 : decode cX5_choose 63 = .ok (.istore 7, 2) := dz_54 (dz_at q10w08_4_47 16)
theorem dX5_choose_65 : decode cX5_choose 65 = .ok (.iinc 4 1, 3) := dz_132 (dz_at q10w08_4_47 18) (by decide +kernel)
theorem dX5_choose_68 : decode cX5_choose 68 = .ok (.aload_n 1, 1) := dz_43 (dz_at q10w08_4_47 21)
theorem dX5_choose_69 : decode cX5_choose 69 = .ok (.iload 5, 2) := dz_21 (dz_at q10w08_4_47 22)
theorem dX5_choose_7 : decode cX5_choose 7 = .ok (.istore 4, 2) := dz_54 (dz_at q10w08_4_0 7)
theorem dX5_choose_71 : decode cX5_choose 71 = .ok (.iload 6, 2) := dz_21 (dz_at q10w08_4_71 0)
theorem dX5_choose_73 : decode cX5_choose 73 = .ok (.invokestatic 110, 3) := dz_184 (dz_at q10w08_4_71 2) rfl
theorem dX5_choose_76 : decode cX5_choose 76 = .ok (.aload_n 0, 1) := dz_42 (dz_at q10w08_4_71 5)
theorem dX5_choose_77 : decode cX5_choose 77 = .ok (.getfield 30, 3) := dz_180 (dz_at q10w08_4_71 6) rfl
theorem dX5_choose_80 : decode cX5_choose 80 = .ok (.iload_n 2, 1) := dz_28 (dz_at q10w08_4_71 9)
theorem dX5_choose_81 : decode cX5_choose 81 = .ok (.iconst 1, 1) := dz_4 (dz_at q10w08_4_71 10)
theorem dX5_choose_82 : decode cX5_choose 82 = .ok (.iadd, 1) := dz_96 (dz_at q10w08_4_71 11)
theorem dX5_choose_83 : decode cX5_choose 83 = .ok (.aaload, 1) := dz_50 (dz_at q10w08_4_71 12)
theorem dX5_choose_84 : decode cX5_choose 84 = .ok (.iload 7, 2) := dz_21 (dz_at q10w08_4_71 13)
theorem dX5_choose_86 : decode cX5_choose 86 = .ok (.iaload, 1) := dz_46 (dz_at q10w08_4_71 15)
theorem dX5_choose_87 : decode cX5_choose 87 = .ok (.iadd, 1) := dz_96 (dz_at q10w08_4_71 16)
theorem dX5_choose_88 : decode cX5_choose 88 = .ok (.aload_n 0, 1) := dz_42 (dz_at q10w08_4_71 17)
theorem dX5_choose_89 : decode cX5_choose 89 = .ok (.getfield 30, 3) := dz_180 (dz_at q10w08_4_71 18) rfl
theorem dX5_choose_9 : decode cX5_choose 9 = .ok (.iconst 0, 1) := dz_3 (dz_at q10w08_4_0 9)
theorem dX5_choose_92 : decode cX5_choose 92 = .ok (.iload_n 2, 1) := dz_28 (dz_at q10w08_4_71 21)
theorem dX5_choose_93 : decode cX5_choose 93 = .ok (.aaload, 1) := dz_50 (dz_at q10w08_4_71 22)
theorem dX5_choose_94 : decode cX5_choose 94 = .ok (.iload_n 3, 1) := dz_29 (dz_at q10w08_4_71 23)
theorem dX5_choose_95 : decode cX5_choose 95 = .ok (.iaload, 1) := dz_46 (dz_at q10w08_4_95 0)
theorem dX5_choose_96 : decode cX5_choose 96 = .ok (.if_icmp .ne 28, 3) := dz_160 (dz_at q10w08_4_95 1) (by decide +kernel)
theorem dX5_choose_99 : decode cX5_choose 99 = .ok (.aload_n 0, 1) := dz_42 (dz_at q10w08_4_95 4)
theorem q10w08_5_0 : (cX5_find.data.toList.drop 0).take 24 = [43, 180, 0, 48, 61, 42, 180, 0, 30, 28, 50, 18, 49, 184, 0, 50, 42, 180, 0, 30, 28, 50, 3, 3] := by decide +kernel
theorem q10w08_5_24 : (cX5_find.data.toList.drop 24).take 24 = [79, 28, 4, 100, 62, 29, 155, 0, 72, 43, 29, 182, 0, 56, 58, 4, 25, 4, 198, 0, 54, 42, 25, 4] := by decide +kernel
theorem q10w08_5_48 : (cX5_find.data.toList.drop 48).take 22 = [43, 25, 4, 180, 0, 60, 182, 0, 65, 42, 180, 0, 27, 29, 50, 182, 0, 69, 42, 25, 4, 42] := by decide +kernel
theorem q10w08_5_70 : (cX5_find.data.toList.drop 70).take 23 = [180, 0, 27, 29, 50, 182, 0, 73, 42, 42, 180, 0, 30, 29, 4, 96, 50, 42, 180, 0, 30, 29, 50] := by decide +kernel
theorem q10w08_5_93 : (cX5_find.data.toList.drop 93).take 24 = [182, 0, 77, 132, 3, 255, 167, 255, 186, 4, 42, 180, 0, 18, 120, 4, 100, 62, 42, 180, 0, 30, 3, 50] := by decide +kernel
theorem q10w08_5_117 : (cX5_find.data.toList.drop 117).take 24 = [29, 46, 54, 4, 21, 4, 18, 49, 161, 0, 5, 2, 172, 3, 54, 5, 21, 5, 28, 162, 0, 23, 42, 43] := by decide +kernel
theorem q10w08_5_141 : (cX5_find.data.toList.drop 141).take 21 = [21, 5, 182, 0, 56, 21, 5, 29, 182, 0, 81, 62, 132, 5, 1, 167, 255, 233, 21, 4, 172] := by decide +kernel
theorem dX5_find_0 : decode cX5_find 0 = .ok (.aload_n 1, 1) := dz_43 (dz_at q10w08_5_0 0)
theorem dX5_find_1 : decode cX5_find 1 = .ok (.getfield 48, 3) := dz_180 (dz_at q10w08_5_0 1) rfl
theorem dX5_find_10 : decode cX5_find 10 = .ok (.aaload, 1) := dz_50 (dz_at q10w08_5_0 10)
theorem dX5_find_102 : decode cX5_find 102 = .ok (.iconst 1, 1) := dz_4 (dz_at q10w08_5_93 9)
theorem dX5_find_103 : decode cX5_find 103 = .ok (.aload_n 0, 1) := dz_42 (dz_at q10w08_5_93 10)
theorem dX5_find_104 : decode cX5_find 104 = .ok (.getfield 18, 3) := dz_180 (dz_at q10w08_5_93 11) rfl
theorem dX5_find_107 : decode cX5_find 107 = .ok (.ishl, 1) := dz_120 (dz_at q10w08_5_93 14)
theorem dX5_find_108 : decode cX5_find 108 = .ok (.iconst 1, 1) := dz_4 (dz_at q10w08_5_93 15)
theorem dX5_find_109 : decode cX5_find 109 = .ok (.isub, 1) := dz_100 (dz_at q10w08_5_93 16)
theorem dX5_find_11 : decode cX5_find 11 = .ok (.ldc 49, 2) := dz_18 (dz_at q10w08_5_0 11)
theorem dX5_find_110 : decode cX5_find 110 = .ok (.istore_n 3, 1) := dz_62 (dz_at q10w08_5_93 17)
theorem dX5_find_111 : decode cX5_find 111 = .ok (.aload_n 0, 1) := dz_42 (dz_at q10w08_5_93 18)
theorem dX5_find_112 : decode cX5_find 112 = .ok (.getfield 30, 3) := dz_180 (dz_at q10w08_5_93 19) rfl
theorem dX5_find_115 : decode cX5_find 115 = .ok (.iconst 0, 1) := dz_3 (dz_at q10w08_5_93 22)
theorem dX5_find_116 : decode cX5_find 116 = .ok (.aaload, 1) := dz_50 (dz_at q10w08_5_93 23)
theorem dX5_find_117 : decode cX5_find 117 = .ok (.iload_n 3, 1) := dz_29 (dz_at q10w08_5_117 0)
theorem dX5_find_118 : decode cX5_find 118 = .ok (.iaload, 1) := dz_46 (dz_at q10w08_5_117 1)
theorem dX5_find_119 : decode cX5_find 119 = .ok (.istore 4, 2) := dz_54 (dz_at q10w08_5_117 2)
theorem dX5_find_121 : decode cX5_find 121 = .ok (.iload 4, 2) := dz_21 (dz_at q10w08_5_117 4)
theorem dX5_find_123 : decode cX5_find 123 = .ok (.ldc 49, 2) := dz_18 (dz_at q10w08_5_117 6)
theorem dX5_find_125 : decode cX5_find 125 = .ok (.if_icmp .lt 5, 3) := dz_161 (dz_at q10w08_5_117 8) (by decide +kernel)
theorem dX5_find_128 : decode cX5_find 128 = .ok (.iconst (-1), 1) := dz_2 (dz_at q10w08_5_117 11)
theorem dX5_find_129 : decode cX5_find 129 = .ok (.ireturn, 1) := dz_172 (dz_at q10w08_5_117 12)
theorem dX5_find_13 : decode cX5_find 13 = .ok (.invokestatic 50, 3) := dz_184 (dz_at q10w08_5_0 13) rfl
theorem dX5_find_130 : decode cX5_find 130 = .ok (.iconst 0, 1) := dz_3 (dz_at q10w08_5_117 13)
theorem dX5_find_131 : decode cX5_find 131 = .ok (.istore 5, 2) := dz_54 (dz_at q10w08_5_117 14)
theorem dX5_find_133 : decode cX5_find 133 = .ok (.iload 5, 2) := dz_21 (dz_at q10w08_5_117 16)
theorem dX5_find_135 : decode cX5_find 135 = .ok (.iload_n 2, 1) := dz_28 (dz_at q10w08_5_117 18)
theorem dX5_find_136 : decode cX5_find 136 = .ok (.if_icmp .ge 23, 3) := dz_162 (dz_at q10w08_5_117 19) (by decide +kernel)
theorem dX5_find_139 : decode cX5_find 139 = .ok (.aload_n 0, 1) := dz_42 (dz_at q10w08_5_117 22)
theorem dX5_find_140 : decode cX5_find 140 = .ok (.aload_n 1, 1) := dz_43 (dz_at q10w08_5_117 23)
theorem dX5_find_141 : decode cX5_find 141 = .ok (.iload 5, 2) := dz_21 (dz_at q10w08_5_141 0)
theorem dX5_find_143 : decode cX5_find 143 = .ok (.invokevirtual 56, 3) := dz_182 (dz_at q10w08_5_141 2) rfl
theorem dX5_find_146 : decode cX5_find 146 = .ok (.iload 5, 2) := dz_21 (dz_at q10w08_5_141 5)
theorem dX5_find_148 : decode cX5_find 148 = .ok (.iload_n 3, 1) := dz_29 (dz_at q10w08_5_141 7)
theorem dX5_find_149 : decode cX5_find 149 = .ok (.invokevirtual 81, 3) := dz_182 (dz_at q10w08_5_141 8) rfl
theorem dX5_find_152 : decode cX5_find 152 = .ok (.istore_n 3, 1) := dz_62 (dz_at q10w08_5_141 11)
theorem dX5_find_153 : decode cX5_find 153 = .ok (.iinc 5 1, 3) := dz_132 (dz_at q10w08_5_141 12) (by decide +kernel)
theorem dX5_find_156 : decode cX5_find 156 = .ok (.goto (-23), 3) := dz_167 (dz_at q10w08_5_141 15) (by decide +kernel)
theorem dX5_find_159 : decode cX5_find 159 = .ok (.iload 4, 2) := dz_21 (dz_at q10w08_5_141 18)
theorem dX5_find_16 : decode cX5_find 16 = .ok (.aload_n 0, 1) := dz_42 (dz_at q10w08_5_0 16)
theorem dX5_find_161 : decode cX5_find 161 = .ok (.ireturn, 1) := dz_172 (dz_at q10w08_5_141 20)
theorem dX5_find_17 : decode cX5_find 17 = .ok (.getfield 30, 3) := dz_180 (dz_at q10w08_5_0 17) rfl
theorem dX5_find_20 : decode cX5_find 20 = .ok (.iload_n 2, 1) := dz_28 (dz_at q10w08_5_0 20)
theorem dX5_find_21 : decode cX5_find 21 = .ok (.aaload, 1) := dz_50 (dz_at q10w08_5_0 21)
theorem dX5_find_22 : decode cX5_find 22 = .ok (.iconst 0, 1) := dz_3 (dz_at q10w08_5_0 22)
theorem dX5_find_23 : decode cX5_find 23 = .ok (.iconst 0, 1) := dz_3 (dz_at q10w08_5_0 23)
theorem dX5_find_24 : decode cX5_find 24 = .ok (.iastore, 1) := dz_79 (dz_at q10w08_5_24 0)
theorem dX5_find_25 : decode cX5_find 25 = .ok (.iload_n 2, 1) := dz_28 (dz_at q10w08_5_24 1)
theorem dX5_find_26 : decode cX5_find 26 = .ok (.iconst 1, 1) := dz_4 (dz_at q10w08_5_24 2)
theorem dX5_find_27 : decode cX5_find 27 = .ok (.isub, 1) := dz_100 (dz_at q10w08_5_24 3)
theorem dX5_find_28 : decode cX5_find 28 = .ok (.istore_n 3, 1) := dz_62 (dz_at q10w08_5_24 4)
theorem dX5_find_29 : decode cX5_find 29 = .ok (.iload_n 3, 1) := dz_29 (dz_at q10w08_5_24 5)
theorem dX5_find_30 : decode cX5_find 30 = .ok (.ifCond .lt 72, 3) := dz_155 (dz_at q10w08_5_24 6) (by decide +kernel)
theorem dX5_find_33 : decode cX5_find 33 = .ok (.aload_n 1, 1) := dz_43 (dz_at q10w08_5_24 9)
theorem dX5_find_34 : decode cX5_find 34 = .ok (.iload_n 3, 1) := dz_29 (dz_at q10w08_5_24 10)
theorem dX5_find_35 : decode cX5_find 35 = .ok (.invokevirtual 56, 3) := dz_182 (dz_at q10w08_5_24 11) rfl
theorem dX5_find_38 : decode cX5_find 38 = .ok (.astore 4, 2) := dz_58 (dz_at q10w08_5_24 14)
theorem dX5_find_4 : decode cX5_find 4 = .ok (.istore_n 2, 1) := dz_61 (dz_at q10w08_5_0 4)
theorem dX5_find_40 : decode cX5_find 40 = .ok (.aload 4, 2) := dz_25 (dz_at q10w08_5_24 16)
theorem dX5_find_42 : decode cX5_find 42 = .ok (.ifnull 54, 3) := dz_198 (dz_at q10w08_5_24 18) (by decide +kernel)
theorem dX5_find_45 : decode cX5_find 45 = .ok (.aload_n 0, 1) := dz_42 (dz_at q10w08_5_24 21)
theorem dX5_find_46 : decode cX5_find 46 = .ok (.aload 4, 2) := dz_25 (dz_at q10w08_5_24 22)
theorem dX5_find_48 : decode cX5_find 48 = .ok (.aload_n 1, 1) := dz_43 (dz_at q10w08_5_48 0)
theorem dX5_find_49 : decode cX5_find 49 = .ok (.aload 4, 2) := dz_25 (dz_at q10w08_5_48 1)
theorem dX5_find_5 : decode cX5_find 5 = .ok (.aload_n 0, 1) := dz_42 (dz_at q10w08_5_0 5)
theorem dX5_find_51 : decode cX5_find 51 = .ok (.getfield 60, 3) := dz_180 (dz_at q10w08_5_48 3) rfl
theorem dX5_find_54 : decode cX5_find 54 = .ok (.invokevirtual 65, 3) := dz_182 (dz_at q10w08_5_48 6) rfl
theorem dX5_find_57 : decode cX5_find 57 = .ok (.aload_n 0, 1) := dz_42 (dz_at q10w08_5_48 9)
theorem dX5_find_58 : decode cX5_find 58 = .ok (.getfield 27, 3) := dz_180 (dz_at q10w08_5_48 10) rfl
theorem dX5_find_6 : decode cX5_find 6 = .ok (.getfield 30, 3) := dz_180 (dz_at q10w08_5_0 6) rfl
theorem dX5_find_61 : decode cX5_find 61 = .ok (.iload_n 3, 1) := dz_29 (dz_at q10w08_5_48 13)
theorem dX5_find_62 : decode cX5_find 62 = .ok (.aaload, 1) := dz_50 (dz_at q10w08_5_48 14)
theorem dX5_find_63 : decode cX5_find 63 = .ok (.invokevirtual 69, 3) := dz_182 (dz_at q10w08_5_48 15) rfl
theorem dX5_find_66 : decode cX5_find 66 = .ok (.aload_n 0, 1) := dz_42 (dz_at q10w08_5_48 18)
theorem dX5_find_67 : decode cX5_find 67 = .ok (.aload 4, 2) := dz_25 (dz_at q10w08_5_48 19)
theorem dX5_find_69 : decode cX5_find 69 = .ok (.aload_n 0, 1) := dz_42 (dz_at q10w08_5_48 21)
theorem dX5_find_70 : decode cX5_find 70 = .ok (.getfield 27, 3) := dz_180 (dz_at q10w08_5_70 0) rfl
theorem dX5_find_73 : decode cX5_find 73 = .ok (.iload_n 3, 1) := dz_29 (dz_at q10w08_5_70 3)
theorem dX5_find_74 : decode cX5_find 74 = .ok (.aaload, 1) := dz_50 (dz_at q10w08_5_70 4)
theorem dX5_find_75 : decode cX5_find 75 = .ok (.invokevirtual 73, 3) := dz_182 (dz_at q10w08_5_70 5) rfl
theorem dX5_find_78 : decode cX5_find 78 = .ok (.aload_n 0, 1) := dz_42 (dz_at q10w08_5_70 8)
theorem dX5_find_79 : decode cX5_find 79 = .ok (.aload_n 0, 1) := dz_42 (dz_at q10w08_5_70 9)
theorem dX5_find_80 : decode cX5_find 80 = .ok (.getfield 30, 3) := dz_180 (dz_at q10w08_5_70 10) rfl
theorem dX5_find_83 : decode cX5_find 83 = .ok (.iload_n 3, 1) := dz_29 (dz_at q10w08_5_70 13)
theorem dX5_find_84 : decode cX5_find 84 = .ok (.iconst 1, 1) := dz_4 (dz_at q10w08_5_70 14)
theorem dX5_find_85 : decode cX5_find 85 = .ok (.iadd, 1) := dz_96 (dz_at q10w08_5_70 15)
theorem dX5_find_86 : decode cX5_find 86 = .ok (.aaload, 1) := dz_50 (dz_at q10w08_5_70 16)
theorem dX5_find_87 : decode cX5_find 87 = .ok (.aload_n 0, 1) := dz_42 (dz_at q10w08_5_70 17)
theorem dX5_find_88 : decode cX5_find 88 = .ok (.getfield 30, 3) := dz_180 (dz_at q10w08_5_70 18) rfl
theorem dX5_find_9 : decode cX5_find 9 = .ok (.iload_n 2, 1) := dz_28 (dz_at q10w08_5_0 9)
theorem dX5_find_91 : decode cX5_find 91 = .ok (.iload_n 3, 1) := dz_29 (dz_at q10w08_5_70 21)
theorem dX5_find_92 : decode cX5_find 92 = .ok (.aaload, 1) := dz_50 (dz_at q10w08_5_70 22)
theorem dX5_find_93 : decode cX5_find 93 = .ok (.invokevirtual 77, 3) := dz_182 (dz_at q10w08_5_93 0) rfl
theorem dX5_find_96 : decode cX5_find 96 = .ok (.iinc 3 (-1), 3) := dz_132 (dz_at q10w08_5_93 3) (by decide +kernel)
theorem dX5_find_99 : decode cX5_find 99 = .ok (.goto (-70), 3) := dz_167 (dz_at q10w08_5_93 6) (by decide +kernel)
theorem q10w08_6_0 : (cX6_cutBy.data.toList.drop 0).take 23 = [42, 180, 0, 12, 89, 180, 0, 42, 27, 100, 181, 0, 42, 42, 42, 180, 0, 22, 133, 42, 180, 0, 12] := by decide +kernel
theorem q10w08_6_23 : (cX6_cutBy.data.toList.drop 23).take 14 = [180, 0, 42, 184, 0, 56, 181, 0, 22, 42, 182, 0, 39, 177] := by decide +kernel
theorem dX6_cutBy_0 : decode cX6_cutBy 0 = .ok (.aload_n 0, 1) := dz_42 (dz_at q10w08_6_0 0)
theorem dX6_cutBy_1 : decode cX6_cutBy 1 = .ok (.getfield 12, 3) := dz_180 (dz_at q10w08_6_0 1) rfl
theorem dX6_cutBy_10 : decode cX6_cutBy 10 = .ok (.putfield 42, 3) := dz_181 (dz_at q10w08_6_0 10) rfl
theorem dX6_cutBy_13 : decode cX6_cutBy 13 = .ok (.aload_n 0, 1) := dz_42 (dz_at q10w08_6_0 13)
theorem dX6_cutBy_14 : decode cX6_cutBy 14 = .ok (.aload_n 0, 1) := dz_42 (dz_at q10w08_6_0 14)
theorem dX6_cutBy_15 : decode cX6_cutBy 15 = .ok (.getfield 22, 3) := dz_180 (dz_at q10w08_6_0 15) rfl
theorem dX6_cutBy_18 : decode cX6_cutBy 18 = .ok (.i2l, 1) := dz_133 (dz_at q10w08_6_0 18)
theorem dX6_cutBy_19 : decode cX6_cutBy 19 = .ok (.aload_n 0, 1) := dz_42 (dz_at q10w08_6_0 19)
theorem dX6_cutBy_20 : decode cX6_cutBy 20 = .ok (.getfield 12, 3) := dz_180 (dz_at q10w08_6_0 20) rfl
theorem dX6_cutBy_23 : decode cX6_cutBy 23 = .ok (.getfield 42, 3) := dz_180 (dz_at q10w08_6_23 0) rfl
theorem dX6_cutBy_26 : decode cX6_cutBy 26 = .ok (.invokestatic 56, 3) := dz_184 (dz_at q10w08_6_23 3) rfl
theorem dX6_cutBy_29 : decode cX6_cutBy 29 = .ok (.putfield 22, 3) := dz_181 (dz_at q10w08_6_23 6) rfl
theorem dX6_cutBy_32 : decode cX6_cutBy 32 = .ok (.aload_n 0, 1) := dz_42 (dz_at q10w08_6_23 9)
theorem dX6_cutBy_33 : decode cX6_cutBy 33 = .ok (.invokevirtual 39, 3) := dz_182 (dz_at q10w08_6_23 10) rfl
theorem dX6_cutBy_36 : decode cX6_cutBy 36 = .ok (.return_, 1) := dz_177 (dz_at q10w08_6_23 13)
theorem dX6_cutBy_4 : decode cX6_cutBy 4 = .ok (.dup, 1) := dz_89 (dz_at q10w08_6_0 4)
theorem dX6_cutBy_5 : decode cX6_cutBy 5 = .ok (.getfield 42, 3) := dz_180 (dz_at q10w08_6_0 5) rfl
theorem dX6_cutBy_8 : decode cX6_cutBy 8 = .ok (.iload_n 1, 1) := dz_27 (dz_at q10w08_6_0 8)
theorem dX6_cutBy_9 : decode cX6_cutBy 9 = .ok (.isub, 1) := dz_100 (dz_at q10w08_6_0 9)
theorem dm_X5_choose : yX5_choose.cls = RX5 ∧ yX5_choose.cls ≠ "java/lang/invoke/MethodHandle" ∧ yX5_choose.cls ≠ "java/lang/invoke/VarHandle" ∧ (parseMethodDescriptor yX5_choose.desc).map (fun d => d.parameters.length) = some 3 := by decide +kernel
theorem dm_X5_listTrue : yX5_listTrue.cls = RX5 ∧ yX5_listTrue.cls ≠ "java/lang/invoke/MethodHandle" ∧ yX5_listTrue.cls ≠ "java/lang/invoke/VarHandle" ∧ (parseMethodDescriptor yX5_listTrue.desc).map (fun d => d.parameters.length) = some 3 := by decide +kernel
theorem dm_X5_listCheapest : yX5_listCheapest.cls = RX5 ∧ yX5_listCheapest.cls ≠ "java/lang/invoke/MethodHandle" ∧ yX5_listCheapest.cls ≠ "java/lang/invoke/VarHandle" ∧ (parseMethodDescriptor yX5_listCheapest.desc).map (fun d => d.parameters.length) = some 2 := by decide +kernel
theorem dm_X5_addCosts : yX5_addCosts.cls = RX5 ∧ yX5_addCosts.cls ≠ "java/lang/invoke/MethodHandle" ∧ yX5_addCosts.cls ≠ "java/lang/invoke/VarHandle" ∧ (parseMethodDescriptor yX5_addCosts.desc).map (fun d => d.parameters.length) = some 2 := by decide +kernel
theorem dm_X5_find : yX5_find.cls = RX5 ∧ yX5_find.cls ≠ "java/lang/invoke/MethodHandle" ∧ yX5_find.cls ≠ "java/lang/invoke/VarHandle" ∧ (parseMethodDescriptor yX5_find.desc).map (fun d => d.parameters.length) = some 1 := by decide +kernel
theorem dm_X11_tell : yX11_tell.cls = RX11 ∧ yX11_tell.cls ≠ "java/lang/invoke/MethodHandle" ∧ yX11_tell.cls ≠ "java/lang/invoke/VarHandle" ∧ (parseMethodDescriptor yX11_tell.desc).map (fun d => d.parameters.length) = some 2 := by decide +kernel
theorem dm_X6_cutBy : yX6_cutBy.cls = RX6 ∧ yX6_cutBy.cls ≠ "java/lang/invoke/MethodHandle" ∧ yX6_cutBy.cls ≠ "java/lang/invoke/VarHandle" ∧ (parseMethodDescriptor yX6_cutBy.desc).map (fun d => d.parameters.length) = some 1 := by decide +kernel
theorem dm_X5_carryOut : yX5_carryOut.cls = RX5 ∧ yX5_carryOut.cls ≠ "java/lang/invoke/MethodHandle" ∧ yX5_carryOut.cls ≠ "java/lang/invoke/VarHandle" ∧ (parseMethodDescriptor yX5_carryOut.desc).map (fun d => d.parameters.length) = some 1 := by decide +kernel
set_option maxRecDepth 100000 in
def wC_Planner_choose (a0 : Option Nat) (a1 : Int) (a2 : Int) (M : zM) (Q : Int → zM → Prop) : Prop := (a0 = none → Q (sI a2) M) ∧ (∀ q1, a0 = some q1 → pL2 (fun K12 x10 x11 => ((sI (M (q1 + 1) 1)) ≤ (sI x11) → Q (sI a2) M) ∧ ((sI x11) < (sI (M (q1 + 1) 1)) → pL2 (fun K27 x20 x21 => ((sI ((M (q1 + 1) 1) - x11)) ≤ (sI x21) → K12 x20 (x11 + 1)) ∧ ((sI x21) < (sI ((M (q1 + 1) 1) - x11)) → (300 ≤ (sI x20) → K12 x20 (x11 + 1)) ∧ ((sI x20) < 300 → ((0 ≤ (sI a1) ∧ (sI a1) < 4) ∧ ((0 ≤ (sI x20) ∧ (sI x20) < 300) ∧ (∀ t39 : Int, t39 = (andI a2 (xorI (M (65 + 1 * (sI a1).toNat) (sI x20).toNat) (-1))) → wC_Planner_cost q1 x11 x21 M (fun z42 => ((0 ≤ (sI (a1 + 1)) ∧ (sI (a1 + 1)) < 5) ∧ ((0 ≤ t39 ∧ t39 < 64) ∧ ((0 ≤ (sI a1) ∧ (sI a1) < 5) ∧ ((0 ≤ (sI a2) ∧ (sI a2) < 64) ∧ ((sI (z42 + (M (70 + 1 * (sI (a1 + 1)).toNat) t39.toNat))) ≠ (sI (M (70 + 1 * (sI a1).toNat) (sI a2).toNat)) → K27 (x20 + 1) (x21 + 1)) ∧ ((sI (z42 + (M (70 + 1 * (sI (a1 + 1)).toNat) t39.toNat))) = (sI (M (70 + 1 * (sI a1).toNat) (sI a2).toNat)) → ((0 ≤ (sI (2 * a1)) ∧ (sI (2 * a1)) < 8) ∧ (∀ M57 : zM, M57 = zup M 63 (sI (2 * a1)).toNat x11 → ((0 ≤ (sI ((2 * a1) + 1)) ∧ (sI ((2 * a1) + 1)) < 8) ∧ (∀ M60 : zM, M60 = zup M57 63 (sI ((2 * a1) + 1)).toNat x21 → Q t39 M60)))))))))))))))) x10 0)) 0 0)
set_option maxHeartbeats 4000000 in
set_option maxRecDepth 100000 in
theorem cC_Planner_choose (l : Launch) (D : va_G) (dA : Nat → ClassId) (b : Nat) (M : zM) (a0 : Option Nat) (a1 : Int) (a2 : Int) (cd_a0 : ∀ q, a0 = some q → q < nC ∧ zcd wC q = 14) (Q : Int → zM → Prop) (h : wC_Planner_choose a0 a1 a2 M Q) : Met l yX5_choose (.code yX5_choose cX5_choose 8 (some .int) :: zt) (z_rm 2) (va_Pc [.ref (b + 60), va_rf (a0.map (b + ·)), .int (iI a1), .int (iI a2)] (wPre D dA vwCl (z_tys dA) wC nC b M)) (va_Qi (wQi Q) (zB D dA vwCl wC nC b) (zA nC b)) 0 0 (zA nC b) := by
  unfold wC_Planner_choose at h
  rcases a0 with _ | q1
  · skip
    refine Met.ofW (cc := cX5_choose) (maxL := 8) (ret := (some .int)) (by decide) rfl ?_
    intro p e s m args below meth c s₁ B hml hv
    obtain ⟨hargs, hS, hK⟩ := hv
    have hx := B.exec
    have hb := B.bytes
    have hr := B.returns
    have hts := atoms_spec (ws := .code yX5_choose cX5_choose 8 (some .int) :: zt) B.pre
    have hown : s.vm.findClass RX5 = some m.cls := findClass_of_methodNamed B.named
    have hlocks := B.notSynchronized
    have hS0 : va_S (zA nC b) s.heap s.heap [] := va_S.rf
    have hl := lv_entry ([.ref (b + 60), .null, .int (iI a1), .int (iI a2)]) (n := 8) (Nat.le_of_ble_eq_true rfl)
    have hent : entryFrame m args 8 = F0 m 0 ((lg_sl ([.ref (b + 60), .null, .int (iI a1), .int (iI a2)]) ++ List.replicate (8 - (lg_sl ([.ref (b + 60), .null, .int (iI a1), .int (iI a2)])).length) Slot.unset).toArray) [] := by rw [hargs]; exact lg_entry_eq m ([.ref (b + 60), .null, .int (iI a1), .int (iI a2)]) 8
    rw [hent]
    generalize (lg_sl ([.ref (b + 60), .null, .int (iI a1), .int (iI a2)]) ++ List.replicate (8 - (lg_sl ([.ref (b + 60), .null, .int (iI a1), .int (iI a2)])).length) Slot.unset).toArray = ls at hl ⊢
    have hl : lv_has ls 8 [(0, .ref (b + 60)), (1, .null), (2, .int (iI a1)), (3, .int (iI a2))] := hl
    have h := h.1 rfl
    refine lv_aload_nN hx hb dX5_choose_0 rfl (lv_at hl 1 rfl) ?_
    refine lv_ifnonnullN hx hb dX5_choose_1 ?_
    refine lv_iload_n hx hb dX5_choose_4 rfl (lv_at hl 3 rfl) ?_
    exact w_iret hx hb hr hlocks hS hS0 rfl h dX5_choose_5
  · skip
    refine Met.ofW (cc := cX5_choose) (maxL := 8) (ret := (some .int)) (by decide) rfl ?_
    intro p e s m args below meth c s₁ B hml hv
    obtain ⟨hargs, hS, hK⟩ := hv
    have hx := B.exec
    have hb := B.bytes
    have hr := B.returns
    have hts := atoms_spec (ws := .code yX5_choose cX5_choose 8 (some .int) :: zt) B.pre
    have hown : s.vm.findClass RX5 = some m.cls := findClass_of_methodNamed B.named
    have hlocks := B.notSynchronized
    have hS0 : va_S (zA nC b) s.heap s.heap [] := va_S.rf
    have hl := lv_entry ([.ref (b + 60), .ref (b + q1), .int (iI a1), .int (iI a2)]) (n := 8) (Nat.le_of_ble_eq_true rfl)
    have hent : entryFrame m args 8 = F0 m 0 ((lg_sl ([.ref (b + 60), .ref (b + q1), .int (iI a1), .int (iI a2)]) ++ List.replicate (8 - (lg_sl ([.ref (b + 60), .ref (b + q1), .int (iI a1), .int (iI a2)])).length) Slot.unset).toArray) [] := by rw [hargs]; exact lg_entry_eq m ([.ref (b + 60), .ref (b + q1), .int (iI a1), .int (iI a2)]) 8
    rw [hent]
    generalize (lg_sl ([.ref (b + 60), .ref (b + q1), .int (iI a1), .int (iI a2)]) ++ List.replicate (8 - (lg_sl ([.ref (b + 60), .ref (b + q1), .int (iI a1), .int (iI a2)])).length) Slot.unset).toArray = ls at hl ⊢
    have hl : lv_has ls 8 [(0, .ref (b + 60)), (1, .ref (b + q1)), (2, .int (iI a1)), (3, .int (iI a2))] := hl
    have h := h.2 q1 rfl
    obtain ⟨lt2, cd3⟩ := cd_a0 q1 rfl
    obtain ⟨lt4, cd5, lt6, cd7, lt8, cd9⟩ := nx_ring q1 lt2 cd3
    refine lv_aload_n hx hb dX5_choose_0 rfl (lv_at hl 1 rfl) ?_
    refine lv_ifnonnull (tgt := 6) hx hb dX5_choose_1 (by decide) ?_
    refine z_iconst hx hb dX5_choose_6 ?_
    refine lv_istore (lv' := [(4, .int (iI 0)), (0, .ref (b + 60)), (1, .ref (b + q1)), (2, .int (iI a1)), (3, .int (iI a2))]) hx hb dX5_choose_7 hl (by decide) rfl (fun ls hl => ?_)
    refine z_iconst hx hb dX5_choose_9 ?_
    refine lv_istore (lv' := [(5, .int (iI 0)), (4, .int (iI 0)), (0, .ref (b + 60)), (1, .ref (b + q1)), (2, .int (iI a1)), (3, .int (iI a2))]) hx hb dX5_choose_10 hl (by decide) rfl (fun ls hl => ?_)
    obtain ⟨I12, ⟨n13, h14⟩, h15⟩ := h
    have L16 : ∀ (n17 : Nat) (x10 x11 : Int) (H : Heap) (locs : List Loc) (ls : Array Slot), I12 n17 x10 x11 → zR D dA vwCl wC nC b M H → va_S (zA nC b) s.heap H locs → lv_has ls 8 [(0, .ref (b + 60)), (1, .ref (b + q1)), (2, .int (iI a1)), (3, .int (iI a2)), (4, .int (iI x10)), (5, .int (iI x11))] → W p l e (headSpec (.code yX5_choose cX5_choose 8 (some .int) :: zt) (z_rm 2)).room s m args below meth c H locs 0 0 (MQ below (va_Qi (wQi Q) (zB D dA vwCl wC nC b) (zA nC b)) args s 0 0 (zA nC b)) (F0 m 12 ls []) := by
      intro n17
      induction n17 using Nat.strongRecOn with
      | ind n17 i18 =>
        intro x10 x11 H locs ls h hS hS0 hl
        have h := h15 n17 x10 x11 h
        refine lv_iload hx hb dX5_choose_12 (lv_at hl 5 rfl) ?_
        refine lv_aload_n hx hb dX5_choose_14 rfl (lv_at hl 1 rfl) ?_
        refine w_getr (j2 := (q1 + 1)) hx hb hts (z_memU u6) hown hK.1 hS f6_0 lt2 (zkd_of cd3 rfl) (zrf_of cd3 rfl) (Or.inl (hts _ (z_mem k94))) dX5_choose_15 ?_
        refine w_geti hx hb hts (z_memU u8) hown hK.1 hS f8_1 lt4 (zkd_of cd5 rfl) (Or.inl (hts _ (z_mem k48))) dX5_choose_18 ?_
        refine w_icmp_ge (tgt := 136) hx hb rfl rfl dX5_choose_21 (by decide) (fun c19 => ?_) (fun c19 => ?_)
        · skip
          have h := h.1 c19
          refine lv_iload_n hx hb dX5_choose_136 rfl (lv_at hl 3 rfl) ?_
          exact w_iret hx hb hr hlocks hS hS0 rfl h dX5_choose_137
        · skip
          have h := h.2 c19
          refine z_iconst hx hb dX5_choose_24 ?_
          refine lv_istore (lv' := [(6, .int (iI 0)), (0, .ref (b + 60)), (1, .ref (b + q1)), (2, .int (iI a1)), (3, .int (iI a2)), (4, .int (iI x10)), (5, .int (iI x11))]) hx hb dX5_choose_25 hl (by decide) rfl (fun ls hl => ?_)
          obtain ⟨I22, ⟨n23, h24⟩, h25⟩ := h
          have L26 : ∀ (n27 : Nat) (x20 x21 : Int) (H : Heap) (locs : List Loc) (ls : Array Slot), I22 n27 x20 x21 → zR D dA vwCl wC nC b M H → va_S (zA nC b) s.heap H locs → lv_has ls 8 [(0, .ref (b + 60)), (1, .ref (b + q1)), (2, .int (iI a1)), (3, .int (iI a2)), (4, .int (iI x20)), (5, .int (iI x11)), (6, .int (iI x21))] → W p l e (headSpec (.code yX5_choose cX5_choose 8 (some .int) :: zt) (z_rm 2)).room s m args below meth c H locs 0 0 (MQ below (va_Qi (wQi Q) (zB D dA vwCl wC nC b) (zA nC b)) args s 0 0 (zA nC b)) (F0 m 27 ls []) := by
            intro n27
            induction n27 using Nat.strongRecOn with
            | ind n27 i28 =>
              intro x20 x21 H locs ls h hS hS0 hl
              have h := h25 n27 x20 x21 h
              refine lv_iload hx hb dX5_choose_27 (lv_at hl 6 rfl) ?_
              refine lv_aload_n hx hb dX5_choose_29 rfl (lv_at hl 1 rfl) ?_
              refine w_getr (j2 := (q1 + 1)) hx hb hts (z_memU u6) hown hK.1 hS f6_0 lt2 (zkd_of cd3 rfl) (zrf_of cd3 rfl) (Or.inl (hts _ (z_mem k94))) dX5_choose_30 ?_
              refine w_geti hx hb hts (z_memU u8) hown hK.1 hS f8_1 lt4 (zkd_of cd5 rfl) (Or.inl (hts _ (z_mem k48))) dX5_choose_33 ?_
              refine lv_iload hx hb dX5_choose_36 (lv_at hl 5 rfl) ?_
              refine z_isub hx hb dX5_choose_38 ?_
              refine w_icmp_ge (tgt := 130) hx hb rfl rfl dX5_choose_39 (by decide) (fun c29 => ?_) (fun c29 => ?_)
              · skip
                have h := h.1 c29
                refine z_iinc (lv' := [(5, .int (iI (x11 + 1))), (0, .ref (b + 60)), (1, .ref (b + q1)), (2, .int (iI a1)), (3, .int (iI a2)), (4, .int (iI x20)), (6, .int (iI x21))]) hx hb dX5_choose_130 hl (k := 5) rfl (by decide) rfl (fun ls hl => ?_)
                refine lv_goto (tgt := 12) hx hb dX5_choose_133 (by decide) ?_
                obtain ⟨n30, h31, h⟩ := h
                exact i18 n30 h31 x20 (x11 + 1) _ _ _ h hS hS0 (lv_sub hl [1, 2, 3, 4, 5, 0] rfl)
              · skip
                have h := h.2 c29
                refine lv_iload hx hb dX5_choose_42 (lv_at hl 4 rfl) ?_
                refine z_sipush hx hb (by decide) dX5_choose_44 ?_
                refine w_icmp_ge (tgt := 130) hx hb rfl (sI_of (by decide)) dX5_choose_47 (by decide) (fun c32 => ?_) (fun c32 => ?_)
                · skip
                  have h := h.1 c32
                  refine z_iinc (lv' := [(5, .int (iI (x11 + 1))), (0, .ref (b + 60)), (1, .ref (b + q1)), (2, .int (iI a1)), (3, .int (iI a2)), (4, .int (iI x20)), (6, .int (iI x21))]) hx hb dX5_choose_130 hl (k := 5) rfl (by decide) rfl (fun ls hl => ?_)
                  refine lv_goto (tgt := 12) hx hb dX5_choose_133 (by decide) ?_
                  obtain ⟨n33, h34, h⟩ := h
                  exact i18 n33 h34 x20 (x11 + 1) _ _ _ h hS hS0 (lv_sub hl [1, 2, 3, 4, 5, 0] rfl)
                · skip
                  have h := h.2 c32
                  refine lv_iload_n hx hb dX5_choose_50 rfl (lv_at hl 3 rfl) ?_
                  refine lv_aload_n hx hb dX5_choose_51 rfl (lv_at hl 0 rfl) ?_
                  refine w_getr (j2 := 64) hx hb hts (z_memU u5) hown hK.1 hS f5_4 (by decide) (zkd_of (rfl : zcd wC 60 = 19) rfl) (zrf_of (rfl : zcd wC 60 = 19) rfl) (Or.inl (hts _ (z_mem k149))) dX5_choose_52 ?_
                  refine lv_iload_n hx hb dX5_choose_55 rfl (lv_at hl 2 rfl) ?_
                  obtain ⟨o35, h⟩ := h
                  refine w_aald (n := 4) (i := (sI a1)) (j2 := (65 + 1 * (sI a1).toNat)) hx hb hK.1 (t0 := 7) (r := 7) (by decide) rfl rfl hS (by decide) (zkd_of (rfl : zcd wC 64 = 23) rfl) (zln_of (rfl : zcd wC 64 = 23) rfl) rfl o35.1 o35.2 (by decide) (zrf_of (rfl : zcd wC 64 = 23) rfl) dX5_choose_56 ?_
                  obtain ⟨lt36, cd37⟩ : (65 + 1 * (sI a1).toNat) < nC ∧ zcd wC (65 + 1 * (sI a1).toNat) = 24 := (by decide : ∀ k : Nat, k < 4 → (65 + 1 * k) < nC ∧ zcd wC (65 + 1 * k) = 24) (sI a1).toNat (by clear h; have h0 := o35.1; have h1 := o35.2; omega)
                  refine lv_iload hx hb dX5_choose_57 (lv_at hl 4 rfl) ?_
                  obtain ⟨o38, h⟩ := h
                  refine w_iald (n := 300) (i := (sI x20)) hx hb hK.1 (t0 := 0) rfl hS lt36 (zkd_of cd37 rfl) (zln_of cd37 rfl) rfl o38.1 o38.2 (by decide) dX5_choose_59 ?_
                  refine z_iconst hx hb dX5_choose_60 ?_
                  refine w_ixor hx hb dX5_choose_61 ?_
                  refine w_iand hx hb dX5_choose_62 ?_
                  obtain ⟨t39, e40⟩ : ∃ t39 : Int, t39 = (andI a2 (xorI (M (65 + 1 * (sI a1).toNat) (sI x20).toNat) (-1))) := ⟨_, rfl⟩
                  refine z_top (y := t39) e40.symm ?_
                  have h := h t39 e40
                  refine lv_istore (lv' := [(7, .int (iI t39)), (0, .ref (b + 60)), (1, .ref (b + q1)), (2, .int (iI a1)), (3, .int (iI a2)), (4, .int (iI x20)), (5, .int (iI x11)), (6, .int (iI x21))]) hx hb dX5_choose_63 hl (by decide) rfl (fun ls hl => ?_)
                  refine z_iinc (lv' := [(4, .int (iI (x20 + 1))), (7, .int (iI t39)), (0, .ref (b + 60)), (1, .ref (b + q1)), (2, .int (iI a1)), (3, .int (iI a2)), (5, .int (iI x11)), (6, .int (iI x21))]) hx hb dX5_choose_65 hl (k := 5) rfl (by decide) rfl (fun ls hl => ?_)
                  refine lv_aload_n hx hb dX5_choose_68 rfl (lv_at hl 3 rfl) ?_
                  refine lv_iload hx hb dX5_choose_69 (lv_at hl 6 rfl) ?_
                  refine lv_iload hx hb dX5_choose_71 (lv_at hl 7 rfl) ?_
                  refine w_calli (va_runS (As := [.ref (b + q1), .int (iI x11), .int (iI x21)]) (rest := []) ⟨hx, hb, hml, hown, hts⟩ (cC_Planner_cost l D dA b M q1 x11 x21 lt2 cd3 _ h) (va_cwS 3 hts (z_gS k640 k641 k8 k642) rfl rfl rfl dm_X5_cost.2 ⟨Nat.le_of_ble_eq_true rfl, Nat.le_of_ble_eq_true rfl⟩) ⟨wPre_blind, w_pre hS hK⟩ rfl rfl hl.1 rfl (lv_room (Nat.le_of_ble_eq_true rfl)) dX5_choose_73 ⟨Nat.le_refl _, Nat.le_refl _⟩) hS0 (fun z42 M41 H locs r43 h hS hS0 => ?_)
                  obtain ⟨e44, h⟩ := h
                  rw [e44] at hS
                  refine lv_aload_n hx hb dX5_choose_76 rfl (lv_at hl 2 rfl) ?_
                  refine w_getr (j2 := 69) hx hb hts (z_memU u5) hown hK.1 hS f5_5 (by decide) (zkd_of (rfl : zcd wC 60 = 19) rfl) (zrf_of (rfl : zcd wC 60 = 19) rfl) (Or.inl (hts _ (z_mem k150))) dX5_choose_77 ?_
                  refine lv_iload_n hx hb dX5_choose_80 rfl (lv_at hl 4 rfl) ?_
                  refine z_iconst hx hb dX5_choose_81 ?_
                  refine z_iadd hx hb dX5_choose_82 ?_
                  obtain ⟨o45, h⟩ := h
                  refine w_aald (n := 5) (i := (sI (a1 + 1))) (j2 := (70 + 1 * (sI (a1 + 1)).toNat)) hx hb hK.1 (t0 := 7) (r := 7) (by decide) rfl rfl hS (by decide) (zkd_of (rfl : zcd wC 69 = 25) rfl) (zln_of (rfl : zcd wC 69 = 25) rfl) rfl o45.1 o45.2 (by decide) (zrf_of (rfl : zcd wC 69 = 25) rfl) dX5_choose_83 ?_
                  obtain ⟨lt46, cd47⟩ : (70 + 1 * (sI (a1 + 1)).toNat) < nC ∧ zcd wC (70 + 1 * (sI (a1 + 1)).toNat) = 26 := (by decide : ∀ k : Nat, k < 5 → (70 + 1 * k) < nC ∧ zcd wC (70 + 1 * k) = 26) (sI (a1 + 1)).toNat (by clear h; have h0 := o45.1; have h1 := o45.2; omega)
                  refine lv_iload hx hb dX5_choose_84 (lv_at hl 1 rfl) ?_
                  obtain ⟨o48, h⟩ := h
                  refine w_iald (n := 64) (i := t39) hx hb hK.1 (t0 := 0) rfl hS lt46 (zkd_of cd47 rfl) (zln_of cd47 rfl) (by rw [e40]; exact (sI_of (andI_R _ _))) o48.1 o48.2 (by decide) dX5_choose_86 ?_
                  refine z_iadd hx hb dX5_choose_87 ?_
                  refine lv_aload_n hx hb dX5_choose_88 rfl (lv_at hl 2 rfl) ?_
                  refine w_getr (j2 := 69) hx hb hts (z_memU u5) hown hK.1 hS f5_5 (by decide) (zkd_of (rfl : zcd wC 60 = 19) rfl) (zrf_of (rfl : zcd wC 60 = 19) rfl) (Or.inl (hts _ (z_mem k150))) dX5_choose_89 ?_
                  refine lv_iload_n hx hb dX5_choose_92 rfl (lv_at hl 4 rfl) ?_
                  obtain ⟨o49, h⟩ := h
                  refine w_aald (n := 5) (i := (sI a1)) (j2 := (70 + 1 * (sI a1).toNat)) hx hb hK.1 (t0 := 7) (r := 7) (by decide) rfl rfl hS (by decide) (zkd_of (rfl : zcd wC 69 = 25) rfl) (zln_of (rfl : zcd wC 69 = 25) rfl) rfl o49.1 o49.2 (by decide) (zrf_of (rfl : zcd wC 69 = 25) rfl) dX5_choose_93 ?_
                  obtain ⟨lt50, cd51⟩ : (70 + 1 * (sI a1).toNat) < nC ∧ zcd wC (70 + 1 * (sI a1).toNat) = 26 := (by decide : ∀ k : Nat, k < 5 → (70 + 1 * k) < nC ∧ zcd wC (70 + 1 * k) = 26) (sI a1).toNat (by clear h; have h0 := o49.1; have h1 := o49.2; omega)
                  refine lv_iload_n hx hb dX5_choose_94 rfl (lv_at hl 5 rfl) ?_
                  obtain ⟨o52, h⟩ := h
                  refine w_iald (n := 64) (i := (sI a2)) hx hb hK.1 (t0 := 0) rfl hS lt50 (zkd_of cd51 rfl) (zln_of cd51 rfl) rfl o52.1 o52.2 (by decide) dX5_choose_95 ?_
                  refine w_icmp_ne (tgt := 124) hx hb rfl rfl dX5_choose_96 (by decide) (fun c53 => ?_) (fun c53 => ?_)
                  · skip
                    have h := h.1 c53
                    refine z_iinc (lv' := [(6, .int (iI (x21 + 1))), (4, .int (iI (x20 + 1))), (7, .int (iI t39)), (0, .ref (b + 60)), (1, .ref (b + q1)), (2, .int (iI a1)), (3, .int (iI a2)), (5, .int (iI x11))]) hx hb dX5_choose_124 hl (k := 7) rfl (by decide) rfl (fun ls hl => ?_)
                    refine lv_goto (tgt := 27) hx hb dX5_choose_127 (by decide) ?_
                    obtain ⟨n54, h55, h⟩ := h
                    exact i28 n54 h55 (x20 + 1) (x21 + 1) _ _ _ h hS hS0 (lv_sub hl [3, 4, 5, 6, 1, 7, 0] rfl)
                  · skip
                    have h := h.2 c53
                    refine lv_aload_n hx hb dX5_choose_99 rfl (lv_at hl 2 rfl) ?_
                    refine w_getr (j2 := 63) hx hb hts (z_memU u5) hown hK.1 hS f5_3 (by decide) (zkd_of (rfl : zcd wC 60 = 19) rfl) (zrf_of (rfl : zcd wC 60 = 19) rfl) (Or.inl (hts _ (z_mem k147))) dX5_choose_100 ?_
                    refine z_iconst hx hb dX5_choose_103 ?_
                    refine lv_iload_n hx hb dX5_choose_104 rfl (lv_at hl 4 rfl) ?_
                    refine z_imul hx hb dX5_choose_105 ?_
                    refine lv_iload hx hb dX5_choose_106 (lv_at hl 6 rfl) ?_
                    obtain ⟨o56, h⟩ := h
                    refine w_iast (z := x11) (n := 8) (i := (sI (2 * a1))) hx hb hK.1 (t0 := 0) rfl hS hS0 (by decide) (zkd_of (rfl : zcd wC 63 = 22) rfl) (zln_of (rfl : zcd wC 63 = 22) rfl) rfl o56.1 o56.2 (by decide) dX5_choose_108 (fun H locs hS hS0 => ?_)
                    obtain ⟨M57, e58⟩ : ∃ M57 : zM, M57 = zup M 63 (sI (2 * a1)).toNat x11 := ⟨_, rfl⟩
                    rw [← e58] at hS
                    have h := h M57 e58
                    refine lv_aload_n hx hb dX5_choose_109 rfl (lv_at hl 2 rfl) ?_
                    refine w_getr (j2 := 63) hx hb hts (z_memU u5) hown hK.1 hS f5_3 (by decide) (zkd_of (rfl : zcd wC 60 = 19) rfl) (zrf_of (rfl : zcd wC 60 = 19) rfl) (Or.inl (hts _ (z_mem k147))) dX5_choose_110 ?_
                    refine z_iconst hx hb dX5_choose_113 ?_
                    refine lv_iload_n hx hb dX5_choose_114 rfl (lv_at hl 4 rfl) ?_
                    refine z_imul hx hb dX5_choose_115 ?_
                    refine z_iconst hx hb dX5_choose_116 ?_
                    refine z_iadd hx hb dX5_choose_117 ?_
                    refine lv_iload hx hb dX5_choose_118 (lv_at hl 7 rfl) ?_
                    obtain ⟨o59, h⟩ := h
                    refine w_iast (z := x21) (n := 8) (i := (sI ((2 * a1) + 1))) hx hb hK.1 (t0 := 0) rfl hS hS0 (by decide) (zkd_of (rfl : zcd wC 63 = 22) rfl) (zln_of (rfl : zcd wC 63 = 22) rfl) rfl o59.1 o59.2 (by decide) dX5_choose_120 (fun H locs hS hS0 => ?_)
                    obtain ⟨M60, e61⟩ : ∃ M60 : zM, M60 = zup M57 63 (sI ((2 * a1) + 1)).toNat x21 := ⟨_, rfl⟩
                    rw [← e61] at hS
                    have h := h M60 e61
                    refine lv_iload hx hb dX5_choose_121 (lv_at hl 1 rfl) ?_
                    exact w_iret hx hb hr hlocks hS hS0 (by rw [e40]; exact (sI_of (andI_R _ _))) h dX5_choose_123
          exact L26 n23 x10 0 _ _ _ h24 hS hS0 (lv_sub hl [1, 2, 3, 4, 5, 6, 0] rfl)
    exact L16 n13 0 0 _ _ _ h14 hS hS0 (lv_sub hl [2, 3, 4, 5, 1, 0] rfl)

set_option maxRecDepth 100000 in
def wC_Planner_find  (M : zM) (Q : Int → zM → Prop) : Prop := ((0 ≤ (sI (M 32 2)) ∧ (sI (M 32 2)) < 5) ∧ wC_fill (70 + 1 * (sI (M 32 2)).toNat) 1000000 M (fun M4 => ((0 ≤ (sI (M 32 2)) ∧ (sI (M 32 2)) < 5) ∧ (∀ M8 : zM, M8 = zup M4 (70 + 1 * (sI (M 32 2)).toNat) 0 0 → wL1 (fun K29 x10 M11 => ((sI x10) < 0 → ((0 ≤ (sI ((shlI 1 (M11 60 2)) - 1)) ∧ (sI ((shlI 1 (M11 60 2)) - 1)) < 64) ∧ (∀ t21 : Int, t21 = (M11 70 (sI ((shlI 1 (M11 60 2)) - 1)).toNat) → ((sI t21) < 1000000 → wL2 (fun K133 x24 x25 M26 => ((sI (M 32 2)) ≤ (sI x25) → Q (sI t21) M26) ∧ ((sI x25) < (sI (M 32 2)) → wC_Studio_find x25 M26 (fun z36 => (z36 = none → wC_Planner_choose none x25 x24 M26 (fun z42 M41 => K133 z42 (x25 + 1) M41)) ∧ (∀ q38, z36 = some q38 → (q38 < nC ∧ zcd wC q38 = 14) ∧ (wC_Planner_choose (some q38) x25 x24 M26 (fun z53 M52 => K133 z53 (x25 + 1) M52)))))) ((shlI 1 (M11 60 2)) - 1) 0 M11) ∧ (1000000 ≤ (sI t21) → Q (-1) M11)))) ∧ (0 ≤ (sI x10) → wC_Studio_find x10 M11 (fun z58 => (z58 = none → K29 (x10 + (-1)) M11) ∧ (∀ q60, z58 = some q60 → (q60 < nC ∧ zcd wC q60 = 14) ∧ (wC_Studio_motorOf (M11 q60 1) M11 (fun z72 => ∃ q74, z72 = some q74 ∧ (q74 < nC ∧ zcd wC q74 = 11) ∧ (((0 ≤ (sI x10) ∧ (sI x10) < 4) ∧ wC_Planner_listTrue q60 q74 (65 + 1 * (sI x10).toNat) M11 (fun M84 => ((0 ≤ (sI x10) ∧ (sI x10) < 4) ∧ wC_Planner_listCheapest q60 (65 + 1 * (sI x10).toNat) M84 (fun M88 => ((0 ≤ (sI (x10 + 1)) ∧ (sI (x10 + 1)) < 5) ∧ ((0 ≤ (sI x10) ∧ (sI x10) < 5) ∧ wC_Planner_addCosts (70 + 1 * (sI (x10 + 1)).toNat) (70 + 1 * (sI x10).toNat) M88 (fun M95 => K29 (x10 + (-1)) M95)))))))))))))) ((M 32 2) - 1) M8))))
set_option maxHeartbeats 4000000 in
set_option maxRecDepth 100000 in
theorem cC_Planner_find (l : Launch) (D : va_G) (dA : Nat → ClassId) (b : Nat) (M : zM)   (Q : Int → zM → Prop) (h : wC_Planner_find  M Q) : Met l yX5_find (.code yX5_find cX5_find 6 (some .int) :: zt) (z_rm 4) (va_Pc [.ref (b + 60), .ref (b + 32)] (wPre D dA vwCl (z_tys dA) wC nC b M)) (va_Qi (wQi Q) (zB D dA vwCl wC nC b) (zA nC b)) 0 0 (zA nC b) := by
  unfold wC_Planner_find at h
  refine Met.ofW (cc := cX5_find) (maxL := 6) (ret := (some .int)) (by decide) rfl ?_
  intro p e s m args below meth c s₁ B hml hv
  obtain ⟨hargs, hS, hK⟩ := hv
  have hx := B.exec
  have hb := B.bytes
  have hr := B.returns
  have hts := atoms_spec (ws := .code yX5_find cX5_find 6 (some .int) :: zt) B.pre
  have hown : s.vm.findClass RX5 = some m.cls := findClass_of_methodNamed B.named
  have hlocks := B.notSynchronized
  have hS0 : va_S (zA nC b) s.heap s.heap [] := va_S.rf
  have hl := lv_entry ([.ref (b + 60), .ref (b + 32)]) (n := 6) (Nat.le_of_ble_eq_true rfl)
  have hent : entryFrame m args 6 = F0 m 0 ((lg_sl ([.ref (b + 60), .ref (b + 32)]) ++ List.replicate (6 - (lg_sl ([.ref (b + 60), .ref (b + 32)])).length) Slot.unset).toArray) [] := by rw [hargs]; exact lg_entry_eq m ([.ref (b + 60), .ref (b + 32)]) 6
  rw [hent]
  generalize (lg_sl ([.ref (b + 60), .ref (b + 32)]) ++ List.replicate (6 - (lg_sl ([.ref (b + 60), .ref (b + 32)])).length) Slot.unset).toArray = ls at hl ⊢
  have hl : lv_has ls 6 [(0, .ref (b + 60)), (1, .ref (b + 32))] := hl
  refine lv_aload_n hx hb dX5_find_0 rfl (lv_at hl 1 rfl) ?_
  refine w_geti hx hb hts (z_memU u9) hown hK.1 hS f9_2 (by decide) (zkd_of (rfl : zcd wC 32 = 8) rfl) (Or.inl (hts _ (z_mem k119))) dX5_find_1 ?_
  refine lv_istore_n (lv' := [(2, .int (iI (M 32 2))), (0, .ref (b + 60)), (1, .ref (b + 32))]) hx hb dX5_find_4 rfl hl (by decide) rfl (fun ls hl => ?_)
  refine lv_aload_n hx hb dX5_find_5 rfl (lv_at hl 1 rfl) ?_
  refine w_getr (j2 := 69) hx hb hts (z_memU u5) hown hK.1 hS f5_5 (by decide) (zkd_of (rfl : zcd wC 60 = 19) rfl) (zrf_of (rfl : zcd wC 60 = 19) rfl) (Or.inl (hts _ (z_mem k150))) dX5_find_6 ?_
  refine lv_iload_n hx hb dX5_find_9 rfl (lv_at hl 0 rfl) ?_
  obtain ⟨o1, h⟩ := h
  refine w_aald (n := 5) (i := (sI (M 32 2))) (j2 := (70 + 1 * (sI (M 32 2)).toNat)) hx hb hK.1 (t0 := 7) (r := 7) (by decide) rfl rfl hS (by decide) (zkd_of (rfl : zcd wC 69 = 25) rfl) (zln_of (rfl : zcd wC 69 = 25) rfl) rfl o1.1 o1.2 (by decide) (zrf_of (rfl : zcd wC 69 = 25) rfl) dX5_find_10 ?_
  obtain ⟨lt2, cd3⟩ : (70 + 1 * (sI (M 32 2)).toNat) < nC ∧ zcd wC (70 + 1 * (sI (M 32 2)).toNat) = 26 := (by decide : ∀ k : Nat, k < 5 → (70 + 1 * k) < nC ∧ zcd wC (70 + 1 * k) = 26) (sI (M 32 2)).toNat (by clear h; have h0 := o1.1; have h1 := o1.2; omega)
  refine z_ldc (n := 1000000) hx hb hown (hts _ (z_mem k625)) (by decide) dX5_find_11 ?_
  refine w_callv (va_runS (As := [.ref (b + (70 + 1 * (sI (M 32 2)).toNat)), .int (iI 1000000)]) (rest := []) ⟨hx, hb, hml, hown, hts⟩ (cC_fill l D dA b M (70 + 1 * (sI (M 32 2)).toNat) 1000000 lt2 (zkd_of cd3 rfl) (Nat.lt_of_le_of_lt (Nat.le_of_eq (zln_of cd3 rfl)) (by decide)) _ h) (va_cwS 2 hts (z_gS k626 k170 k10 k171) rfl rfl rfl dm_J7_fill_53178.2 ⟨Nat.le_of_ble_eq_true rfl, Nat.le_of_ble_eq_true rfl⟩) ⟨wPre_blind, w_pre hS hK⟩ rfl rfl hl.1 rfl (lv_room (Nat.le_of_ble_eq_true rfl)) dX5_find_13 ⟨Nat.le_refl _, Nat.le_refl _⟩) hS0 (fun M4 H locs h hS hS0 => ?_)
  refine lv_aload_n hx hb dX5_find_16 rfl (lv_at hl 1 rfl) ?_
  refine w_getr (j2 := 69) hx hb hts (z_memU u5) hown hK.1 hS f5_5 (by decide) (zkd_of (rfl : zcd wC 60 = 19) rfl) (zrf_of (rfl : zcd wC 60 = 19) rfl) (Or.inl (hts _ (z_mem k150))) dX5_find_17 ?_
  refine lv_iload_n hx hb dX5_find_20 rfl (lv_at hl 0 rfl) ?_
  obtain ⟨o5, h⟩ := h
  refine w_aald (n := 5) (i := (sI (M 32 2))) (j2 := (70 + 1 * (sI (M 32 2)).toNat)) hx hb hK.1 (t0 := 7) (r := 7) (by decide) rfl rfl hS (by decide) (zkd_of (rfl : zcd wC 69 = 25) rfl) (zln_of (rfl : zcd wC 69 = 25) rfl) rfl o5.1 o5.2 (by decide) (zrf_of (rfl : zcd wC 69 = 25) rfl) dX5_find_21 ?_
  obtain ⟨lt6, cd7⟩ : (70 + 1 * (sI (M 32 2)).toNat) < nC ∧ zcd wC (70 + 1 * (sI (M 32 2)).toNat) = 26 := (by decide : ∀ k : Nat, k < 5 → (70 + 1 * k) < nC ∧ zcd wC (70 + 1 * k) = 26) (sI (M 32 2)).toNat (by clear h; have h0 := o5.1; have h1 := o5.2; omega)
  refine z_iconst hx hb dX5_find_22 ?_
  refine z_iconst hx hb dX5_find_23 ?_
  refine w_iast (z := 0) (n := 64) (i := 0) hx hb hK.1 (t0 := 0) rfl hS hS0 lt6 (zkd_of cd7 rfl) (zln_of cd7 rfl) (sI_of (by decide)) (by decide) (by decide) (by decide) dX5_find_24 (fun H locs hS hS0 => ?_)
  rw [show ((0 : Int).toNat) = 0 from rfl] at hS
  obtain ⟨M8, e9⟩ : ∃ M8 : zM, M8 = zup M4 (70 + 1 * (sI (M 32 2)).toNat) 0 0 := ⟨_, rfl⟩
  rw [← e9] at hS
  have h := h M8 e9
  refine lv_iload_n hx hb dX5_find_25 rfl (lv_at hl 0 rfl) ?_
  refine z_iconst hx hb dX5_find_26 ?_
  refine z_isub hx hb dX5_find_27 ?_
  refine lv_istore_n (lv' := [(3, .int (iI ((M 32 2) - 1))), (2, .int (iI (M 32 2))), (0, .ref (b + 60)), (1, .ref (b + 32))]) hx hb dX5_find_28 rfl hl (by decide) rfl (fun ls hl => ?_)
  obtain ⟨I12, ⟨n13, h14⟩, h15⟩ := h
  have L16 : ∀ (n17 : Nat) (x10 : Int) (M11 : zM) (H : Heap) (locs : List Loc) (ls : Array Slot), I12 n17 x10 M11 → zR D dA vwCl wC nC b M11 H → va_S (zA nC b) s.heap H locs → lv_has ls 6 [(0, .ref (b + 60)), (1, .ref (b + 32)), (2, .int (iI (M 32 2))), (3, .int (iI x10))] → W p l e (headSpec (.code yX5_find cX5_find 6 (some .int) :: zt) (z_rm 4)).room s m args below meth c H locs 0 0 (MQ below (va_Qi (wQi Q) (zB D dA vwCl wC nC b) (zA nC b)) args s 0 0 (zA nC b)) (F0 m 29 ls []) := by
    intro n17
    induction n17 using Nat.strongRecOn with
    | ind n17 i18 =>
      intro x10 M11 H locs ls h hS hS0 hl
      have h := h15 n17 x10 M11 h
      refine lv_iload_n hx hb dX5_find_29 rfl (lv_at hl 3 rfl) ?_
      refine w_if_lt (tgt := 102) hx hb rfl dX5_find_30 (by decide) (fun c19 => ?_) (fun c19 => ?_)
      · skip
        have h := h.1 c19
        refine z_iconst hx hb dX5_find_102 ?_
        refine lv_aload_n hx hb dX5_find_103 rfl (lv_at hl 0 rfl) ?_
        refine w_geti hx hb hts (z_memU u5) hown hK.1 hS f5_2 (by decide) (zkd_of (rfl : zcd wC 60 = 19) rfl) (Or.inl (hts _ (z_mem k145))) dX5_find_104 ?_
        refine w_ishl hx hb dX5_find_107 ?_
        refine z_iconst hx hb dX5_find_108 ?_
        refine z_isub hx hb dX5_find_109 ?_
        refine lv_istore_n (lv' := [(3, .int (iI ((shlI 1 (M11 60 2)) - 1))), (0, .ref (b + 60)), (1, .ref (b + 32)), (2, .int (iI (M 32 2)))]) hx hb dX5_find_110 rfl hl (by decide) rfl (fun ls hl => ?_)
        refine lv_aload_n hx hb dX5_find_111 rfl (lv_at hl 1 rfl) ?_
        refine w_getr (j2 := 69) hx hb hts (z_memU u5) hown hK.1 hS f5_5 (by decide) (zkd_of (rfl : zcd wC 60 = 19) rfl) (zrf_of (rfl : zcd wC 60 = 19) rfl) (Or.inl (hts _ (z_mem k150))) dX5_find_112 ?_
        refine z_iconst hx hb dX5_find_115 ?_
        refine w_aald (n := 5) (i := 0) (j2 := 70) hx hb hK.1 (t0 := 7) (r := 7) (by decide) rfl rfl hS (by decide) (zkd_of (rfl : zcd wC 69 = 25) rfl) (zln_of (rfl : zcd wC 69 = 25) rfl) (sI_of (by decide)) (by decide) (by decide) (by decide) (zrf_of (rfl : zcd wC 69 = 25) rfl) dX5_find_116 ?_
        refine lv_iload_n hx hb dX5_find_117 rfl (lv_at hl 0 rfl) ?_
        obtain ⟨o20, h⟩ := h
        refine w_iald (n := 64) (i := (sI ((shlI 1 (M11 60 2)) - 1))) hx hb hK.1 (t0 := 0) rfl hS (by decide) (zkd_of (rfl : zcd wC 70 = 26) rfl) (zln_of (rfl : zcd wC 70 = 26) rfl) rfl o20.1 o20.2 (by decide) dX5_find_118 ?_
        obtain ⟨t21, e22⟩ : ∃ t21 : Int, t21 = (M11 70 (sI ((shlI 1 (M11 60 2)) - 1)).toNat) := ⟨_, rfl⟩
        refine z_top (y := t21) e22.symm ?_
        have h := h t21 e22
        refine lv_istore (lv' := [(4, .int (iI t21)), (3, .int (iI ((shlI 1 (M11 60 2)) - 1))), (0, .ref (b + 60)), (1, .ref (b + 32)), (2, .int (iI (M 32 2)))]) hx hb dX5_find_119 hl (by decide) rfl (fun ls hl => ?_)
        refine lv_iload hx hb dX5_find_121 (lv_at hl 0 rfl) ?_
        refine z_ldc (n := 1000000) hx hb hown (hts _ (z_mem k625)) (by decide) dX5_find_123 ?_
        refine w_icmp_lt (tgt := 130) hx hb rfl (sI_of (by decide)) dX5_find_125 (by decide) (fun c23 => ?_) (fun c23 => ?_)
        · skip
          have h := h.1 c23
          refine z_iconst hx hb dX5_find_130 ?_
          refine lv_istore (lv' := [(5, .int (iI 0)), (4, .int (iI t21)), (3, .int (iI ((shlI 1 (M11 60 2)) - 1))), (0, .ref (b + 60)), (1, .ref (b + 32)), (2, .int (iI (M 32 2)))]) hx hb dX5_find_131 hl (by decide) rfl (fun ls hl => ?_)
          obtain ⟨I27, ⟨n28, h29⟩, h30⟩ := h
          have L31 : ∀ (n32 : Nat) (x24 x25 : Int) (M26 : zM) (H : Heap) (locs : List Loc) (ls : Array Slot), I27 n32 x24 x25 M26 → zR D dA vwCl wC nC b M26 H → va_S (zA nC b) s.heap H locs → lv_has ls 6 [(0, .ref (b + 60)), (1, .ref (b + 32)), (2, .int (iI (M 32 2))), (3, .int (iI x24)), (4, .int (iI t21)), (5, .int (iI x25))] → W p l e (headSpec (.code yX5_find cX5_find 6 (some .int) :: zt) (z_rm 4)).room s m args below meth c H locs 0 0 (MQ below (va_Qi (wQi Q) (zB D dA vwCl wC nC b) (zA nC b)) args s 0 0 (zA nC b)) (F0 m 133 ls []) := by
            intro n32
            induction n32 using Nat.strongRecOn with
            | ind n32 i33 =>
              intro x24 x25 M26 H locs ls h hS hS0 hl
              have h := h30 n32 x24 x25 M26 h
              refine lv_iload hx hb dX5_find_133 (lv_at hl 5 rfl) ?_
              refine lv_iload_n hx hb dX5_find_135 rfl (lv_at hl 2 rfl) ?_
              refine w_icmp_ge (tgt := 159) hx hb rfl rfl dX5_find_136 (by decide) (fun c34 => ?_) (fun c34 => ?_)
              · skip
                have h := h.1 c34
                refine lv_iload hx hb dX5_find_159 (lv_at hl 4 rfl) ?_
                exact w_iret hx hb hr hlocks hS hS0 rfl h dX5_find_161
              · skip
                have h := h.2 c34
                refine lv_aload_n hx hb dX5_find_139 rfl (lv_at hl 0 rfl) ?_
                refine lv_aload_n hx hb dX5_find_140 rfl (lv_at hl 1 rfl) ?_
                refine lv_iload hx hb dX5_find_141 (lv_at hl 5 rfl) ?_
                refine w_callq (va_runV (As := [.int (iI x25)]) (rest := [.ref (b + 60)]) ⟨hx, hb, hml, hown, hts⟩ (cC_Studio_find l D dA b M26 x25 _ h) (cwV 1 hts (z_gV k627 k412 k413 k4 k414) rfl rfl rfl dm_X9_find ⟨Nat.le_of_ble_eq_true rfl, Nat.le_of_ble_eq_true rfl⟩) ⟨wPre_blind, (w_recv hS hK.1 (by decide) (zkd_of (rfl : zcd wC 32 = 8) rfl) (by decide) (rfl : vwCl[9]? = some (RX9, TX9, 3))), w_pre hS hK⟩ rfl rfl hl.1 rfl (lv_room (Nat.le_of_ble_eq_true rfl)) dX5_find_143 ⟨Nat.le_refl _, Nat.le_refl _⟩) hS0 (fun z36 M35 H locs h hS hS0 => ?_)
                obtain ⟨e37, h⟩ := h
                rw [e37] at hS
                rcases z36 with _ | q38
                · skip
                  have h := h.1 rfl
                  refine lv_iload hx hb dX5_find_146 (lv_at hl 5 rfl) ?_
                  refine lv_iload_n hx hb dX5_find_148 rfl (lv_at hl 3 rfl) ?_
                  refine w_calli (va_runV (As := [.null, .int (iI x25), .int (iI x24)]) (rest := []) ⟨hx, hb, hml, hown, hts⟩ (cC_Planner_choose l D dA b M26 none x25 x24 (fun _ h9 => by cases h9) _ h) (cwV 3 hts (z_gV k650 k651 k1374 k8 k652) rfl rfl rfl dm_X5_choose ⟨Nat.le_of_ble_eq_true rfl, Nat.le_of_ble_eq_true rfl⟩) ⟨wPre_blind, (w_recv hS hK.1 (by decide) (zkd_of (rfl : zcd wC 60 = 19) rfl) (by decide) (rfl : vwCl[5]? = some (RX5, TX5, 9))), w_pre hS hK⟩ rfl rfl hl.1 rfl (lv_room (Nat.le_of_ble_eq_true rfl)) dX5_find_149 ⟨Nat.le_refl _, Nat.le_refl _⟩) hS0 (fun z42 M41 H locs r43 h hS hS0 => ?_)
                  refine lv_istore_n (lv' := [(3, .int (iI z42)), (0, .ref (b + 60)), (1, .ref (b + 32)), (2, .int (iI (M 32 2))), (4, .int (iI t21)), (5, .int (iI x25))]) hx hb dX5_find_152 rfl hl (by decide) rfl (fun ls hl => ?_)
                  refine z_iinc (lv' := [(5, .int (iI (x25 + 1))), (3, .int (iI z42)), (0, .ref (b + 60)), (1, .ref (b + 32)), (2, .int (iI (M 32 2))), (4, .int (iI t21))]) hx hb dX5_find_153 hl (k := 5) rfl (by decide) rfl (fun ls hl => ?_)
                  refine lv_goto (tgt := 133) hx hb dX5_find_156 (by decide) ?_
                  obtain ⟨n44, h45, h⟩ := h
                  exact i33 n44 h45 z42 (x25 + 1) M41 _ _ _ h hS hS0 (lv_sub hl [2, 3, 4, 1, 5, 0] rfl)
                · skip
                  obtain ⟨⟨lt39, cd40⟩, h⟩ := h.2 q38 rfl
                  obtain ⟨lt46, cd47, lt48, cd49, lt50, cd51⟩ := nx_ring q38 lt39 cd40
                  refine lv_iload hx hb dX5_find_146 (lv_at hl 5 rfl) ?_
                  refine lv_iload_n hx hb dX5_find_148 rfl (lv_at hl 3 rfl) ?_
                  refine w_calli (va_runV (As := [.ref (b + q38), .int (iI x25), .int (iI x24)]) (rest := []) ⟨hx, hb, hml, hown, hts⟩ (cC_Planner_choose l D dA b M26 (some q38) x25 x24 (fun _ h9 => by cases h9; exact ⟨lt39, cd40⟩) _ h) (cwV 3 hts (z_gV k650 k651 k1374 k8 k652) rfl rfl rfl dm_X5_choose ⟨Nat.le_of_ble_eq_true rfl, Nat.le_of_ble_eq_true rfl⟩) ⟨wPre_blind, (w_recv hS hK.1 (by decide) (zkd_of (rfl : zcd wC 60 = 19) rfl) (by decide) (rfl : vwCl[5]? = some (RX5, TX5, 9))), w_pre hS hK⟩ rfl rfl hl.1 rfl (lv_room (Nat.le_of_ble_eq_true rfl)) dX5_find_149 ⟨Nat.le_refl _, Nat.le_refl _⟩) hS0 (fun z53 M52 H locs r54 h hS hS0 => ?_)
                  refine lv_istore_n (lv' := [(3, .int (iI z53)), (0, .ref (b + 60)), (1, .ref (b + 32)), (2, .int (iI (M 32 2))), (4, .int (iI t21)), (5, .int (iI x25))]) hx hb dX5_find_152 rfl hl (by decide) rfl (fun ls hl => ?_)
                  refine z_iinc (lv' := [(5, .int (iI (x25 + 1))), (3, .int (iI z53)), (0, .ref (b + 60)), (1, .ref (b + 32)), (2, .int (iI (M 32 2))), (4, .int (iI t21))]) hx hb dX5_find_153 hl (k := 5) rfl (by decide) rfl (fun ls hl => ?_)
                  refine lv_goto (tgt := 133) hx hb dX5_find_156 (by decide) ?_
                  obtain ⟨n55, h56, h⟩ := h
                  exact i33 n55 h56 z53 (x25 + 1) M52 _ _ _ h hS hS0 (lv_sub hl [2, 3, 4, 1, 5, 0] rfl)
          exact L31 n28 ((shlI 1 (M11 60 2)) - 1) 0 M11 _ _ _ h29 hS hS0 (lv_sub hl [3, 4, 5, 2, 1, 0] rfl)
        · skip
          have h := h.2 c23
          refine z_iconst hx hb dX5_find_128 ?_
          exact w_iret hx hb hr hlocks hS hS0 (sI_of (by decide)) h dX5_find_129
      · skip
        have h := h.2 c19
        refine lv_aload_n hx hb dX5_find_33 rfl (lv_at hl 1 rfl) ?_
        refine lv_iload_n hx hb dX5_find_34 rfl (lv_at hl 3 rfl) ?_
        refine w_callq (va_runV (As := [.int (iI x10)]) (rest := []) ⟨hx, hb, hml, hown, hts⟩ (cC_Studio_find l D dA b M11 x10 _ h) (cwV 1 hts (z_gV k627 k412 k413 k4 k414) rfl rfl rfl dm_X9_find ⟨Nat.le_of_ble_eq_true rfl, Nat.le_of_ble_eq_true rfl⟩) ⟨wPre_blind, (w_recv hS hK.1 (by decide) (zkd_of (rfl : zcd wC 32 = 8) rfl) (by decide) (rfl : vwCl[9]? = some (RX9, TX9, 3))), w_pre hS hK⟩ rfl rfl hl.1 rfl (lv_room (Nat.le_of_ble_eq_true rfl)) dX5_find_35 ⟨Nat.le_refl _, Nat.le_refl _⟩) hS0 (fun z58 M57 H locs h hS hS0 => ?_)
        obtain ⟨e59, h⟩ := h
        rw [e59] at hS
        rcases z58 with _ | q60
        · skip
          have h := h.1 rfl
          refine lv_astoreN (lv' := [(4, .null), (0, .ref (b + 60)), (1, .ref (b + 32)), (2, .int (iI (M 32 2))), (3, .int (iI x10))]) hx hb dX5_find_38 hl (by decide) rfl (fun ls hl => ?_)
          refine lv_aloadN hx hb dX5_find_40 (lv_at hl 0 rfl) ?_
          refine lv_ifnullN (tgt := 96) hx hb dX5_find_42 (by decide) ?_
          refine z_iinc (lv' := [(3, .int (iI (x10 + (-1)))), (4, .null), (0, .ref (b + 60)), (1, .ref (b + 32)), (2, .int (iI (M 32 2)))]) hx hb dX5_find_96 hl (k := 4) rfl (by decide) rfl (fun ls hl => ?_)
          refine lv_goto (tgt := 29) hx hb dX5_find_99 (by decide) ?_
          obtain ⟨n63, h64, h⟩ := h
          exact i18 n63 h64 (x10 + (-1)) M11 _ _ _ h hS hS0 (lv_sub hl [2, 3, 4, 0] rfl)
        · skip
          obtain ⟨⟨lt61, cd62⟩, h⟩ := h.2 q60 rfl
          obtain ⟨lt65, cd66, lt67, cd68, lt69, cd70⟩ := nx_ring q60 lt61 cd62
          refine lv_astore (lv' := [(4, .ref (b + q60)), (0, .ref (b + 60)), (1, .ref (b + 32)), (2, .int (iI (M 32 2))), (3, .int (iI x10))]) hx hb dX5_find_38 hl (by decide) rfl (fun ls hl => ?_)
          refine lv_aload hx hb dX5_find_40 (lv_at hl 0 rfl) ?_
          refine lv_ifnull hx hb dX5_find_42 ?_
          refine lv_aload_n hx hb dX5_find_45 rfl (lv_at hl 1 rfl) ?_
          refine lv_aload hx hb dX5_find_46 (lv_at hl 0 rfl) ?_
          refine lv_aload_n hx hb dX5_find_48 rfl (lv_at hl 2 rfl) ?_
          refine lv_aload hx hb dX5_find_49 (lv_at hl 0 rfl) ?_
          refine w_geti hx hb hts (z_memU u6) hown hK.1 hS f6_1 lt61 (zkd_of cd62 rfl) (Or.inl (hts _ (z_mem k98))) dX5_find_51 ?_
          refine w_callq (va_runV (As := [.int (iI (M11 q60 1))]) (rest := [.ref (b + q60), .ref (b + 60)]) ⟨hx, hb, hml, hown, hts⟩ (cC_Studio_motorOf l D dA b M11 (M11 q60 1) _ h) (cwV 1 hts (z_gV k628 k443 k444 k4 k445) rfl rfl rfl dm_X9_motorOf ⟨Nat.le_of_ble_eq_true rfl, Nat.le_of_ble_eq_true rfl⟩) ⟨wPre_blind, (w_recv hS hK.1 (by decide) (zkd_of (rfl : zcd wC 32 = 8) rfl) (by decide) (rfl : vwCl[9]? = some (RX9, TX9, 3))), w_pre hS hK⟩ rfl rfl hl.1 rfl (lv_room (Nat.le_of_ble_eq_true rfl)) dX5_find_54 ⟨Nat.le_refl _, Nat.le_refl _⟩) hS0 (fun z72 M71 H locs h hS hS0 => ?_)
          obtain ⟨e73, h⟩ := h
          rw [e73] at hS
          obtain ⟨q74, rfl, ⟨lt75, cd76⟩, h⟩ := h
          obtain ⟨lt77, cd78, lt79, cd80⟩ := nx_motor q74 lt75 cd76
          refine lv_aload_n hx hb dX5_find_57 rfl (lv_at hl 1 rfl) ?_
          refine w_getr (j2 := 64) hx hb hts (z_memU u5) hown hK.1 hS f5_4 (by decide) (zkd_of (rfl : zcd wC 60 = 19) rfl) (zrf_of (rfl : zcd wC 60 = 19) rfl) (Or.inl (hts _ (z_mem k149))) dX5_find_58 ?_
          refine lv_iload_n hx hb dX5_find_61 rfl (lv_at hl 4 rfl) ?_
          obtain ⟨o81, h⟩ := h
          refine w_aald (n := 4) (i := (sI x10)) (j2 := (65 + 1 * (sI x10).toNat)) hx hb hK.1 (t0 := 7) (r := 7) (by decide) rfl rfl hS (by decide) (zkd_of (rfl : zcd wC 64 = 23) rfl) (zln_of (rfl : zcd wC 64 = 23) rfl) rfl o81.1 o81.2 (by decide) (zrf_of (rfl : zcd wC 64 = 23) rfl) dX5_find_62 ?_
          obtain ⟨lt82, cd83⟩ : (65 + 1 * (sI x10).toNat) < nC ∧ zcd wC (65 + 1 * (sI x10).toNat) = 24 := (by decide : ∀ k : Nat, k < 4 → (65 + 1 * k) < nC ∧ zcd wC (65 + 1 * k) = 24) (sI x10).toNat (by clear h; have h0 := o81.1; have h1 := o81.2; omega)
          refine w_callv (va_runV (As := [.ref (b + q60), .ref (b + q74), .ref (b + (65 + 1 * (sI x10).toNat))]) (rest := []) ⟨hx, hb, hml, hown, hts⟩ (cC_Planner_listTrue l D dA b M11 q60 q74 (65 + 1 * (sI x10).toNat) lt61 cd62 lt75 cd76 lt82 (zkd_of cd83 rfl) (Nat.lt_of_le_of_lt (Nat.le_of_eq (zln_of cd83 rfl)) (by decide)) _ h) (cwV 3 hts (z_gV k629 k630 k1370 k8 k631) rfl rfl rfl dm_X5_listTrue ⟨Nat.le_of_ble_eq_true rfl, Nat.le_of_ble_eq_true rfl⟩) ⟨wPre_blind, (w_recv hS hK.1 (by decide) (zkd_of (rfl : zcd wC 60 = 19) rfl) (by decide) (rfl : vwCl[5]? = some (RX5, TX5, 9))), w_pre hS hK⟩ rfl rfl hl.1 rfl (lv_room (Nat.le_of_ble_eq_true rfl)) dX5_find_63 ⟨Nat.le_refl _, Nat.le_refl _⟩) hS0 (fun M84 H locs h hS hS0 => ?_)
          refine lv_aload_n hx hb dX5_find_66 rfl (lv_at hl 1 rfl) ?_
          refine lv_aload hx hb dX5_find_67 (lv_at hl 0 rfl) ?_
          refine lv_aload_n hx hb dX5_find_69 rfl (lv_at hl 1 rfl) ?_
          refine w_getr (j2 := 64) hx hb hts (z_memU u5) hown hK.1 hS f5_4 (by decide) (zkd_of (rfl : zcd wC 60 = 19) rfl) (zrf_of (rfl : zcd wC 60 = 19) rfl) (Or.inl (hts _ (z_mem k149))) dX5_find_70 ?_
          refine lv_iload_n hx hb dX5_find_73 rfl (lv_at hl 4 rfl) ?_
          obtain ⟨o85, h⟩ := h
          refine w_aald (n := 4) (i := (sI x10)) (j2 := (65 + 1 * (sI x10).toNat)) hx hb hK.1 (t0 := 7) (r := 7) (by decide) rfl rfl hS (by decide) (zkd_of (rfl : zcd wC 64 = 23) rfl) (zln_of (rfl : zcd wC 64 = 23) rfl) rfl o85.1 o85.2 (by decide) (zrf_of (rfl : zcd wC 64 = 23) rfl) dX5_find_74 ?_
          obtain ⟨lt86, cd87⟩ : (65 + 1 * (sI x10).toNat) < nC ∧ zcd wC (65 + 1 * (sI x10).toNat) = 24 := (by decide : ∀ k : Nat, k < 4 → (65 + 1 * k) < nC ∧ zcd wC (65 + 1 * k) = 24) (sI x10).toNat (by clear h; have h0 := o85.1; have h1 := o85.2; omega)
          refine w_callv (va_runV (As := [.ref (b + q60), .ref (b + (65 + 1 * (sI x10).toNat))]) (rest := []) ⟨hx, hb, hml, hown, hts⟩ (cC_Planner_listCheapest l D dA b M84 q60 (65 + 1 * (sI x10).toNat) lt61 cd62 lt86 (zkd_of cd87 rfl) (Nat.lt_of_le_of_lt (Nat.le_of_eq (zln_of cd87 rfl)) (by decide)) _ h) (cwV 2 hts (z_gV k637 k638 k1372 k8 k639) rfl rfl rfl dm_X5_listCheapest ⟨Nat.le_of_ble_eq_true rfl, Nat.le_of_ble_eq_true rfl⟩) ⟨wPre_blind, (w_recv hS hK.1 (by decide) (zkd_of (rfl : zcd wC 60 = 19) rfl) (by decide) (rfl : vwCl[5]? = some (RX5, TX5, 9))), w_pre hS hK⟩ rfl rfl hl.1 rfl (lv_room (Nat.le_of_ble_eq_true rfl)) dX5_find_75 ⟨Nat.le_refl _, Nat.le_refl _⟩) hS0 (fun M88 H locs h hS hS0 => ?_)
          refine lv_aload_n hx hb dX5_find_78 rfl (lv_at hl 1 rfl) ?_
          refine lv_aload_n hx hb dX5_find_79 rfl (lv_at hl 1 rfl) ?_
          refine w_getr (j2 := 69) hx hb hts (z_memU u5) hown hK.1 hS f5_5 (by decide) (zkd_of (rfl : zcd wC 60 = 19) rfl) (zrf_of (rfl : zcd wC 60 = 19) rfl) (Or.inl (hts _ (z_mem k150))) dX5_find_80 ?_
          refine lv_iload_n hx hb dX5_find_83 rfl (lv_at hl 4 rfl) ?_
          refine z_iconst hx hb dX5_find_84 ?_
          refine z_iadd hx hb dX5_find_85 ?_
          obtain ⟨o89, h⟩ := h
          refine w_aald (n := 5) (i := (sI (x10 + 1))) (j2 := (70 + 1 * (sI (x10 + 1)).toNat)) hx hb hK.1 (t0 := 7) (r := 7) (by decide) rfl rfl hS (by decide) (zkd_of (rfl : zcd wC 69 = 25) rfl) (zln_of (rfl : zcd wC 69 = 25) rfl) rfl o89.1 o89.2 (by decide) (zrf_of (rfl : zcd wC 69 = 25) rfl) dX5_find_86 ?_
          obtain ⟨lt90, cd91⟩ : (70 + 1 * (sI (x10 + 1)).toNat) < nC ∧ zcd wC (70 + 1 * (sI (x10 + 1)).toNat) = 26 := (by decide : ∀ k : Nat, k < 5 → (70 + 1 * k) < nC ∧ zcd wC (70 + 1 * k) = 26) (sI (x10 + 1)).toNat (by clear h; have h0 := o89.1; have h1 := o89.2; omega)
          refine lv_aload_n hx hb dX5_find_87 rfl (lv_at hl 1 rfl) ?_
          refine w_getr (j2 := 69) hx hb hts (z_memU u5) hown hK.1 hS f5_5 (by decide) (zkd_of (rfl : zcd wC 60 = 19) rfl) (zrf_of (rfl : zcd wC 60 = 19) rfl) (Or.inl (hts _ (z_mem k150))) dX5_find_88 ?_
          refine lv_iload_n hx hb dX5_find_91 rfl (lv_at hl 4 rfl) ?_
          obtain ⟨o92, h⟩ := h
          refine w_aald (n := 5) (i := (sI x10)) (j2 := (70 + 1 * (sI x10).toNat)) hx hb hK.1 (t0 := 7) (r := 7) (by decide) rfl rfl hS (by decide) (zkd_of (rfl : zcd wC 69 = 25) rfl) (zln_of (rfl : zcd wC 69 = 25) rfl) rfl o92.1 o92.2 (by decide) (zrf_of (rfl : zcd wC 69 = 25) rfl) dX5_find_92 ?_
          obtain ⟨lt93, cd94⟩ : (70 + 1 * (sI x10).toNat) < nC ∧ zcd wC (70 + 1 * (sI x10).toNat) = 26 := (by decide : ∀ k : Nat, k < 5 → (70 + 1 * k) < nC ∧ zcd wC (70 + 1 * k) = 26) (sI x10).toNat (by clear h; have h0 := o92.1; have h1 := o92.2; omega)
          refine w_callv (va_runV (As := [.ref (b + (70 + 1 * (sI (x10 + 1)).toNat)), .ref (b + (70 + 1 * (sI x10).toNat))]) (rest := []) ⟨hx, hb, hml, hown, hts⟩ (cC_Planner_addCosts l D dA b M88 (70 + 1 * (sI (x10 + 1)).toNat) (70 + 1 * (sI x10).toNat) lt90 (zkd_of cd91 rfl) (Nat.lt_of_le_of_lt (Nat.le_of_eq (zln_of cd91 rfl)) (by decide)) lt93 (zkd_of cd94 rfl) (Nat.lt_of_le_of_lt (Nat.le_of_eq (zln_of cd94 rfl)) (by decide)) _ h) (cwV 2 hts (z_gV k647 k648 k1373 k8 k649) rfl rfl rfl dm_X5_addCosts ⟨Nat.le_of_ble_eq_true rfl, Nat.le_of_ble_eq_true rfl⟩) ⟨wPre_blind, (w_recv hS hK.1 (by decide) (zkd_of (rfl : zcd wC 60 = 19) rfl) (by decide) (rfl : vwCl[5]? = some (RX5, TX5, 9))), w_pre hS hK⟩ rfl rfl hl.1 rfl (lv_room (Nat.le_of_ble_eq_true rfl)) dX5_find_93 ⟨Nat.le_refl _, Nat.le_refl _⟩) hS0 (fun M95 H locs h hS hS0 => ?_)
          refine z_iinc (lv' := [(3, .int (iI (x10 + (-1)))), (4, .ref (b + q60)), (0, .ref (b + 60)), (1, .ref (b + 32)), (2, .int (iI (M 32 2)))]) hx hb dX5_find_96 hl (k := 4) rfl (by decide) rfl (fun ls hl => ?_)
          refine lv_goto (tgt := 29) hx hb dX5_find_99 (by decide) ?_
          obtain ⟨n96, h97, h⟩ := h
          exact i18 n96 h97 (x10 + (-1)) M95 _ _ _ h hS hS0 (lv_sub hl [2, 3, 4, 0] rfl)
  exact L16 n13 ((M 32 2) - 1) M8 _ _ _ h14 hS hS0 (lv_sub hl [2, 3, 1, 0] rfl)

set_option maxRecDepth 100000 in
def wC_tell (a0 : Nat) (a1 : Int) (M : zM) (Q : zM → Prop) : Prop := (∀ M1 : zM, M1 = zup M 0 10 (min (sI a1) (min ((zln wC a0) : Int) 40)) → ((a0 ≠ 133) ∧ ((0 ≤ (sI (M1 0 10))) ∧ ((0 + (sI (M1 0 10)) ≤ (zln wC a0)) ∧ ((0 + (sI (M1 0 10)) ≤ 40) ∧ (∀ M7 : zM, M7 = zcp M1 a0 133 (0 : Int).toNat (0 : Int).toNat ((sI (M1 0 10)) : Int).toNat → Q M7))))))
set_option maxHeartbeats 4000000 in
set_option maxRecDepth 100000 in
theorem cC_tell (l : Launch) (D : va_G) (dA : Nat → ClassId) (b : Nat) (M : zM) (a0 : Nat) (a1 : Int) (lt_a0 : a0 < nC) (kd_a0 : zkd wC a0 = 100) (ln_a0 : zln wC a0 < 2147483648) (Q : zM → Prop) (h : wC_tell a0 a1 M Q) : Met l yX11_tell (.code yX11_tell cX11_tell 3 none :: zt) (z_rm 1) (va_Pc [.ref (b + 0), .ref (b + a0), .int (iI a1)] (wPre D dA vwCl (z_tys dA) wC nC b M)) (va_Qv (wQv Q) (zB D dA vwCl wC nC b) (zA nC b)) 0 0 (zA nC b) := by
  unfold wC_tell at h
  refine Met.ofW (cc := cX11_tell) (maxL := 3) (ret := none) (by decide) rfl ?_
  intro p e s m args below meth c s₁ B hml hv
  obtain ⟨hargs, hS, hK⟩ := hv
  have hx := B.exec
  have hb := B.bytes
  have hr := B.returns
  have hts := atoms_spec (ws := .code yX11_tell cX11_tell 3 none :: zt) B.pre
  have hown : s.vm.findClass RX11 = some m.cls := findClass_of_methodNamed B.named
  have hlocks := B.notSynchronized
  have hS0 : va_S (zA nC b) s.heap s.heap [] := va_S.rf
  have hl := lv_entry ([.ref (b + 0), .ref (b + a0), .int (iI a1)]) (n := 3) (Nat.le_of_ble_eq_true rfl)
  have hent : entryFrame m args 3 = F0 m 0 ((lg_sl ([.ref (b + 0), .ref (b + a0), .int (iI a1)]) ++ List.replicate (3 - (lg_sl ([.ref (b + 0), .ref (b + a0), .int (iI a1)])).length) Slot.unset).toArray) [] := by rw [hargs]; exact lg_entry_eq m ([.ref (b + 0), .ref (b + a0), .int (iI a1)]) 3
  rw [hent]
  generalize (lg_sl ([.ref (b + 0), .ref (b + a0), .int (iI a1)]) ++ List.replicate (3 - (lg_sl ([.ref (b + 0), .ref (b + a0), .int (iI a1)])).length) Slot.unset).toArray = ls at hl ⊢
  have hl : lv_has ls 3 [(0, .ref (b + 0)), (1, .ref (b + a0)), (2, .int (iI a1))] := hl
  refine lv_aload_n hx hb dX11_tell_0 rfl (lv_at hl 0 rfl) ?_
  refine lv_iload_n hx hb dX11_tell_1 rfl (lv_at hl 2 rfl) ?_
  refine lv_aload_n hx hb dX11_tell_2 rfl (lv_at hl 1 rfl) ?_
  refine w_alen (n := (zln wC a0)) hx hb hK.1 (t0 := 0) rfl hS lt_a0 kd_a0 rfl dX11_tell_3 ?_
  refine lv_aload_n hx hb dX11_tell_4 rfl (lv_at hl 0 rfl) ?_
  refine w_getr (j2 := 133) hx hb hts (z_memU u11) hown hK.1 hS f11_9 (by decide) (zkd_of (rfl : zcd wC 0 = 0) rfl) (zrf_of (rfl : zcd wC 0 = 0) rfl) (Or.inl (hts _ (z_mem k251))) dX11_tell_5 ?_
  refine w_alen (n := 40) hx hb hK.1 (t0 := 0) rfl hS (by decide) (zkd_of (rfl : zcd wC 133 = 49) rfl) (zln_of (rfl : zcd wC 133 = 49) rfl) dX11_tell_8 ?_
  refine z_top (show (((40 : Nat) : Int)) = 40 from by decide) ?_
  refine w_mmin hx hb (hml.trans hl.1.symm) hown (hts _ (z_mem k656)) (hts _ (z_mem k320)) (hts _ (z_mem k15)) (hts _ (z_mem k321)) (by exact Nat.le_of_ble_eq_true rfl) (by exact Nat.le_of_ble_eq_true rfl) (by exact Nat.le_refl _) (by exact Nat.le_refl _) (sI_of ⟨by clear h; omega, by clear h; have := ln_a0; omega⟩) (sI_of (by decide)) dX11_tell_9 ?_
  refine w_mmin hx hb (hml.trans hl.1.symm) hown (hts _ (z_mem k656)) (hts _ (z_mem k320)) (hts _ (z_mem k15)) (hts _ (z_mem k321)) (by exact Nat.le_of_ble_eq_true rfl) (by exact Nat.le_of_ble_eq_true rfl) (by exact Nat.le_refl _) (by exact Nat.le_refl _) rfl (sI_of (R_min (sI_c (x := ((zln wC a0) : Int)) (sI_of ⟨by clear h; omega, by clear h; have := ln_a0; omega⟩)) (sI_c (x := 40) (sI_of (by decide))))) dX11_tell_12 ?_
  refine w_puti hx hb hts (z_memU u11) tyX11 tyX11_ok nmX11 hown hK.1 hS hS0 f11_10 (by decide) (zkd_of (rfl : zcd wC 0 = 0) rfl) (Or.inl (hts _ (z_mem k252))) rfl (z := (min (sI a1) (min ((zln wC a0) : Int) 40))) (by decide +kernel) dX11_tell_15 (fun H locs hS hS0 => ?_)
  obtain ⟨M1, e2⟩ : ∃ M1 : zM, M1 = zup M 0 10 (min (sI a1) (min ((zln wC a0) : Int) 40)) := ⟨_, rfl⟩
  rw [← e2] at hS
  have h := h M1 e2
  refine lv_aload_n hx hb dX11_tell_18 rfl (lv_at hl 1 rfl) ?_
  refine z_iconst hx hb dX11_tell_19 ?_
  refine lv_aload_n hx hb dX11_tell_20 rfl (lv_at hl 0 rfl) ?_
  refine w_getr (j2 := 133) hx hb hts (z_memU u11) hown hK.1 hS f11_9 (by decide) (zkd_of (rfl : zcd wC 0 = 0) rfl) (zrf_of (rfl : zcd wC 0 = 0) rfl) (Or.inl (hts _ (z_mem k251))) dX11_tell_21 ?_
  refine z_iconst hx hb dX11_tell_24 ?_
  refine lv_aload_n hx hb dX11_tell_25 rfl (lv_at hl 0 rfl) ?_
  refine w_geti hx hb hts (z_memU u11) hown hK.1 hS f11_10 (by decide) (zkd_of (rfl : zcd wC 0 = 0) rfl) (Or.inl (hts _ (z_mem k252))) dX11_tell_26 ?_
  obtain ⟨o3, h⟩ := h
  obtain ⟨o4, h⟩ := h
  obtain ⟨o5, h⟩ := h
  obtain ⟨o6, h⟩ := h
  refine w_acopy (n0 := (zln wC a0)) (n1 := 40) (sp := 0) (dp := 0) (n := (sI (M1 0 10))) hx hb (hml.trans hl.1.symm) hown (hts _ (z_mem k657)) (hts _ (z_mem k366)) (hts _ (z_mem k365)) (hts _ (z_mem k16)) hK.1 (t0 := 0) rfl hS hS0 lt_a0 (by decide) o3 kd_a0 (zkd_of (rfl : zcd wC 133 = 49) rfl) rfl (zln_of (rfl : zcd wC 133 = 49) rfl) ln_a0 (by decide) (sI_of (by decide)) (sI_of (by decide)) rfl (by decide) (by decide) o4 o5 o6 (by exact Nat.le_of_ble_eq_true rfl) (by exact Nat.le_of_ble_eq_true rfl) dX11_tell_29 (fun H locs hS hS0 => ?_)
  obtain ⟨M7, e8⟩ : ∃ M7 : zM, M7 = zcp M1 a0 133 (0 : Int).toNat (0 : Int).toNat ((sI (M1 0 10)) : Int).toNat := ⟨_, rfl⟩
  rw [← e8] at hS
  have h := h M7 e8
  exact w_vret hx hb hr hlocks hS hS0 h dX11_tell_32

set_option maxRecDepth 100000 in
def wC_plan  (M : zM) (Q : Int → zM → Prop) : Prop := wC_Planner_find  M (fun z2 M1 => (z2 = (-1) → Q z2 M1) ∧ (z2 ≠ (-1) → wC_tell 63 (2 * (M1 32 2)) M1 (fun M5 => Q z2 M5)))
set_option maxHeartbeats 4000000 in
set_option maxRecDepth 100000 in
theorem cC_plan (l : Launch) (D : va_G) (dA : Nat → ClassId) (b : Nat) (M : zM)   (Q : Int → zM → Prop) (h : wC_plan  M Q) : Met l yX11_plan (.code yX11_plan cX11_plan 2 (some .int) :: zt) (z_rm 5) (va_Pc [.ref (b + 0)] (wPre D dA vwCl (z_tys dA) wC nC b M)) (va_Qi (wQi Q) (zB D dA vwCl wC nC b) (zA nC b)) 0 0 (zA nC b) := by
  unfold wC_plan at h
  refine Met.ofW (cc := cX11_plan) (maxL := 2) (ret := (some .int)) (by decide) rfl ?_
  intro p e s m args below meth c s₁ B hml hv
  obtain ⟨hargs, hS, hK⟩ := hv
  have hx := B.exec
  have hb := B.bytes
  have hr := B.returns
  have hts := atoms_spec (ws := .code yX11_plan cX11_plan 2 (some .int) :: zt) B.pre
  have hown : s.vm.findClass RX11 = some m.cls := findClass_of_methodNamed B.named
  have hlocks := B.notSynchronized
  have hS0 : va_S (zA nC b) s.heap s.heap [] := va_S.rf
  have hl := lv_entry ([.ref (b + 0)]) (n := 2) (Nat.le_of_ble_eq_true rfl)
  have hent : entryFrame m args 2 = F0 m 0 ((lg_sl ([.ref (b + 0)]) ++ List.replicate (2 - (lg_sl ([.ref (b + 0)])).length) Slot.unset).toArray) [] := by rw [hargs]; exact lg_entry_eq m ([.ref (b + 0)]) 2
  rw [hent]
  generalize (lg_sl ([.ref (b + 0)]) ++ List.replicate (2 - (lg_sl ([.ref (b + 0)])).length) Slot.unset).toArray = ls at hl ⊢
  have hl : lv_has ls 2 [(0, .ref (b + 0))] := hl
  refine lv_aload_n hx hb dX11_plan_0 rfl (lv_at hl 0 rfl) ?_
  refine w_getr (j2 := 60) hx hb hts (z_memU u11) hown hK.1 hS f11_4 (by decide) (zkd_of (rfl : zcd wC 0 = 0) rfl) (zrf_of (rfl : zcd wC 0 = 0) rfl) (Or.inl (hts _ (z_mem k246))) dX11_plan_1 ?_
  refine lv_aload_n hx hb dX11_plan_4 rfl (lv_at hl 0 rfl) ?_
  refine w_getr (j2 := 32) hx hb hts (z_memU u11) hown hK.1 hS f11_2 (by decide) (zkd_of (rfl : zcd wC 0 = 0) rfl) (zrf_of (rfl : zcd wC 0 = 0) rfl) (Or.inl (hts _ (z_mem k244))) dX11_plan_5 ?_
  refine w_calli (va_runV (As := [.ref (b + 32)]) (rest := []) ⟨hx, hb, hml, hown, hts⟩ (cC_Planner_find l D dA b M  _ h) (cwV 1 hts (z_gV k621 k622 k623 k8 k624) rfl rfl rfl dm_X5_find ⟨Nat.le_of_ble_eq_true rfl, Nat.le_of_ble_eq_true rfl⟩) ⟨wPre_blind, (w_recv hS hK.1 (by decide) (zkd_of (rfl : zcd wC 60 = 19) rfl) (by decide) (rfl : vwCl[5]? = some (RX5, TX5, 9))), w_pre hS hK⟩ rfl rfl hl.1 rfl (lv_room (Nat.le_of_ble_eq_true rfl)) dX11_plan_8 ⟨Nat.le_refl _, Nat.le_refl _⟩) hS0 (fun z2 M1 H locs r3 h hS hS0 => ?_)
  refine lv_istore_n (lv' := [(1, .int (iI z2)), (0, .ref (b + 0))]) hx hb dX11_plan_11 rfl hl (by decide) rfl (fun ls hl => ?_)
  refine lv_iload_n hx hb dX11_plan_12 rfl (lv_at hl 0 rfl) ?_
  refine z_iconst hx hb dX11_plan_13 ?_
  refine w_icmp_eq (tgt := 37) hx hb (sI_of r3) (sI_of (by decide)) dX11_plan_14 (by decide) (fun c4 => ?_) (fun c4 => ?_)
  · skip
    have h := h.1 c4
    refine lv_iload_n hx hb dX11_plan_37 rfl (lv_at hl 0 rfl) ?_
    exact w_iret hx hb hr hlocks hS hS0 (sI_of r3) h dX11_plan_38
  · skip
    have h := h.2 c4
    refine lv_aload_n hx hb dX11_plan_17 rfl (lv_at hl 1 rfl) ?_
    refine lv_aload_n hx hb dX11_plan_18 rfl (lv_at hl 1 rfl) ?_
    refine w_getr (j2 := 60) hx hb hts (z_memU u11) hown hK.1 hS f11_4 (by decide) (zkd_of (rfl : zcd wC 0 = 0) rfl) (zrf_of (rfl : zcd wC 0 = 0) rfl) (Or.inl (hts _ (z_mem k246))) dX11_plan_19 ?_
    refine w_getr (j2 := 63) hx hb hts (z_memU u5) hown hK.1 hS f5_3 (by decide) (zkd_of (rfl : zcd wC 60 = 19) rfl) (zrf_of (rfl : zcd wC 60 = 19) rfl) (Or.inl (hts _ (z_mem k148))) dX11_plan_22 ?_
    refine z_iconst hx hb dX11_plan_25 ?_
    refine lv_aload_n hx hb dX11_plan_26 rfl (lv_at hl 1 rfl) ?_
    refine w_getr (j2 := 32) hx hb hts (z_memU u11) hown hK.1 hS f11_2 (by decide) (zkd_of (rfl : zcd wC 0 = 0) rfl) (zrf_of (rfl : zcd wC 0 = 0) rfl) (Or.inl (hts _ (z_mem k244))) dX11_plan_27 ?_
    refine w_geti hx hb hts (z_memU u9) hown hK.1 hS f9_2 (by decide) (zkd_of (rfl : zcd wC 32 = 8) rfl) (Or.inl (hts _ (z_mem k120))) dX11_plan_30 ?_
    refine z_imul hx hb dX11_plan_33 ?_
    refine w_callv (va_runV (As := [.ref (b + 63), .int (iI (2 * (M1 32 2)))]) (rest := []) ⟨hx, hb, hml, hown, hts⟩ (cC_tell l D dA b M1 63 (2 * (M1 32 2)) (by decide) (zkd_of (rfl : zcd wC 63 = 22) rfl) (Nat.lt_of_le_of_lt (Nat.le_of_eq (zln_of (rfl : zcd wC 63 = 22) rfl)) (by decide)) _ h) (cwV 2 hts (z_gV k653 k654 k1375 k1 k655) rfl rfl rfl dm_X11_tell ⟨Nat.le_of_ble_eq_true rfl, Nat.le_of_ble_eq_true rfl⟩) ⟨wPre_blind, (w_recv hS hK.1 (by decide) (zkd_of (rfl : zcd wC 0 = 0) rfl) (by decide) (rfl : vwCl[11]? = some (RX11, TX11, 11))), w_pre hS hK⟩ rfl rfl hl.1 rfl (lv_room (Nat.le_of_ble_eq_true rfl)) dX11_plan_34 ⟨Nat.le_refl _, Nat.le_refl _⟩) hS0 (fun M5 H locs h hS hS0 => ?_)
    refine lv_iload_n hx hb dX11_plan_37 rfl (lv_at hl 0 rfl) ?_
    exact w_iret hx hb hr hlocks hS hS0 (sI_of r3) h dX11_plan_38

set_option maxRecDepth 100000 in
def wC_Ring_cutBy (j : Nat) (a0 : Int) (M : zM) (Q : zM → Prop) : Prop := (∀ M7 : zM, M7 = zup M (j + 1) 1 ((M (j + 1) 1) - a0) → wC_by (sI (M7 j 2)) (M7 (j + 1) 1) M7 (fun z10 => (∀ M13 : zM, M13 = zup M7 j 2 z10 → wC_Ring_listen j M13 (fun M15 => Q M15))))
set_option maxHeartbeats 4000000 in
set_option maxRecDepth 100000 in
theorem cC_Ring_cutBy (l : Launch) (D : va_G) (dA : Nat → ClassId) (b : Nat) (M : zM) (j : Nat) (a0 : Int) (lt_j : j < nC) (cd_j : zcd wC j = 14) (Q : zM → Prop) (h : wC_Ring_cutBy j a0 M Q) : Met l yX6_cutBy (.code yX6_cutBy cX6_cutBy 2 none :: zt) (z_rm 4) (va_Pc [.ref (b + j), .int (iI a0)] (wPre D dA vwCl (z_tys dA) wC nC b M)) (va_Qv (wQv Q) (zB D dA vwCl wC nC b) (zA nC b)) 0 0 (zA nC b) := by
  unfold wC_Ring_cutBy at h
  refine Met.ofW (cc := cX6_cutBy) (maxL := 2) (ret := none) (by decide) rfl ?_
  intro p e s m args below meth c s₁ B hml hv
  obtain ⟨hargs, hS, hK⟩ := hv
  have hx := B.exec
  have hb := B.bytes
  have hr := B.returns
  have hts := atoms_spec (ws := .code yX6_cutBy cX6_cutBy 2 none :: zt) B.pre
  have hown : s.vm.findClass RX6 = some m.cls := findClass_of_methodNamed B.named
  have hlocks := B.notSynchronized
  have hS0 : va_S (zA nC b) s.heap s.heap [] := va_S.rf
  have hl := lv_entry ([.ref (b + j), .int (iI a0)]) (n := 2) (Nat.le_of_ble_eq_true rfl)
  have hent : entryFrame m args 2 = F0 m 0 ((lg_sl ([.ref (b + j), .int (iI a0)]) ++ List.replicate (2 - (lg_sl ([.ref (b + j), .int (iI a0)])).length) Slot.unset).toArray) [] := by rw [hargs]; exact lg_entry_eq m ([.ref (b + j), .int (iI a0)]) 2
  rw [hent]
  generalize (lg_sl ([.ref (b + j), .int (iI a0)]) ++ List.replicate (2 - (lg_sl ([.ref (b + j), .int (iI a0)])).length) Slot.unset).toArray = ls at hl ⊢
  have hl : lv_has ls 2 [(0, .ref (b + j)), (1, .int (iI a0))] := hl
  obtain ⟨lt1, cd2, lt3, cd4, lt5, cd6⟩ := nx_ring j lt_j cd_j
  refine lv_aload_n hx hb dX6_cutBy_0 rfl (lv_at hl 0 rfl) ?_
  refine w_getr (j2 := (j + 1)) hx hb hts (z_memU u6) hown hK.1 hS f6_0 lt_j (zkd_of cd_j rfl) (zrf_of cd_j rfl) (Or.inl (hts _ (z_mem k93))) dX6_cutBy_1 ?_
  refine lv_dup hx hb dX6_cutBy_4 rfl ?_
  refine w_geti hx hb hts (z_memU u8) hown hK.1 hS f8_1 lt1 (zkd_of cd2 rfl) (Or.inl (hts _ (z_mem k45))) dX6_cutBy_5 ?_
  refine lv_iload_n hx hb dX6_cutBy_8 rfl (lv_at hl 1 rfl) ?_
  refine z_isub hx hb dX6_cutBy_9 ?_
  refine w_puti hx hb hts (z_memU u8) tyX8 tyX8_ok nmX8 hown hK.1 hS hS0 f8_1 lt1 (zkd_of cd2 rfl) (Or.inl (hts _ (z_mem k45))) rfl (z := ((M (j + 1) 1) - a0)) (by decide +kernel) dX6_cutBy_10 (fun H locs hS hS0 => ?_)
  obtain ⟨M7, e8⟩ : ∃ M7 : zM, M7 = zup M (j + 1) 1 ((M (j + 1) 1) - a0) := ⟨_, rfl⟩
  rw [← e8] at hS
  have h := h M7 e8
  refine lv_aload_n hx hb dX6_cutBy_13 rfl (lv_at hl 0 rfl) ?_
  refine lv_aload_n hx hb dX6_cutBy_14 rfl (lv_at hl 0 rfl) ?_
  refine w_geti hx hb hts (z_memU u6) hown hK.1 hS f6_2 lt_j (zkd_of cd_j rfl) (Or.inl (hts _ (z_mem k101))) dX6_cutBy_15 ?_
  refine w_i2l hx hb rfl dX6_cutBy_18 ?_
  refine lv_aload_n hx hb dX6_cutBy_19 rfl (lv_at hl 0 rfl) ?_
  refine w_getr (j2 := (j + 1)) hx hb hts (z_memU u6) hown hK.1 hS f6_0 lt_j (zkd_of cd_j rfl) (zrf_of cd_j rfl) (Or.inl (hts _ (z_mem k93))) dX6_cutBy_20 ?_
  refine w_geti hx hb hts (z_memU u8) hown hK.1 hS f8_1 lt1 (zkd_of cd2 rfl) (Or.inl (hts _ (z_mem k45))) dX6_cutBy_23 ?_
  refine w_calli (va_runSN (As := [.long (iL (sI (M7 j 2))), .int (iI (M7 (j + 1) 1))]) (rest := [.ref (b + j)]) ⟨hx, hb, hml, hown, hts⟩ (cC_by l D dA b M7 (sI (M7 j 2)) (M7 (j + 1) 1) _ h) ⟨va_cnB 2 hts (z_gN k406) rfl rfl rfl (hK.2 (RX6, 56, yX11_by, RX11) (List.mem_of_getElem? (i := 10) rfl)) (hts _ (z_mem k1)) dm_X11_by.2 ⟨Nat.le_of_ble_eq_true rfl, Nat.le_of_ble_eq_true rfl⟩, (hts _ (z_mem k405)), trivial⟩ ⟨wPre_blind, w_pre hS hK⟩ rfl rfl hl.1 rfl (lv_room (Nat.le_of_ble_eq_true rfl)) dX6_cutBy_26 ⟨Nat.le_refl _, Nat.le_refl _⟩) hS0 (fun z10 M9 H locs r11 h hS hS0 => ?_)
  obtain ⟨e12, h⟩ := h
  rw [e12] at hS
  refine w_puti hx hb hts (z_memU u6) tyX6 tyX6_ok nmX6 hown hK.1 hS hS0 f6_2 lt_j (zkd_of cd_j rfl) (Or.inl (hts _ (z_mem k101))) rfl (z := z10) (by decide +kernel) dX6_cutBy_29 (fun H locs hS hS0 => ?_)
  obtain ⟨M13, e14⟩ : ∃ M13 : zM, M13 = zup M7 j 2 z10 := ⟨_, rfl⟩
  rw [← e14] at hS
  have h := h M13 e14
  refine lv_aload_n hx hb dX6_cutBy_32 rfl (lv_at hl 0 rfl) ?_
  refine w_callv (va_runV (As := []) (rest := []) ⟨hx, hb, hml, hown, hts⟩ (cC_Ring_listen l D dA b M13 j lt_j cd_j _ h) (cwV 0 hts (z_gV k395 k396 k1363 k6 k397) rfl rfl rfl dm_X6_listen ⟨Nat.le_of_ble_eq_true rfl, Nat.le_of_ble_eq_true rfl⟩) ⟨wPre_blind, (w_recv hS hK.1 lt_j (zkd_of cd_j rfl) (by decide) (rfl : vwCl[6]? = some (RX6, TX6, 6))), w_pre hS hK⟩ rfl rfl hl.1 rfl (lv_room (Nat.le_of_ble_eq_true rfl)) dX6_cutBy_33 ⟨Nat.le_refl _, Nat.le_refl _⟩) hS0 (fun M15 H locs h hS hS0 => ?_)
  exact w_vret hx hb hr hlocks hS hS0 h dX6_cutBy_36

set_option maxRecDepth 100000 in
def wC_Planner_carryOut  (M : zM) (Q : zM → Prop) : Prop := wL1 (fun K2 x1 M2 => (4 ≤ (sI x1) → Q M2) ∧ ((sI x1) < 4 → wC_Studio_find x1 M2 (fun z12 => (z12 = none → K2 (x1 + 1) M2) ∧ (∀ q14, z12 = some q14 → (q14 < nC ∧ zcd wC q14 = 14) ∧ (((0 ≤ (sI (2 * x1)) ∧ (sI (2 * x1)) < 8) ∧ wC_Ring_cutBy q14 (M2 63 (sI (2 * x1)).toNat) M2 (fun M26 => ((0 ≤ (sI ((2 * x1) + 1)) ∧ (sI ((2 * x1) + 1)) < 8) ∧ (∀ M28 : zM, M28 = zup M26 q14 2 (M26 63 (sI ((2 * x1) + 1)).toNat) → K2 (x1 + 1) M28))))))))) 0 M
set_option maxHeartbeats 4000000 in
set_option maxRecDepth 100000 in
theorem cC_Planner_carryOut (l : Launch) (D : va_G) (dA : Nat → ClassId) (b : Nat) (M : zM)   (Q : zM → Prop) (h : wC_Planner_carryOut  M Q) : Met l yX5_carryOut (.code yX5_carryOut cX5_carryOut 4 none :: zt) (z_rm 5) (va_Pc [.ref (b + 60), .ref (b + 32)] (wPre D dA vwCl (z_tys dA) wC nC b M)) (va_Qv (wQv Q) (zB D dA vwCl wC nC b) (zA nC b)) 0 0 (zA nC b) := by
  unfold wC_Planner_carryOut at h
  refine Met.ofW (cc := cX5_carryOut) (maxL := 4) (ret := none) (by decide) rfl ?_
  intro p e s m args below meth c s₁ B hml hv
  obtain ⟨hargs, hS, hK⟩ := hv
  have hx := B.exec
  have hb := B.bytes
  have hr := B.returns
  have hts := atoms_spec (ws := .code yX5_carryOut cX5_carryOut 4 none :: zt) B.pre
  have hown : s.vm.findClass RX5 = some m.cls := findClass_of_methodNamed B.named
  have hlocks := B.notSynchronized
  have hS0 : va_S (zA nC b) s.heap s.heap [] := va_S.rf
  have hl := lv_entry ([.ref (b + 60), .ref (b + 32)]) (n := 4) (Nat.le_of_ble_eq_true rfl)
  have hent : entryFrame m args 4 = F0 m 0 ((lg_sl ([.ref (b + 60), .ref (b + 32)]) ++ List.replicate (4 - (lg_sl ([.ref (b + 60), .ref (b + 32)])).length) Slot.unset).toArray) [] := by rw [hargs]; exact lg_entry_eq m ([.ref (b + 60), .ref (b + 32)]) 4
  rw [hent]
  generalize (lg_sl ([.ref (b + 60), .ref (b + 32)]) ++ List.replicate (4 - (lg_sl ([.ref (b + 60), .ref (b + 32)])).length) Slot.unset).toArray = ls at hl ⊢
  have hl : lv_has ls 4 [(0, .ref (b + 60)), (1, .ref (b + 32))] := hl
  refine z_iconst hx hb dX5_carryOut_0 ?_
  refine lv_istore_n (lv' := [(2, .int (iI 0)), (0, .ref (b + 60)), (1, .ref (b + 32))]) hx hb dX5_carryOut_1 rfl hl (by decide) rfl (fun ls hl => ?_)
  obtain ⟨I3, ⟨n4, h5⟩, h6⟩ := h
  have L7 : ∀ (n8 : Nat) (x1 : Int) (M2 : zM) (H : Heap) (locs : List Loc) (ls : Array Slot), I3 n8 x1 M2 → zR D dA vwCl wC nC b M2 H → va_S (zA nC b) s.heap H locs → lv_has ls 4 [(0, .ref (b + 60)), (1, .ref (b + 32)), (2, .int (iI x1))] → W p l e (headSpec (.code yX5_carryOut cX5_carryOut 4 none :: zt) (z_rm 5)).room s m args below meth c H locs 0 0 (MQ below (va_Qv (wQv Q) (zB D dA vwCl wC nC b) (zA nC b)) args s 0 0 (zA nC b)) (F0 m 2 ls []) := by
    intro n8
    induction n8 using Nat.strongRecOn with
    | ind n8 i9 =>
      intro x1 M2 H locs ls h hS hS0 hl
      have h := h6 n8 x1 M2 h
      refine lv_iload_n hx hb dX5_carryOut_2 rfl (lv_at hl 2 rfl) ?_
      refine z_iconst hx hb dX5_carryOut_3 ?_
      refine w_icmp_ge (tgt := 49) hx hb rfl (sI_of (by decide)) dX5_carryOut_4 (by decide) (fun c10 => ?_) (fun c10 => ?_)
      · skip
        have h := h.1 c10
        exact w_vret hx hb hr hlocks hS hS0 h dX5_carryOut_49
      · skip
        have h := h.2 c10
        refine lv_aload_n hx hb dX5_carryOut_7 rfl (lv_at hl 1 rfl) ?_
        refine lv_iload_n hx hb dX5_carryOut_8 rfl (lv_at hl 2 rfl) ?_
        refine w_callq (va_runV (As := [.int (iI x1)]) (rest := []) ⟨hx, hb, hml, hown, hts⟩ (cC_Studio_find l D dA b M2 x1 _ h) (cwV 1 hts (z_gV k627 k412 k413 k4 k414) rfl rfl rfl dm_X9_find ⟨Nat.le_of_ble_eq_true rfl, Nat.le_of_ble_eq_true rfl⟩) ⟨wPre_blind, (w_recv hS hK.1 (by decide) (zkd_of (rfl : zcd wC 32 = 8) rfl) (by decide) (rfl : vwCl[9]? = some (RX9, TX9, 3))), w_pre hS hK⟩ rfl rfl hl.1 rfl (lv_room (Nat.le_of_ble_eq_true rfl)) dX5_carryOut_9 ⟨Nat.le_refl _, Nat.le_refl _⟩) hS0 (fun z12 M11 H locs h hS hS0 => ?_)
        obtain ⟨e13, h⟩ := h
        rw [e13] at hS
        rcases z12 with _ | q14
        · skip
          have h := h.1 rfl
          refine lv_astore_nN (lv' := [(3, .null), (0, .ref (b + 60)), (1, .ref (b + 32)), (2, .int (iI x1))]) hx hb dX5_carryOut_12 rfl hl (by decide) rfl (fun ls hl => ?_)
          refine lv_aload_nN hx hb dX5_carryOut_13 rfl (lv_at hl 0 rfl) ?_
          refine lv_ifnullN (tgt := 43) hx hb dX5_carryOut_14 (by decide) ?_
          refine z_iinc (lv' := [(2, .int (iI (x1 + 1))), (3, .null), (0, .ref (b + 60)), (1, .ref (b + 32))]) hx hb dX5_carryOut_43 hl (k := 3) rfl (by decide) rfl (fun ls hl => ?_)
          refine lv_goto (tgt := 2) hx hb dX5_carryOut_46 (by decide) ?_
          obtain ⟨n17, h18, h⟩ := h
          exact i9 n17 h18 (x1 + 1) M2 _ _ _ h hS hS0 (lv_sub hl [2, 3, 0] rfl)
        · skip
          obtain ⟨⟨lt15, cd16⟩, h⟩ := h.2 q14 rfl
          obtain ⟨lt19, cd20, lt21, cd22, lt23, cd24⟩ := nx_ring q14 lt15 cd16
          refine lv_astore_n (lv' := [(3, .ref (b + q14)), (0, .ref (b + 60)), (1, .ref (b + 32)), (2, .int (iI x1))]) hx hb dX5_carryOut_12 rfl hl (by decide) rfl (fun ls hl => ?_)
          refine lv_aload_n hx hb dX5_carryOut_13 rfl (lv_at hl 0 rfl) ?_
          refine lv_ifnull hx hb dX5_carryOut_14 ?_
          refine lv_aload_n hx hb dX5_carryOut_17 rfl (lv_at hl 0 rfl) ?_
          refine lv_aload_n hx hb dX5_carryOut_18 rfl (lv_at hl 1 rfl) ?_
          refine w_getr (j2 := 63) hx hb hts (z_memU u5) hown hK.1 hS f5_3 (by decide) (zkd_of (rfl : zcd wC 60 = 19) rfl) (zrf_of (rfl : zcd wC 60 = 19) rfl) (Or.inl (hts _ (z_mem k147))) dX5_carryOut_19 ?_
          refine z_iconst hx hb dX5_carryOut_22 ?_
          refine lv_iload_n hx hb dX5_carryOut_23 rfl (lv_at hl 3 rfl) ?_
          refine z_imul hx hb dX5_carryOut_24 ?_
          obtain ⟨o25, h⟩ := h
          refine w_iald (n := 8) (i := (sI (2 * x1))) hx hb hK.1 (t0 := 0) rfl hS (by decide) (zkd_of (rfl : zcd wC 63 = 22) rfl) (zln_of (rfl : zcd wC 63 = 22) rfl) rfl o25.1 o25.2 (by decide) dX5_carryOut_25 ?_
          refine w_callv (va_runV (As := [.int (iI (M2 63 (sI (2 * x1)).toNat))]) (rest := []) ⟨hx, hb, hml, hown, hts⟩ (cC_Ring_cutBy l D dA b M2 q14 (M2 63 (sI (2 * x1)).toNat) lt15 cd16 _ h) (cwV 1 hts (z_gV k666 k667 k668 k6 k669) rfl rfl rfl dm_X6_cutBy ⟨Nat.le_of_ble_eq_true rfl, Nat.le_of_ble_eq_true rfl⟩) ⟨wPre_blind, (w_recv hS hK.1 lt15 (zkd_of cd16 rfl) (by decide) (rfl : vwCl[6]? = some (RX6, TX6, 6))), w_pre hS hK⟩ rfl rfl hl.1 rfl (lv_room (Nat.le_of_ble_eq_true rfl)) dX5_carryOut_26 ⟨Nat.le_refl _, Nat.le_refl _⟩) hS0 (fun M26 H locs h hS hS0 => ?_)
          refine lv_aload_n hx hb dX5_carryOut_29 rfl (lv_at hl 0 rfl) ?_
          refine lv_aload_n hx hb dX5_carryOut_30 rfl (lv_at hl 1 rfl) ?_
          refine w_getr (j2 := 63) hx hb hts (z_memU u5) hown hK.1 hS f5_3 (by decide) (zkd_of (rfl : zcd wC 60 = 19) rfl) (zrf_of (rfl : zcd wC 60 = 19) rfl) (Or.inl (hts _ (z_mem k147))) dX5_carryOut_31 ?_
          refine z_iconst hx hb dX5_carryOut_34 ?_
          refine lv_iload_n hx hb dX5_carryOut_35 rfl (lv_at hl 3 rfl) ?_
          refine z_imul hx hb dX5_carryOut_36 ?_
          refine z_iconst hx hb dX5_carryOut_37 ?_
          refine z_iadd hx hb dX5_carryOut_38 ?_
          obtain ⟨o27, h⟩ := h
          refine w_iald (n := 8) (i := (sI ((2 * x1) + 1))) hx hb hK.1 (t0 := 0) rfl hS (by decide) (zkd_of (rfl : zcd wC 63 = 22) rfl) (zln_of (rfl : zcd wC 63 = 22) rfl) rfl o27.1 o27.2 (by decide) dX5_carryOut_39 ?_
          refine w_puti hx hb hts (z_memU u6) tyX6 tyX6_ok nmX6 hown hK.1 hS hS0 f6_2 lt15 (zkd_of cd16 rfl) (Or.inl (hts _ (z_mem k102))) rfl (z := (M26 63 (sI ((2 * x1) + 1)).toNat)) (by decide +kernel) dX5_carryOut_40 (fun H locs hS hS0 => ?_)
          obtain ⟨M28, e29⟩ : ∃ M28 : zM, M28 = zup M26 q14 2 (M26 63 (sI ((2 * x1) + 1)).toNat) := ⟨_, rfl⟩
          rw [← e29] at hS
          have h := h M28 e29
          refine z_iinc (lv' := [(2, .int (iI (x1 + 1))), (3, .ref (b + q14)), (0, .ref (b + 60)), (1, .ref (b + 32))]) hx hb dX5_carryOut_43 hl (k := 3) rfl (by decide) rfl (fun ls hl => ?_)
          refine lv_goto (tgt := 2) hx hb dX5_carryOut_46 (by decide) ?_
          obtain ⟨n30, h31, h⟩ := h
          exact i9 n30 h31 (x1 + 1) M28 _ _ _ h hS hS0 (lv_sub hl [2, 3, 0] rfl)
  exact L7 n4 0 M _ _ _ h5 hS hS0 (lv_sub hl [1, 2, 0] rfl)

set_option maxRecDepth 100000 in
def wC_make  (M : zM) (Q : Int → zM → Prop) : Prop := wC_Planner_find  M (fun z2 M1 => (z2 = (-1) → Q z2 M1) ∧ (z2 ≠ (-1) → wC_Planner_carryOut  M1 (fun M5 => Q z2 M5)))
set_option maxHeartbeats 4000000 in
set_option maxRecDepth 100000 in
theorem cC_make (l : Launch) (D : va_G) (dA : Nat → ClassId) (b : Nat) (M : zM)   (Q : Int → zM → Prop) (h : wC_make  M Q) : Met l yX11_make (.code yX11_make cX11_make 2 (some .int) :: zt) (z_rm 6) (va_Pc [.ref (b + 0)] (wPre D dA vwCl (z_tys dA) wC nC b M)) (va_Qi (wQi Q) (zB D dA vwCl wC nC b) (zA nC b)) 0 0 (zA nC b) := by
  unfold wC_make at h
  refine Met.ofW (cc := cX11_make) (maxL := 2) (ret := (some .int)) (by decide) rfl ?_
  intro p e s m args below meth c s₁ B hml hv
  obtain ⟨hargs, hS, hK⟩ := hv
  have hx := B.exec
  have hb := B.bytes
  have hr := B.returns
  have hts := atoms_spec (ws := .code yX11_make cX11_make 2 (some .int) :: zt) B.pre
  have hown : s.vm.findClass RX11 = some m.cls := findClass_of_methodNamed B.named
  have hlocks := B.notSynchronized
  have hS0 : va_S (zA nC b) s.heap s.heap [] := va_S.rf
  have hl := lv_entry ([.ref (b + 0)]) (n := 2) (Nat.le_of_ble_eq_true rfl)
  have hent : entryFrame m args 2 = F0 m 0 ((lg_sl ([.ref (b + 0)]) ++ List.replicate (2 - (lg_sl ([.ref (b + 0)])).length) Slot.unset).toArray) [] := by rw [hargs]; exact lg_entry_eq m ([.ref (b + 0)]) 2
  rw [hent]
  generalize (lg_sl ([.ref (b + 0)]) ++ List.replicate (2 - (lg_sl ([.ref (b + 0)])).length) Slot.unset).toArray = ls at hl ⊢
  have hl : lv_has ls 2 [(0, .ref (b + 0))] := hl
  refine lv_aload_n hx hb dX11_make_0 rfl (lv_at hl 0 rfl) ?_
  refine w_getr (j2 := 60) hx hb hts (z_memU u11) hown hK.1 hS f11_4 (by decide) (zkd_of (rfl : zcd wC 0 = 0) rfl) (zrf_of (rfl : zcd wC 0 = 0) rfl) (Or.inl (hts _ (z_mem k246))) dX11_make_1 ?_
  refine lv_aload_n hx hb dX11_make_4 rfl (lv_at hl 0 rfl) ?_
  refine w_getr (j2 := 32) hx hb hts (z_memU u11) hown hK.1 hS f11_2 (by decide) (zkd_of (rfl : zcd wC 0 = 0) rfl) (zrf_of (rfl : zcd wC 0 = 0) rfl) (Or.inl (hts _ (z_mem k244))) dX11_make_5 ?_
  refine w_calli (va_runV (As := [.ref (b + 32)]) (rest := []) ⟨hx, hb, hml, hown, hts⟩ (cC_Planner_find l D dA b M  _ h) (cwV 1 hts (z_gV k621 k622 k623 k8 k624) rfl rfl rfl dm_X5_find ⟨Nat.le_of_ble_eq_true rfl, Nat.le_of_ble_eq_true rfl⟩) ⟨wPre_blind, (w_recv hS hK.1 (by decide) (zkd_of (rfl : zcd wC 60 = 19) rfl) (by decide) (rfl : vwCl[5]? = some (RX5, TX5, 9))), w_pre hS hK⟩ rfl rfl hl.1 rfl (lv_room (Nat.le_of_ble_eq_true rfl)) dX11_make_8 ⟨Nat.le_refl _, Nat.le_refl _⟩) hS0 (fun z2 M1 H locs r3 h hS hS0 => ?_)
  refine lv_istore_n (lv' := [(1, .int (iI z2)), (0, .ref (b + 0))]) hx hb dX11_make_11 rfl hl (by decide) rfl (fun ls hl => ?_)
  refine lv_iload_n hx hb dX11_make_12 rfl (lv_at hl 0 rfl) ?_
  refine z_iconst hx hb dX11_make_13 ?_
  refine w_icmp_eq (tgt := 28) hx hb (sI_of r3) (sI_of (by decide)) dX11_make_14 (by decide) (fun c4 => ?_) (fun c4 => ?_)
  · skip
    have h := h.1 c4
    refine lv_iload_n hx hb dX11_make_28 rfl (lv_at hl 0 rfl) ?_
    exact w_iret hx hb hr hlocks hS hS0 (sI_of r3) h dX11_make_29
  · skip
    have h := h.2 c4
    refine lv_aload_n hx hb dX11_make_17 rfl (lv_at hl 1 rfl) ?_
    refine w_getr (j2 := 60) hx hb hts (z_memU u11) hown hK.1 hS f11_4 (by decide) (zkd_of (rfl : zcd wC 0 = 0) rfl) (zrf_of (rfl : zcd wC 0 = 0) rfl) (Or.inl (hts _ (z_mem k246))) dX11_make_18 ?_
    refine lv_aload_n hx hb dX11_make_21 rfl (lv_at hl 1 rfl) ?_
    refine w_getr (j2 := 32) hx hb hts (z_memU u11) hown hK.1 hS f11_2 (by decide) (zkd_of (rfl : zcd wC 0 = 0) rfl) (zrf_of (rfl : zcd wC 0 = 0) rfl) (Or.inl (hts _ (z_mem k244))) dX11_make_22 ?_
    refine w_callv (va_runV (As := [.ref (b + 32)]) (rest := []) ⟨hx, hb, hml, hown, hts⟩ (cC_Planner_carryOut l D dA b M1  _ h) (cwV 1 hts (z_gV k662 k663 k664 k8 k665) rfl rfl rfl dm_X5_carryOut ⟨Nat.le_of_ble_eq_true rfl, Nat.le_of_ble_eq_true rfl⟩) ⟨wPre_blind, (w_recv hS hK.1 (by decide) (zkd_of (rfl : zcd wC 60 = 19) rfl) (by decide) (rfl : vwCl[5]? = some (RX5, TX5, 9))), w_pre hS hK⟩ rfl rfl hl.1 rfl (lv_room (Nat.le_of_ble_eq_true rfl)) dX11_make_25 ⟨Nat.le_refl _, Nat.le_refl _⟩) hS0 (fun M5 H locs h hS hS0 => ?_)
    refine lv_iload_n hx hb dX11_make_28 rfl (lv_at hl 0 rfl) ?_
    exact w_iret hx hb hr hlocks hS hS0 (sI_of r3) h dX11_make_29
end zz10_w08
section zz10_w09
/-! the W layer, 9 -/
theorem q10w09_0_0 : (cX0_alike.data.toList.drop 0).take 22 = [3, 62, 29, 16, 20, 162, 0, 28, 42, 27, 29, 96, 182, 0, 62, 42, 28, 29, 96, 182, 0, 62] := by decide +kernel
theorem q10w09_0_22 : (cX0_alike.data.toList.drop 22).take 13 = [159, 0, 5, 3, 172, 132, 3, 1, 167, 255, 228, 4, 172] := by decide +kernel
theorem dX0_alike_0 : decode cX0_alike 0 = .ok (.iconst 0, 1) := dz_3 (dz_at q10w09_0_0 0)
theorem dX0_alike_1 : decode cX0_alike 1 = .ok (.istore_n 3, 1) := dz_62 (dz_at q10w09_0_0 1)
theorem dX0_alike_10 : decode cX0_alike 10 = .ok (.iload_n 3, 1) := dz_29 (dz_at q10w09_0_0 10)
theorem dX0_alike_11 : decode cX0_alike 11 = .ok (.iadd, 1) := dz_96 (dz_at q10w09_0_0 11)
theorem dX0_alike_12 : decode cX0_alike 12 = .ok (.invokevirtual 62, 3) := dz_182 (dz_at q10w09_0_0 12) rfl
theorem dX0_alike_15 : decode cX0_alike 15 = .ok (.aload_n 0, 1) := dz_42 (dz_at q10w09_0_0 15)
theorem dX0_alike_16 : decode cX0_alike 16 = .ok (.iload_n 2, 1) := dz_28 (dz_at q10w09_0_0 16)
theorem dX0_alike_17 : decode cX0_alike 17 = .ok (.iload_n 3, 1) := dz_29 (dz_at q10w09_0_0 17)
theorem dX0_alike_18 : decode cX0_alike 18 = .ok (.iadd, 1) := dz_96 (dz_at q10w09_0_0 18)
theorem dX0_alike_19 : decode cX0_alike 19 = .ok (.invokevirtual 62, 3) := dz_182 (dz_at q10w09_0_0 19) rfl
theorem dX0_alike_2 : decode cX0_alike 2 = .ok (.iload_n 3, 1) := dz_29 (dz_at q10w09_0_0 2)
theorem dX0_alike_22 : decode cX0_alike 22 = .ok (.if_icmp .eq 5, 3) := dz_159 (dz_at q10w09_0_22 0) (by decide +kernel)
theorem dX0_alike_25 : decode cX0_alike 25 = .ok (.iconst 0, 1) := dz_3 (dz_at q10w09_0_22 3)
theorem dX0_alike_26 : decode cX0_alike 26 = .ok (.ireturn, 1) := dz_172 (dz_at q10w09_0_22 4)
theorem dX0_alike_27 : decode cX0_alike 27 = .ok (.iinc 3 1, 3) := dz_132 (dz_at q10w09_0_22 5) (by decide +kernel)
theorem dX0_alike_3 : decode cX0_alike 3 = .ok (.bipush 20, 2) := dz_16 (dz_at q10w09_0_0 3) (by decide +kernel)
theorem dX0_alike_30 : decode cX0_alike 30 = .ok (.goto (-28), 3) := dz_167 (dz_at q10w09_0_22 8) (by decide +kernel)
theorem dX0_alike_33 : decode cX0_alike 33 = .ok (.iconst 1, 1) := dz_4 (dz_at q10w09_0_22 11)
theorem dX0_alike_34 : decode cX0_alike 34 = .ok (.ireturn, 1) := dz_172 (dz_at q10w09_0_22 12)
theorem dX0_alike_5 : decode cX0_alike 5 = .ok (.if_icmp .ge 28, 3) := dz_162 (dz_at q10w09_0_0 5) (by decide +kernel)
theorem dX0_alike_8 : decode cX0_alike 8 = .ok (.aload_n 0, 1) := dz_42 (dz_at q10w09_0_0 8)
theorem dX0_alike_9 : decode cX0_alike 9 = .ok (.iload_n 1, 1) := dz_27 (dz_at q10w09_0_0 9)
theorem q10w09_1_0 : (cX0_behind.data.toList.drop 0).take 11 = [42, 27, 182, 0, 62, 28, 104, 16, 100, 108, 172] := by decide +kernel
theorem dX0_behind_0 : decode cX0_behind 0 = .ok (.aload_n 0, 1) := dz_42 (dz_at q10w09_1_0 0)
theorem dX0_behind_1 : decode cX0_behind 1 = .ok (.iload_n 1, 1) := dz_27 (dz_at q10w09_1_0 1)
theorem dX0_behind_10 : decode cX0_behind 10 = .ok (.ireturn, 1) := dz_172 (dz_at q10w09_1_0 10)
theorem dX0_behind_2 : decode cX0_behind 2 = .ok (.invokevirtual 62, 3) := dz_182 (dz_at q10w09_1_0 2) rfl
theorem dX0_behind_5 : decode cX0_behind 5 = .ok (.iload_n 2, 1) := dz_28 (dz_at q10w09_1_0 5)
theorem dX0_behind_6 : decode cX0_behind 6 = .ok (.imul, 1) := dz_104 (dz_at q10w09_1_0 6)
theorem dX0_behind_7 : decode cX0_behind 7 = .ok (.bipush 100, 2) := dz_16 (dz_at q10w09_1_0 7) (by decide +kernel)
theorem dX0_behind_9 : decode cX0_behind 9 = .ok (.idiv, 1) := dz_108 (dz_at q10w09_1_0 9)
theorem q10w09_2_0 : (cX0_firstSilence.data.toList.drop 0).take 24 = [3, 60, 42, 180, 0, 9, 61, 28, 17, 15, 160, 163, 0, 38, 42, 28, 182, 0, 62, 154, 0, 9, 27, 4] := by decide +kernel
theorem q10w09_2_24 : (cX0_firstSilence.data.toList.drop 24).take 22 = [96, 167, 0, 4, 3, 60, 27, 16, 20, 160, 0, 10, 28, 16, 20, 100, 4, 96, 172, 132, 2, 1] := by decide +kernel
theorem q10w09_2_46 : (cX0_firstSilence.data.toList.drop 46).take 5 = [167, 255, 217, 2, 172] := by decide +kernel
theorem dX0_firstSilence_0 : decode cX0_firstSilence 0 = .ok (.iconst 0, 1) := dz_3 (dz_at q10w09_2_0 0)
theorem dX0_firstSilence_1 : decode cX0_firstSilence 1 = .ok (.istore_n 1, 1) := dz_60 (dz_at q10w09_2_0 1)
theorem dX0_firstSilence_11 : decode cX0_firstSilence 11 = .ok (.if_icmp .gt 38, 3) := dz_163 (dz_at q10w09_2_0 11) (by decide +kernel)
theorem dX0_firstSilence_14 : decode cX0_firstSilence 14 = .ok (.aload_n 0, 1) := dz_42 (dz_at q10w09_2_0 14)
theorem dX0_firstSilence_15 : decode cX0_firstSilence 15 = .ok (.iload_n 2, 1) := dz_28 (dz_at q10w09_2_0 15)
theorem dX0_firstSilence_16 : decode cX0_firstSilence 16 = .ok (.invokevirtual 62, 3) := dz_182 (dz_at q10w09_2_0 16) rfl
theorem dX0_firstSilence_19 : decode cX0_firstSilence 19 = .ok (.ifCond .ne 9, 3) := dz_154 (dz_at q10w09_2_0 19) (by decide +kernel)
theorem dX0_firstSilence_2 : decode cX0_firstSilence 2 = .ok (.aload_n 0, 1) := dz_42 (dz_at q10w09_2_0 2)
theorem dX0_firstSilence_22 : decode cX0_firstSilence 22 = .ok (.iload_n 1, 1) := dz_27 (dz_at q10w09_2_0 22)
theorem dX0_firstSilence_23 : decode cX0_firstSilence 23 = .ok (.iconst 1, 1) := dz_4 (dz_at q10w09_2_0 23)
theorem dX0_firstSilence_24 : decode cX0_firstSilence 24 = .ok (.iadd, 1) := dz_96 (dz_at q10w09_2_24 0)
theorem dX0_firstSilence_25 : decode cX0_firstSilence 25 = .ok (.goto 4, 3) := dz_167 (dz_at q10w09_2_24 1) (by decide +kernel)
theorem dX0_firstSilence_28 : decode cX0_firstSilence 28 = .ok (.iconst 0, 1) := dz_3 (dz_at q10w09_2_24 4)
theorem dX0_firstSilence_29 : decode cX0_firstSilence 29 = .ok (.istore_n 1, 1) := dz_60 (dz_at q10w09_2_24 5)
theorem dX0_firstSilence_3 : decode cX0_firstSilence 3 = .ok (.getfield 9, 3) := dz_180 (dz_at q10w09_2_0 3) rfl
theorem dX0_firstSilence_30 : decode cX0_firstSilence 30 = .ok (.iload_n 1, 1) := dz_27 (dz_at q10w09_2_24 6)
theorem dX0_firstSilence_31 : decode cX0_firstSilence 31 = .ok (.bipush 20, 2) := dz_16 (dz_at q10w09_2_24 7) (by decide +kernel)
theorem dX0_firstSilence_33 : decode cX0_firstSilence 33 = .ok (.if_icmp .ne 10, 3) := dz_160 (dz_at q10w09_2_24 9) (by decide +kernel)
theorem dX0_firstSilence_36 : decode cX0_firstSilence 36 = .ok (.iload_n 2, 1) := dz_28 (dz_at q10w09_2_24 12)
theorem dX0_firstSilence_37 : decode cX0_firstSilence 37 = .ok (.bipush 20, 2) := dz_16 (dz_at q10w09_2_24 13) (by decide +kernel)
theorem dX0_firstSilence_39 : decode cX0_firstSilence 39 = .ok (.isub, 1) := dz_100 (dz_at q10w09_2_24 15)
theorem dX0_firstSilence_40 : decode cX0_firstSilence 40 = .ok (.iconst 1, 1) := dz_4 (dz_at q10w09_2_24 16)
theorem dX0_firstSilence_41 : decode cX0_firstSilence 41 = .ok (.iadd, 1) := dz_96 (dz_at q10w09_2_24 17)
theorem dX0_firstSilence_42 : decode cX0_firstSilence 42 = .ok (.ireturn, 1) := dz_172 (dz_at q10w09_2_24 18)
theorem dX0_firstSilence_43 : decode cX0_firstSilence 43 = .ok (.iinc 2 1, 3) := dz_132 (dz_at q10w09_2_24 19) (by decide +kernel)
theorem dX0_firstSilence_46 : decode cX0_firstSilence 46 = .ok (.goto (-39), 3) := dz_167 (dz_at q10w09_2_46 0) (by decide +kernel)
theorem dX0_firstSilence_49 : decode cX0_firstSilence 49 = .ok (.iconst (-1), 1) := dz_2 (dz_at q10w09_2_46 3)
theorem dX0_firstSilence_50 : decode cX0_firstSilence 50 = .ok (.ireturn, 1) := dz_172 (dz_at q10w09_2_46 4)
theorem dX0_firstSilence_6 : decode cX0_firstSilence 6 = .ok (.istore_n 2, 1) := dz_61 (dz_at q10w09_2_0 6)
theorem dX0_firstSilence_7 : decode cX0_firstSilence 7 = .ok (.iload_n 2, 1) := dz_28 (dz_at q10w09_2_0 7)
theorem dX0_firstSilence_8 : decode cX0_firstSilence 8 = .ok (.sipush 4000, 3) := dz_17 (dz_at q10w09_2_0 8) (by decide +kernel)
theorem q10w09_3_0 : (cX0_loudness.data.toList.drop 0).take 24 = [3, 61, 4, 62, 29, 16, 9, 163, 0, 24, 28, 27, 29, 122, 4, 126, 42, 180, 0, 19, 29, 46, 104, 96] := by decide +kernel
theorem q10w09_3_24 : (cX0_loudness.data.toList.drop 24).take 9 = [61, 132, 3, 1, 167, 255, 232, 28, 172] := by decide +kernel
theorem dX0_loudness_0 : decode cX0_loudness 0 = .ok (.iconst 0, 1) := dz_3 (dz_at q10w09_3_0 0)
theorem dX0_loudness_1 : decode cX0_loudness 1 = .ok (.istore_n 2, 1) := dz_61 (dz_at q10w09_3_0 1)
theorem dX0_loudness_10 : decode cX0_loudness 10 = .ok (.iload_n 2, 1) := dz_28 (dz_at q10w09_3_0 10)
theorem dX0_loudness_11 : decode cX0_loudness 11 = .ok (.iload_n 1, 1) := dz_27 (dz_at q10w09_3_0 11)
theorem dX0_loudness_12 : decode cX0_loudness 12 = .ok (.iload_n 3, 1) := dz_29 (dz_at q10w09_3_0 12)
theorem dX0_loudness_13 : decode cX0_loudness 13 = .ok (.ishr, 1) := dz_122 (dz_at q10w09_3_0 13)
theorem dX0_loudness_14 : decode cX0_loudness 14 = .ok (.iconst 1, 1) := dz_4 (dz_at q10w09_3_0 14)
theorem dX0_loudness_15 : decode cX0_loudness 15 = .ok (.iand, 1) := dz_126 (dz_at q10w09_3_0 15)
theorem dX0_loudness_16 : decode cX0_loudness 16 = .ok (.aload_n 0, 1) := dz_42 (dz_at q10w09_3_0 16)
theorem dX0_loudness_17 : decode cX0_loudness 17 = .ok (.getfield 19, 3) := dz_180 (dz_at q10w09_3_0 17) rfl
theorem dX0_loudness_2 : decode cX0_loudness 2 = .ok (.iconst 1, 1) := dz_4 (dz_at q10w09_3_0 2)
theorem dX0_loudness_20 : decode cX0_loudness 20 = .ok (.iload_n 3, 1) := dz_29 (dz_at q10w09_3_0 20)
theorem dX0_loudness_21 : decode cX0_loudness 21 = .ok (.iaload, 1) := dz_46 (dz_at q10w09_3_0 21)
theorem dX0_loudness_22 : decode cX0_loudness 22 = .ok (.imul, 1) := dz_104 (dz_at q10w09_3_0 22)
theorem dX0_loudness_23 : decode cX0_loudness 23 = .ok (.iadd, 1) := dz_96 (dz_at q10w09_3_0 23)
theorem dX0_loudness_24 : decode cX0_loudness 24 = .ok (.istore_n 2, 1) := dz_61 (dz_at q10w09_3_24 0)
theorem dX0_loudness_25 : decode cX0_loudness 25 = .ok (.iinc 3 1, 3) := dz_132 (dz_at q10w09_3_24 1) (by decide +kernel)
theorem dX0_loudness_28 : decode cX0_loudness 28 = .ok (.goto (-24), 3) := dz_167 (dz_at q10w09_3_24 4) (by decide +kernel)
theorem dX0_loudness_3 : decode cX0_loudness 3 = .ok (.istore_n 3, 1) := dz_62 (dz_at q10w09_3_0 3)
theorem dX0_loudness_31 : decode cX0_loudness 31 = .ok (.iload_n 2, 1) := dz_28 (dz_at q10w09_3_24 7)
theorem dX0_loudness_32 : decode cX0_loudness 32 = .ok (.ireturn, 1) := dz_172 (dz_at q10w09_3_24 8)
theorem dX0_loudness_4 : decode cX0_loudness 4 = .ok (.iload_n 3, 1) := dz_29 (dz_at q10w09_3_0 4)
theorem dX0_loudness_5 : decode cX0_loudness 5 = .ok (.bipush 9, 2) := dz_16 (dz_at q10w09_3_0 5) (by decide +kernel)
theorem dX0_loudness_7 : decode cX0_loudness 7 = .ok (.if_icmp .gt 24, 3) := dz_163 (dz_at q10w09_3_0 7) (by decide +kernel)
theorem q10w09_4_0 : (cX0_outAt.data.toList.drop 0).take 24 = [27, 155, 0, 21, 27, 42, 180, 0, 34, 190, 162, 0, 12, 42, 180, 0, 34, 27, 46, 167, 0, 4, 3, 172] := by decide +kernel
theorem dX0_outAt_0 : decode cX0_outAt 0 = .ok (.iload_n 1, 1) := dz_27 (dz_at q10w09_4_0 0)
theorem dX0_outAt_1 : decode cX0_outAt 1 = .ok (.ifCond .lt 21, 3) := dz_155 (dz_at q10w09_4_0 1) (by decide +kernel)
theorem dX0_outAt_10 : decode cX0_outAt 10 = .ok (.if_icmp .ge 12, 3) := dz_162 (dz_at q10w09_4_0 10) (by decide +kernel)
theorem dX0_outAt_13 : decode cX0_outAt 13 = .ok (.aload_n 0, 1) := dz_42 (dz_at q10w09_4_0 13)
theorem dX0_outAt_14 : decode cX0_outAt 14 = .ok (.getfield 34, 3) := dz_180 (dz_at q10w09_4_0 14) rfl
theorem dX0_outAt_17 : decode cX0_outAt 17 = .ok (.iload_n 1, 1) := dz_27 (dz_at q10w09_4_0 17)
theorem dX0_outAt_18 : decode cX0_outAt 18 = .ok (.iaload, 1) := dz_46 (dz_at q10w09_4_0 18)
theorem dX0_outAt_19 : decode cX0_outAt 19 = .ok (.goto 4, 3) := dz_167 (dz_at q10w09_4_0 19) (by decide +kernel)
theorem dX0_outAt_22 : decode cX0_outAt 22 = .ok (.iconst 0, 1) := dz_3 (dz_at q10w09_4_0 22)
theorem dX0_outAt_23 : decode cX0_outAt 23 = .ok (.ireturn, 1) := dz_172 (dz_at q10w09_4_0 23)
theorem dX0_outAt_4 : decode cX0_outAt 4 = .ok (.iload_n 1, 1) := dz_27 (dz_at q10w09_4_0 4)
theorem dX0_outAt_5 : decode cX0_outAt 5 = .ok (.aload_n 0, 1) := dz_42 (dz_at q10w09_4_0 5)
theorem dX0_outAt_6 : decode cX0_outAt 6 = .ok (.getfield 34, 3) := dz_180 (dz_at q10w09_4_0 6) rfl
theorem dX0_outAt_9 : decode cX0_outAt 9 = .ok (.arraylength, 1) := dz_190 (dz_at q10w09_4_0 9)
theorem q10w09_5_0 : (cX0_place.data.toList.drop 0).take 22 = [42, 27, 181, 0, 22, 42, 28, 181, 0, 25, 42, 29, 181, 0, 28, 42, 21, 4, 181, 0, 31, 177] := by decide +kernel
theorem dX0_place_0 : decode cX0_place 0 = .ok (.aload_n 0, 1) := dz_42 (dz_at q10w09_5_0 0)
theorem dX0_place_1 : decode cX0_place 1 = .ok (.iload_n 1, 1) := dz_27 (dz_at q10w09_5_0 1)
theorem dX0_place_10 : decode cX0_place 10 = .ok (.aload_n 0, 1) := dz_42 (dz_at q10w09_5_0 10)
theorem dX0_place_11 : decode cX0_place 11 = .ok (.iload_n 3, 1) := dz_29 (dz_at q10w09_5_0 11)
theorem dX0_place_12 : decode cX0_place 12 = .ok (.putfield 28, 3) := dz_181 (dz_at q10w09_5_0 12) rfl
theorem dX0_place_15 : decode cX0_place 15 = .ok (.aload_n 0, 1) := dz_42 (dz_at q10w09_5_0 15)
theorem dX0_place_16 : decode cX0_place 16 = .ok (.iload 4, 2) := dz_21 (dz_at q10w09_5_0 16)
theorem dX0_place_18 : decode cX0_place 18 = .ok (.putfield 31, 3) := dz_181 (dz_at q10w09_5_0 18) rfl
theorem dX0_place_2 : decode cX0_place 2 = .ok (.putfield 22, 3) := dz_181 (dz_at q10w09_5_0 2) rfl
theorem dX0_place_21 : decode cX0_place 21 = .ok (.return_, 1) := dz_177 (dz_at q10w09_5_0 21)
theorem dX0_place_5 : decode cX0_place 5 = .ok (.aload_n 0, 1) := dz_42 (dz_at q10w09_5_0 5)
theorem dX0_place_6 : decode cX0_place 6 = .ok (.iload_n 2, 1) := dz_28 (dz_at q10w09_5_0 6)
theorem dX0_place_7 : decode cX0_place 7 = .ok (.putfield 25, 3) := dz_181 (dz_at q10w09_5_0 7) rfl
theorem q10w09_6_0 : (cX0_run.data.toList.drop 0).take 24 = [3, 62, 29, 28, 163, 0, 90, 29, 42, 180, 0, 34, 190, 162, 0, 81, 29, 42, 180, 0, 9, 162, 0, 16] := by decide +kernel
theorem q10w09_6_24 : (cX0_run.data.toList.drop 24).take 24 = [42, 43, 29, 133, 182, 0, 43, 182, 0, 49, 167, 0, 4, 3, 54, 4, 21, 4, 42, 29, 42, 180, 0, 22] := by decide +kernel
theorem q10w09_6_48 : (cX0_run.data.toList.drop 48).take 24 = [100, 42, 180, 0, 25, 182, 0, 53, 96, 42, 29, 42, 180, 0, 28, 100, 42, 180, 0, 31, 182, 0, 53, 96] := by decide +kernel
theorem q10w09_6_72 : (cX0_run.data.toList.drop 72).take 23 = [54, 5, 42, 180, 0, 34, 29, 21, 5, 17, 19, 136, 184, 0, 57, 79, 132, 3, 1, 167, 255, 167, 177] := by decide +kernel
theorem dX0_run_0 : decode cX0_run 0 = .ok (.iconst 0, 1) := dz_3 (dz_at q10w09_6_0 0)
theorem dX0_run_1 : decode cX0_run 1 = .ok (.istore_n 3, 1) := dz_62 (dz_at q10w09_6_0 1)
theorem dX0_run_12 : decode cX0_run 12 = .ok (.arraylength, 1) := dz_190 (dz_at q10w09_6_0 12)
theorem dX0_run_13 : decode cX0_run 13 = .ok (.if_icmp .ge 81, 3) := dz_162 (dz_at q10w09_6_0 13) (by decide +kernel)
theorem dX0_run_16 : decode cX0_run 16 = .ok (.iload_n 3, 1) := dz_29 (dz_at q10w09_6_0 16)
theorem dX0_run_17 : decode cX0_run 17 = .ok (.aload_n 0, 1) := dz_42 (dz_at q10w09_6_0 17)
theorem dX0_run_18 : decode cX0_run 18 = .ok (.getfield 9, 3) := dz_180 (dz_at q10w09_6_0 18) rfl
theorem dX0_run_2 : decode cX0_run 2 = .ok (.iload_n 3, 1) := dz_29 (dz_at q10w09_6_0 2)
theorem dX0_run_21 : decode cX0_run 21 = .ok (.if_icmp .ge 16, 3) := dz_162 (dz_at q10w09_6_0 21) (by decide +kernel)
theorem dX0_run_24 : decode cX0_run 24 = .ok (.aload_n 0, 1) := dz_42 (dz_at q10w09_6_24 0)
theorem dX0_run_25 : decode cX0_run 25 = .ok (.aload_n 1, 1) := dz_43 (dz_at q10w09_6_24 1)
theorem dX0_run_26 : decode cX0_run 26 = .ok (.iload_n 3, 1) := dz_29 (dz_at q10w09_6_24 2)
theorem dX0_run_27 : decode cX0_run 27 = .ok (.i2l, 1) := dz_133 (dz_at q10w09_6_24 3)
theorem dX0_run_28 : decode cX0_run 28 = .ok (.invokevirtual 43, 3) := dz_182 (dz_at q10w09_6_24 4) rfl
theorem dX0_run_3 : decode cX0_run 3 = .ok (.iload_n 2, 1) := dz_28 (dz_at q10w09_6_0 3)
theorem dX0_run_31 : decode cX0_run 31 = .ok (.invokevirtual 49, 3) := dz_182 (dz_at q10w09_6_24 7) rfl
theorem dX0_run_34 : decode cX0_run 34 = .ok (.goto 4, 3) := dz_167 (dz_at q10w09_6_24 10) (by decide +kernel)
theorem dX0_run_37 : decode cX0_run 37 = .ok (.iconst 0, 1) := dz_3 (dz_at q10w09_6_24 13)
theorem dX0_run_38 : decode cX0_run 38 = .ok (.istore 4, 2) := dz_54 (dz_at q10w09_6_24 14)
theorem dX0_run_4 : decode cX0_run 4 = .ok (.if_icmp .gt 90, 3) := dz_163 (dz_at q10w09_6_0 4) (by decide +kernel)
theorem dX0_run_40 : decode cX0_run 40 = .ok (.iload 4, 2) := dz_21 (dz_at q10w09_6_24 16)
theorem dX0_run_42 : decode cX0_run 42 = .ok (.aload_n 0, 1) := dz_42 (dz_at q10w09_6_24 18)
theorem dX0_run_43 : decode cX0_run 43 = .ok (.iload_n 3, 1) := dz_29 (dz_at q10w09_6_24 19)
theorem dX0_run_44 : decode cX0_run 44 = .ok (.aload_n 0, 1) := dz_42 (dz_at q10w09_6_24 20)
theorem dX0_run_45 : decode cX0_run 45 = .ok (.getfield 22, 3) := dz_180 (dz_at q10w09_6_24 21) rfl
theorem dX0_run_48 : decode cX0_run 48 = .ok (.isub, 1) := dz_100 (dz_at q10w09_6_48 0)
theorem dX0_run_49 : decode cX0_run 49 = .ok (.aload_n 0, 1) := dz_42 (dz_at q10w09_6_48 1)
theorem dX0_run_50 : decode cX0_run 50 = .ok (.getfield 25, 3) := dz_180 (dz_at q10w09_6_48 2) rfl
theorem dX0_run_53 : decode cX0_run 53 = .ok (.invokevirtual 53, 3) := dz_182 (dz_at q10w09_6_48 5) rfl
theorem dX0_run_56 : decode cX0_run 56 = .ok (.iadd, 1) := dz_96 (dz_at q10w09_6_48 8)
theorem dX0_run_57 : decode cX0_run 57 = .ok (.aload_n 0, 1) := dz_42 (dz_at q10w09_6_48 9)
theorem dX0_run_58 : decode cX0_run 58 = .ok (.iload_n 3, 1) := dz_29 (dz_at q10w09_6_48 10)
theorem dX0_run_59 : decode cX0_run 59 = .ok (.aload_n 0, 1) := dz_42 (dz_at q10w09_6_48 11)
theorem dX0_run_60 : decode cX0_run 60 = .ok (.getfield 28, 3) := dz_180 (dz_at q10w09_6_48 12) rfl
theorem dX0_run_63 : decode cX0_run 63 = .ok (.isub, 1) := dz_100 (dz_at q10w09_6_48 15)
theorem dX0_run_64 : decode cX0_run 64 = .ok (.aload_n 0, 1) := dz_42 (dz_at q10w09_6_48 16)
theorem dX0_run_65 : decode cX0_run 65 = .ok (.getfield 31, 3) := dz_180 (dz_at q10w09_6_48 17) rfl
theorem dX0_run_68 : decode cX0_run 68 = .ok (.invokevirtual 53, 3) := dz_182 (dz_at q10w09_6_48 20) rfl
theorem dX0_run_7 : decode cX0_run 7 = .ok (.iload_n 3, 1) := dz_29 (dz_at q10w09_6_0 7)
theorem dX0_run_71 : decode cX0_run 71 = .ok (.iadd, 1) := dz_96 (dz_at q10w09_6_48 23)
theorem dX0_run_72 : decode cX0_run 72 = .ok (.istore 5, 2) := dz_54 (dz_at q10w09_6_72 0)
theorem dX0_run_74 : decode cX0_run 74 = .ok (.aload_n 0, 1) := dz_42 (dz_at q10w09_6_72 2)
theorem dX0_run_75 : decode cX0_run 75 = .ok (.getfield 34, 3) := dz_180 (dz_at q10w09_6_72 3) rfl
theorem dX0_run_78 : decode cX0_run 78 = .ok (.iload_n 3, 1) := dz_29 (dz_at q10w09_6_72 6)
theorem dX0_run_79 : decode cX0_run 79 = .ok (.iload 5, 2) := dz_21 (dz_at q10w09_6_72 7)
theorem dX0_run_8 : decode cX0_run 8 = .ok (.aload_n 0, 1) := dz_42 (dz_at q10w09_6_0 8)
theorem dX0_run_81 : decode cX0_run 81 = .ok (.sipush 5000, 3) := dz_17 (dz_at q10w09_6_72 9) (by decide +kernel)
theorem dX0_run_84 : decode cX0_run 84 = .ok (.invokestatic 57, 3) := dz_184 (dz_at q10w09_6_72 12) rfl
theorem dX0_run_87 : decode cX0_run 87 = .ok (.iastore, 1) := dz_79 (dz_at q10w09_6_72 15)
theorem dX0_run_88 : decode cX0_run 88 = .ok (.iinc 3 1, 3) := dz_132 (dz_at q10w09_6_72 16) (by decide +kernel)
theorem dX0_run_9 : decode cX0_run 9 = .ok (.getfield 34, 3) := dz_180 (dz_at q10w09_6_0 9) rfl
theorem dX0_run_91 : decode cX0_run 91 = .ok (.goto (-89), 3) := dz_167 (dz_at q10w09_6_72 19) (by decide +kernel)
theorem dX0_run_94 : decode cX0_run 94 = .ok (.return_, 1) := dz_177 (dz_at q10w09_6_72 22)
theorem q10w09_7_0 : (cX0_weigh.data.toList.drop 0).take 16 = [42, 180, 0, 19, 27, 46, 62, 42, 180, 0, 19, 27, 28, 79, 29, 172] := by decide +kernel
theorem dX0_weigh_0 : decode cX0_weigh 0 = .ok (.aload_n 0, 1) := dz_42 (dz_at q10w09_7_0 0)
theorem dX0_weigh_1 : decode cX0_weigh 1 = .ok (.getfield 19, 3) := dz_180 (dz_at q10w09_7_0 1) rfl
theorem dX0_weigh_11 : decode cX0_weigh 11 = .ok (.iload_n 1, 1) := dz_27 (dz_at q10w09_7_0 11)
theorem dX0_weigh_12 : decode cX0_weigh 12 = .ok (.iload_n 2, 1) := dz_28 (dz_at q10w09_7_0 12)
theorem dX0_weigh_13 : decode cX0_weigh 13 = .ok (.iastore, 1) := dz_79 (dz_at q10w09_7_0 13)
theorem dX0_weigh_14 : decode cX0_weigh 14 = .ok (.iload_n 3, 1) := dz_29 (dz_at q10w09_7_0 14)
theorem dX0_weigh_15 : decode cX0_weigh 15 = .ok (.ireturn, 1) := dz_172 (dz_at q10w09_7_0 15)
theorem dX0_weigh_4 : decode cX0_weigh 4 = .ok (.iload_n 1, 1) := dz_27 (dz_at q10w09_7_0 4)
theorem dX0_weigh_5 : decode cX0_weigh 5 = .ok (.iaload, 1) := dz_46 (dz_at q10w09_7_0 5)
theorem dX0_weigh_6 : decode cX0_weigh 6 = .ok (.istore_n 3, 1) := dz_62 (dz_at q10w09_7_0 6)
theorem dX0_weigh_7 : decode cX0_weigh 7 = .ok (.aload_n 0, 1) := dz_42 (dz_at q10w09_7_0 7)
theorem dX0_weigh_8 : decode cX0_weigh 8 = .ok (.getfield 19, 3) := dz_180 (dz_at q10w09_7_0 8) rfl
theorem q10w09_8_0 : (cX11_cut.data.toList.drop 0).take 24 = [42, 180, 0, 26, 27, 182, 0, 104, 78, 45, 198, 0, 14, 45, 180, 0, 108, 28, 182, 0, 98, 154, 0, 5] := by decide +kernel
theorem q10w09_8_24 : (cX11_cut.data.toList.drop 24).take 15 = [2, 172, 45, 28, 182, 0, 226, 45, 180, 0, 108, 180, 0, 117, 172] := by decide +kernel
theorem dX11_cut_0 : decode cX11_cut 0 = .ok (.aload_n 0, 1) := dz_42 (dz_at q10w09_8_0 0)
theorem dX11_cut_1 : decode cX11_cut 1 = .ok (.getfield 26, 3) := dz_180 (dz_at q10w09_8_0 1) rfl
theorem dX11_cut_10 : decode cX11_cut 10 = .ok (.ifnull 14, 3) := dz_198 (dz_at q10w09_8_0 10) (by decide +kernel)
theorem dX11_cut_13 : decode cX11_cut 13 = .ok (.aload_n 3, 1) := dz_45 (dz_at q10w09_8_0 13)
theorem dX11_cut_14 : decode cX11_cut 14 = .ok (.getfield 108, 3) := dz_180 (dz_at q10w09_8_0 14) rfl
theorem dX11_cut_17 : decode cX11_cut 17 = .ok (.iload_n 2, 1) := dz_28 (dz_at q10w09_8_0 17)
theorem dX11_cut_18 : decode cX11_cut 18 = .ok (.invokevirtual 98, 3) := dz_182 (dz_at q10w09_8_0 18) rfl
theorem dX11_cut_21 : decode cX11_cut 21 = .ok (.ifCond .ne 5, 3) := dz_154 (dz_at q10w09_8_0 21) (by decide +kernel)
theorem dX11_cut_24 : decode cX11_cut 24 = .ok (.iconst (-1), 1) := dz_2 (dz_at q10w09_8_24 0)
theorem dX11_cut_25 : decode cX11_cut 25 = .ok (.ireturn, 1) := dz_172 (dz_at q10w09_8_24 1)
theorem dX11_cut_26 : decode cX11_cut 26 = .ok (.aload_n 3, 1) := dz_45 (dz_at q10w09_8_24 2)
theorem dX11_cut_27 : decode cX11_cut 27 = .ok (.iload_n 2, 1) := dz_28 (dz_at q10w09_8_24 3)
theorem dX11_cut_28 : decode cX11_cut 28 = .ok (.invokevirtual 226, 3) := dz_182 (dz_at q10w09_8_24 4) rfl
theorem dX11_cut_31 : decode cX11_cut 31 = .ok (.aload_n 3, 1) := dz_45 (dz_at q10w09_8_24 7)
theorem dX11_cut_32 : decode cX11_cut 32 = .ok (.getfield 108, 3) := dz_180 (dz_at q10w09_8_24 8) rfl
theorem dX11_cut_35 : decode cX11_cut 35 = .ok (.getfield 117, 3) := dz_180 (dz_at q10w09_8_24 11) rfl
theorem dX11_cut_38 : decode cX11_cut 38 = .ok (.ireturn, 1) := dz_172 (dz_at q10w09_8_24 14)
theorem dX11_cut_4 : decode cX11_cut 4 = .ok (.iload_n 1, 1) := dz_27 (dz_at q10w09_8_0 4)
theorem dX11_cut_5 : decode cX11_cut 5 = .ok (.invokevirtual 104, 3) := dz_182 (dz_at q10w09_8_0 5) rfl
theorem dX11_cut_8 : decode cX11_cut 8 = .ok (.astore_n 3, 1) := dz_78 (dz_at q10w09_8_0 8)
theorem dX11_cut_9 : decode cX11_cut 9 = .ok (.aload_n 3, 1) := dz_45 (dz_at q10w09_8_0 9)
theorem q10w09_9_0 : (cX11_heads.data.toList.drop 0).take 24 = [27, 4, 16, 20, 184, 0, 113, 153, 0, 34, 28, 3, 16, 100, 184, 0, 113, 153, 0, 24, 29, 4, 16, 20] := by decide +kernel
theorem q10w09_9_24 : (cX11_heads.data.toList.drop 24).take 24 = [184, 0, 113, 153, 0, 14, 21, 4, 3, 16, 100, 184, 0, 113, 154, 0, 5, 3, 172, 42, 180, 0, 47, 27] := by decide +kernel
theorem q10w09_9_48 : (cX11_heads.data.toList.drop 48).take 9 = [28, 29, 21, 4, 182, 0, 233, 4, 172] := by decide +kernel
theorem dX11_heads_0 : decode cX11_heads 0 = .ok (.iload_n 1, 1) := dz_27 (dz_at q10w09_9_0 0)
theorem dX11_heads_1 : decode cX11_heads 1 = .ok (.iconst 1, 1) := dz_4 (dz_at q10w09_9_0 1)
theorem dX11_heads_10 : decode cX11_heads 10 = .ok (.iload_n 2, 1) := dz_28 (dz_at q10w09_9_0 10)
theorem dX11_heads_11 : decode cX11_heads 11 = .ok (.iconst 0, 1) := dz_3 (dz_at q10w09_9_0 11)
theorem dX11_heads_12 : decode cX11_heads 12 = .ok (.bipush 100, 2) := dz_16 (dz_at q10w09_9_0 12) (by decide +kernel)
theorem dX11_heads_14 : decode cX11_heads 14 = .ok (.invokestatic 113, 3) := dz_184 (dz_at q10w09_9_0 14) rfl
theorem dX11_heads_17 : decode cX11_heads 17 = .ok (.ifCond .eq 24, 3) := dz_153 (dz_at q10w09_9_0 17) (by decide +kernel)
theorem dX11_heads_2 : decode cX11_heads 2 = .ok (.bipush 20, 2) := dz_16 (dz_at q10w09_9_0 2) (by decide +kernel)
theorem dX11_heads_20 : decode cX11_heads 20 = .ok (.iload_n 3, 1) := dz_29 (dz_at q10w09_9_0 20)
theorem dX11_heads_21 : decode cX11_heads 21 = .ok (.iconst 1, 1) := dz_4 (dz_at q10w09_9_0 21)
theorem dX11_heads_22 : decode cX11_heads 22 = .ok (.bipush 20, 2) := dz_16 (dz_at q10w09_9_0 22) (by decide +kernel)
theorem dX11_heads_24 : decode cX11_heads 24 = .ok (.invokestatic 113, 3) := dz_184 (dz_at q10w09_9_24 0) rfl
theorem dX11_heads_27 : decode cX11_heads 27 = .ok (.ifCond .eq 14, 3) := dz_153 (dz_at q10w09_9_24 3) (by decide +kernel)
theorem dX11_heads_30 : decode cX11_heads 30 = .ok (.iload 4, 2) := dz_21 (dz_at q10w09_9_24 6)
theorem dX11_heads_32 : decode cX11_heads 32 = .ok (.iconst 0, 1) := dz_3 (dz_at q10w09_9_24 8)
theorem dX11_heads_33 : decode cX11_heads 33 = .ok (.bipush 100, 2) := dz_16 (dz_at q10w09_9_24 9) (by decide +kernel)
theorem dX11_heads_35 : decode cX11_heads 35 = .ok (.invokestatic 113, 3) := dz_184 (dz_at q10w09_9_24 11) rfl
theorem dX11_heads_38 : decode cX11_heads 38 = .ok (.ifCond .ne 5, 3) := dz_154 (dz_at q10w09_9_24 14) (by decide +kernel)
theorem dX11_heads_4 : decode cX11_heads 4 = .ok (.invokestatic 113, 3) := dz_184 (dz_at q10w09_9_0 4) rfl
theorem dX11_heads_41 : decode cX11_heads 41 = .ok (.iconst 0, 1) := dz_3 (dz_at q10w09_9_24 17)
theorem dX11_heads_42 : decode cX11_heads 42 = .ok (.ireturn, 1) := dz_172 (dz_at q10w09_9_24 18)
theorem dX11_heads_43 : decode cX11_heads 43 = .ok (.aload_n 0, 1) := dz_42 (dz_at q10w09_9_24 19)
theorem dX11_heads_44 : decode cX11_heads 44 = .ok (.getfield 47, 3) := dz_180 (dz_at q10w09_9_24 20) rfl
theorem dX11_heads_47 : decode cX11_heads 47 = .ok (.iload_n 1, 1) := dz_27 (dz_at q10w09_9_24 23)
theorem dX11_heads_48 : decode cX11_heads 48 = .ok (.iload_n 2, 1) := dz_28 (dz_at q10w09_9_48 0)
theorem dX11_heads_49 : decode cX11_heads 49 = .ok (.iload_n 3, 1) := dz_29 (dz_at q10w09_9_48 1)
theorem dX11_heads_50 : decode cX11_heads 50 = .ok (.iload 4, 2) := dz_21 (dz_at q10w09_9_48 2)
theorem dX11_heads_52 : decode cX11_heads 52 = .ok (.invokevirtual 233, 3) := dz_182 (dz_at q10w09_9_48 4) rfl
theorem dX11_heads_55 : decode cX11_heads 55 = .ok (.iconst 1, 1) := dz_4 (dz_at q10w09_9_48 7)
theorem dX11_heads_56 : decode cX11_heads 56 = .ok (.ireturn, 1) := dz_172 (dz_at q10w09_9_48 8)
theorem dX11_heads_7 : decode cX11_heads 7 = .ok (.ifCond .eq 34, 3) := dz_153 (dz_at q10w09_9_0 7) (by decide +kernel)
theorem q10w09_10_0 : (cX11_out.data.toList.drop 0).take 22 = [27, 3, 17, 15, 160, 184, 0, 113, 154, 0, 5, 2, 172, 42, 180, 0, 47, 42, 180, 0, 26, 27] := by decide +kernel
theorem q10w09_10_22 : (cX11_out.data.toList.drop 22).take 12 = [182, 0, 240, 42, 180, 0, 47, 27, 182, 0, 244, 172] := by decide +kernel
theorem dX11_out_0 : decode cX11_out 0 = .ok (.iload_n 1, 1) := dz_27 (dz_at q10w09_10_0 0)
theorem dX11_out_1 : decode cX11_out 1 = .ok (.iconst 0, 1) := dz_3 (dz_at q10w09_10_0 1)
theorem dX11_out_11 : decode cX11_out 11 = .ok (.iconst (-1), 1) := dz_2 (dz_at q10w09_10_0 11)
theorem dX11_out_12 : decode cX11_out 12 = .ok (.ireturn, 1) := dz_172 (dz_at q10w09_10_0 12)
theorem dX11_out_13 : decode cX11_out 13 = .ok (.aload_n 0, 1) := dz_42 (dz_at q10w09_10_0 13)
theorem dX11_out_14 : decode cX11_out 14 = .ok (.getfield 47, 3) := dz_180 (dz_at q10w09_10_0 14) rfl
theorem dX11_out_17 : decode cX11_out 17 = .ok (.aload_n 0, 1) := dz_42 (dz_at q10w09_10_0 17)
theorem dX11_out_18 : decode cX11_out 18 = .ok (.getfield 26, 3) := dz_180 (dz_at q10w09_10_0 18) rfl
theorem dX11_out_2 : decode cX11_out 2 = .ok (.sipush 4000, 3) := dz_17 (dz_at q10w09_10_0 2) (by decide +kernel)
theorem dX11_out_21 : decode cX11_out 21 = .ok (.iload_n 1, 1) := dz_27 (dz_at q10w09_10_0 21)
theorem dX11_out_22 : decode cX11_out 22 = .ok (.invokevirtual 240, 3) := dz_182 (dz_at q10w09_10_22 0) rfl
theorem dX11_out_25 : decode cX11_out 25 = .ok (.aload_n 0, 1) := dz_42 (dz_at q10w09_10_22 3)
theorem dX11_out_26 : decode cX11_out 26 = .ok (.getfield 47, 3) := dz_180 (dz_at q10w09_10_22 4) rfl
theorem dX11_out_29 : decode cX11_out 29 = .ok (.iload_n 1, 1) := dz_27 (dz_at q10w09_10_22 7)
theorem dX11_out_30 : decode cX11_out 30 = .ok (.invokevirtual 244, 3) := dz_182 (dz_at q10w09_10_22 8) rfl
theorem dX11_out_33 : decode cX11_out 33 = .ok (.ireturn, 1) := dz_172 (dz_at q10w09_10_22 11)
theorem dX11_out_5 : decode cX11_out 5 = .ok (.invokestatic 113, 3) := dz_184 (dz_at q10w09_10_0 5) rfl
theorem dX11_out_8 : decode cX11_out 8 = .ok (.ifCond .ne 5, 3) := dz_154 (dz_at q10w09_10_0 8) (by decide +kernel)
theorem q10w09_11_0 : (cX11_stop.data.toList.drop 0).take 22 = [27, 3, 17, 7, 208, 184, 0, 113, 154, 0, 5, 2, 172, 42, 180, 0, 47, 180, 0, 237, 61, 42] := by decide +kernel
theorem q10w09_11_22 : (cX11_stop.data.toList.drop 22).take 9 = [180, 0, 47, 27, 181, 0, 237, 28, 172] := by decide +kernel
theorem dX11_stop_0 : decode cX11_stop 0 = .ok (.iload_n 1, 1) := dz_27 (dz_at q10w09_11_0 0)
theorem dX11_stop_1 : decode cX11_stop 1 = .ok (.iconst 0, 1) := dz_3 (dz_at q10w09_11_0 1)
theorem dX11_stop_11 : decode cX11_stop 11 = .ok (.iconst (-1), 1) := dz_2 (dz_at q10w09_11_0 11)
theorem dX11_stop_12 : decode cX11_stop 12 = .ok (.ireturn, 1) := dz_172 (dz_at q10w09_11_0 12)
theorem dX11_stop_13 : decode cX11_stop 13 = .ok (.aload_n 0, 1) := dz_42 (dz_at q10w09_11_0 13)
theorem dX11_stop_14 : decode cX11_stop 14 = .ok (.getfield 47, 3) := dz_180 (dz_at q10w09_11_0 14) rfl
theorem dX11_stop_17 : decode cX11_stop 17 = .ok (.getfield 237, 3) := dz_180 (dz_at q10w09_11_0 17) rfl
theorem dX11_stop_2 : decode cX11_stop 2 = .ok (.sipush 2000, 3) := dz_17 (dz_at q10w09_11_0 2) (by decide +kernel)
theorem dX11_stop_20 : decode cX11_stop 20 = .ok (.istore_n 2, 1) := dz_61 (dz_at q10w09_11_0 20)
theorem dX11_stop_21 : decode cX11_stop 21 = .ok (.aload_n 0, 1) := dz_42 (dz_at q10w09_11_0 21)
theorem dX11_stop_22 : decode cX11_stop 22 = .ok (.getfield 47, 3) := dz_180 (dz_at q10w09_11_22 0) rfl
theorem dX11_stop_25 : decode cX11_stop 25 = .ok (.iload_n 1, 1) := dz_27 (dz_at q10w09_11_22 3)
theorem dX11_stop_26 : decode cX11_stop 26 = .ok (.putfield 237, 3) := dz_181 (dz_at q10w09_11_22 4) rfl
theorem dX11_stop_29 : decode cX11_stop 29 = .ok (.iload_n 2, 1) := dz_28 (dz_at q10w09_11_22 7)
theorem dX11_stop_30 : decode cX11_stop 30 = .ok (.ireturn, 1) := dz_172 (dz_at q10w09_11_22 8)
theorem dX11_stop_5 : decode cX11_stop 5 = .ok (.invokestatic 113, 3) := dz_184 (dz_at q10w09_11_0 5) rfl
theorem dX11_stop_8 : decode cX11_stop 8 = .ok (.ifCond .ne 5, 3) := dz_154 (dz_at q10w09_11_0 8) (by decide +kernel)
theorem q10w09_12_0 : (cX11_weight.data.toList.drop 0).take 24 = [27, 184, 0, 205, 153, 0, 14, 28, 3, 17, 0, 200, 184, 0, 113, 154, 0, 5, 2, 172, 42, 180, 0, 47] := by decide +kernel
theorem q10w09_12_24 : (cX11_weight.data.toList.drop 24).take 6 = [27, 28, 182, 0, 230, 172] := by decide +kernel
theorem dX11_weight_0 : decode cX11_weight 0 = .ok (.iload_n 1, 1) := dz_27 (dz_at q10w09_12_0 0)
theorem dX11_weight_1 : decode cX11_weight 1 = .ok (.invokestatic 205, 3) := dz_184 (dz_at q10w09_12_0 1) rfl
theorem dX11_weight_12 : decode cX11_weight 12 = .ok (.invokestatic 113, 3) := dz_184 (dz_at q10w09_12_0 12) rfl
theorem dX11_weight_15 : decode cX11_weight 15 = .ok (.ifCond .ne 5, 3) := dz_154 (dz_at q10w09_12_0 15) (by decide +kernel)
theorem dX11_weight_18 : decode cX11_weight 18 = .ok (.iconst (-1), 1) := dz_2 (dz_at q10w09_12_0 18)
theorem dX11_weight_19 : decode cX11_weight 19 = .ok (.ireturn, 1) := dz_172 (dz_at q10w09_12_0 19)
theorem dX11_weight_20 : decode cX11_weight 20 = .ok (.aload_n 0, 1) := dz_42 (dz_at q10w09_12_0 20)
theorem dX11_weight_21 : decode cX11_weight 21 = .ok (.getfield 47, 3) := dz_180 (dz_at q10w09_12_0 21) rfl
theorem dX11_weight_24 : decode cX11_weight 24 = .ok (.iload_n 1, 1) := dz_27 (dz_at q10w09_12_24 0)
theorem dX11_weight_25 : decode cX11_weight 25 = .ok (.iload_n 2, 1) := dz_28 (dz_at q10w09_12_24 1)
theorem dX11_weight_26 : decode cX11_weight 26 = .ok (.invokevirtual 230, 3) := dz_182 (dz_at q10w09_12_24 2) rfl
theorem dX11_weight_29 : decode cX11_weight 29 = .ok (.ireturn, 1) := dz_172 (dz_at q10w09_12_24 5)
theorem dX11_weight_4 : decode cX11_weight 4 = .ok (.ifCond .eq 14, 3) := dz_153 (dz_at q10w09_12_0 4) (by decide +kernel)
theorem dX11_weight_7 : decode cX11_weight 7 = .ok (.iload_n 2, 1) := dz_28 (dz_at q10w09_12_0 7)
theorem dX11_weight_8 : decode cX11_weight 8 = .ok (.iconst 0, 1) := dz_3 (dz_at q10w09_12_0 8)
theorem dX11_weight_9 : decode cX11_weight 9 = .ok (.sipush 200, 3) := dz_17 (dz_at q10w09_12_0 9) (by decide +kernel)
theorem dm_X0_weigh : yX0_weigh.cls = RX0 ∧ yX0_weigh.cls ≠ "java/lang/invoke/MethodHandle" ∧ yX0_weigh.cls ≠ "java/lang/invoke/VarHandle" ∧ (parseMethodDescriptor yX0_weigh.desc).map (fun d => d.parameters.length) = some 2 := by decide +kernel
theorem dm_X0_place : yX0_place.cls = RX0 ∧ yX0_place.cls ≠ "java/lang/invoke/MethodHandle" ∧ yX0_place.cls ≠ "java/lang/invoke/VarHandle" ∧ (parseMethodDescriptor yX0_place.desc).map (fun d => d.parameters.length) = some 4 := by decide +kernel
theorem dm_X0_outAt : yX0_outAt.cls = RX0 ∧ yX0_outAt.cls ≠ "java/lang/invoke/MethodHandle" ∧ yX0_outAt.cls ≠ "java/lang/invoke/VarHandle" ∧ (parseMethodDescriptor yX0_outAt.desc).map (fun d => d.parameters.length) = some 1 := by decide +kernel
theorem dm_X0_loudness : yX0_loudness.cls = RX0 ∧ yX0_loudness.cls ≠ "java/lang/invoke/MethodHandle" ∧ yX0_loudness.cls ≠ "java/lang/invoke/VarHandle" ∧ (parseMethodDescriptor yX0_loudness.desc).map (fun d => d.parameters.length) = some 1 := by decide +kernel
theorem dm_X0_behind : yX0_behind.cls = RX0 ∧ yX0_behind.cls ≠ "java/lang/invoke/MethodHandle" ∧ yX0_behind.cls ≠ "java/lang/invoke/VarHandle" ∧ (parseMethodDescriptor yX0_behind.desc).map (fun d => d.parameters.length) = some 2 := by decide +kernel
theorem dm_X0_run : yX0_run.cls = RX0 ∧ yX0_run.cls ≠ "java/lang/invoke/MethodHandle" ∧ yX0_run.cls ≠ "java/lang/invoke/VarHandle" ∧ (parseMethodDescriptor yX0_run.desc).map (fun d => d.parameters.length) = some 2 := by decide +kernel
set_option maxRecDepth 100000 in
def wC_cut (a0 : Int) (a1 : Int) (M : zM) (Q : Int → zM → Prop) : Prop := wC_Studio_find a0 M (fun z2 => (z2 = none → Q (-1) M) ∧ (∀ q4, z2 = some q4 → (q4 < nC ∧ zcd wC q4 = 14) ∧ (wC_Strip_has (q4 + 1) a1 M (fun z14 => (z14 ≠ 0 → wC_Ring_cutBy q4 a1 M (fun M18 => Q (sI (M18 (q4 + 1) 1)) M18)) ∧ (z14 = 0 → Q (-1) M)))))
set_option maxHeartbeats 4000000 in
set_option maxRecDepth 100000 in
theorem cC_cut (l : Launch) (D : va_G) (dA : Nat → ClassId) (b : Nat) (M : zM) (a0 : Int) (a1 : Int)  (Q : Int → zM → Prop) (h : wC_cut a0 a1 M Q) : Met l yX11_cut (.code yX11_cut cX11_cut 4 (some .int) :: zt) (z_rm 5) (va_Pc [.ref (b + 0), .int (iI a0), .int (iI a1)] (wPre D dA vwCl (z_tys dA) wC nC b M)) (va_Qi (wQi Q) (zB D dA vwCl wC nC b) (zA nC b)) 0 0 (zA nC b) := by
  unfold wC_cut at h
  refine Met.ofW (cc := cX11_cut) (maxL := 4) (ret := (some .int)) (by decide) rfl ?_
  intro p e s m args below meth c s₁ B hml hv
  obtain ⟨hargs, hS, hK⟩ := hv
  have hx := B.exec
  have hb := B.bytes
  have hr := B.returns
  have hts := atoms_spec (ws := .code yX11_cut cX11_cut 4 (some .int) :: zt) B.pre
  have hown : s.vm.findClass RX11 = some m.cls := findClass_of_methodNamed B.named
  have hlocks := B.notSynchronized
  have hS0 : va_S (zA nC b) s.heap s.heap [] := va_S.rf
  have hl := lv_entry ([.ref (b + 0), .int (iI a0), .int (iI a1)]) (n := 4) (Nat.le_of_ble_eq_true rfl)
  have hent : entryFrame m args 4 = F0 m 0 ((lg_sl ([.ref (b + 0), .int (iI a0), .int (iI a1)]) ++ List.replicate (4 - (lg_sl ([.ref (b + 0), .int (iI a0), .int (iI a1)])).length) Slot.unset).toArray) [] := by rw [hargs]; exact lg_entry_eq m ([.ref (b + 0), .int (iI a0), .int (iI a1)]) 4
  rw [hent]
  generalize (lg_sl ([.ref (b + 0), .int (iI a0), .int (iI a1)]) ++ List.replicate (4 - (lg_sl ([.ref (b + 0), .int (iI a0), .int (iI a1)])).length) Slot.unset).toArray = ls at hl ⊢
  have hl : lv_has ls 4 [(0, .ref (b + 0)), (1, .int (iI a0)), (2, .int (iI a1))] := hl
  refine lv_aload_n hx hb dX11_cut_0 rfl (lv_at hl 0 rfl) ?_
  refine w_getr (j2 := 32) hx hb hts (z_memU u11) hown hK.1 hS f11_2 (by decide) (zkd_of (rfl : zcd wC 0 = 0) rfl) (zrf_of (rfl : zcd wC 0 = 0) rfl) (Or.inl (hts _ (z_mem k244))) dX11_cut_1 ?_
  refine lv_iload_n hx hb dX11_cut_4 rfl (lv_at hl 1 rfl) ?_
  refine w_callq (va_runV (As := [.int (iI a0)]) (rest := []) ⟨hx, hb, hml, hown, hts⟩ (cC_Studio_find l D dA b M a0 _ h) (cwV 1 hts (z_gV k411 k412 k413 k4 k414) rfl rfl rfl dm_X9_find ⟨Nat.le_of_ble_eq_true rfl, Nat.le_of_ble_eq_true rfl⟩) ⟨wPre_blind, (w_recv hS hK.1 (by decide) (zkd_of (rfl : zcd wC 32 = 8) rfl) (by decide) (rfl : vwCl[9]? = some (RX9, TX9, 3))), w_pre hS hK⟩ rfl rfl hl.1 rfl (lv_room (Nat.le_of_ble_eq_true rfl)) dX11_cut_5 ⟨Nat.le_refl _, Nat.le_refl _⟩) hS0 (fun z2 M1 H locs h hS hS0 => ?_)
  obtain ⟨e3, h⟩ := h
  rw [e3] at hS
  rcases z2 with _ | q4
  · skip
    have h := h.1 rfl
    refine lv_astore_nN (lv' := [(3, .null), (0, .ref (b + 0)), (1, .int (iI a0)), (2, .int (iI a1))]) hx hb dX11_cut_8 rfl hl (by decide) rfl (fun ls hl => ?_)
    refine lv_aload_nN hx hb dX11_cut_9 rfl (lv_at hl 0 rfl) ?_
    refine lv_ifnullN (tgt := 24) hx hb dX11_cut_10 (by decide) ?_
    refine z_iconst hx hb dX11_cut_24 ?_
    exact w_iret hx hb hr hlocks hS hS0 (sI_of (by decide)) h dX11_cut_25
  · skip
    obtain ⟨⟨lt5, cd6⟩, h⟩ := h.2 q4 rfl
    obtain ⟨lt7, cd8, lt9, cd10, lt11, cd12⟩ := nx_ring q4 lt5 cd6
    refine lv_astore_n (lv' := [(3, .ref (b + q4)), (0, .ref (b + 0)), (1, .int (iI a0)), (2, .int (iI a1))]) hx hb dX11_cut_8 rfl hl (by decide) rfl (fun ls hl => ?_)
    refine lv_aload_n hx hb dX11_cut_9 rfl (lv_at hl 0 rfl) ?_
    refine lv_ifnull hx hb dX11_cut_10 ?_
    refine lv_aload_n hx hb dX11_cut_13 rfl (lv_at hl 0 rfl) ?_
    refine w_getr (j2 := (q4 + 1)) hx hb hts (z_memU u6) hown hK.1 hS f6_0 lt5 (zkd_of cd6 rfl) (zrf_of cd6 rfl) (Or.inl (hts _ (z_mem k96))) dX11_cut_14 ?_
    refine lv_iload_n hx hb dX11_cut_17 rfl (lv_at hl 3 rfl) ?_
    refine w_callz (va_runV (As := [.int (iI a1)]) (rest := []) ⟨hx, hb, hml, hown, hts⟩ (cC_Strip_has l D dA b M (q4 + 1) a1 lt7 cd8 _ h) (cwV 1 hts (z_gV k385 k327 k328 k3 k329) rfl rfl rfl dm_X8_has ⟨Nat.le_of_ble_eq_true rfl, Nat.le_of_ble_eq_true rfl⟩) ⟨wPre_blind, (w_recv hS hK.1 lt7 (zkd_of cd8 rfl) (by decide) (rfl : vwCl[8]? = some (RX8, TX8, 2))), w_pre hS hK⟩ rfl rfl hl.1 rfl (lv_room (Nat.le_of_ble_eq_true rfl)) dX11_cut_18 ⟨Nat.le_refl _, Nat.le_refl _⟩) hS0 (fun z14 M13 H locs r15 h hS hS0 => ?_)
    obtain ⟨e16, h⟩ := h
    rw [e16] at hS
    refine w_if_ne (tgt := 26) hx hb (sI_01 r15) dX11_cut_21 (by decide) (fun c17 => ?_) (fun c17 => ?_)
    · skip
      have h := h.1 c17
      refine lv_aload_n hx hb dX11_cut_26 rfl (lv_at hl 0 rfl) ?_
      refine lv_iload_n hx hb dX11_cut_27 rfl (lv_at hl 3 rfl) ?_
      refine w_callv (va_runV (As := [.int (iI a1)]) (rest := []) ⟨hx, hb, hml, hown, hts⟩ (cC_Ring_cutBy l D dA b M q4 a1 lt5 cd6 _ h) (cwV 1 hts (z_gV k674 k667 k668 k6 k669) rfl rfl rfl dm_X6_cutBy ⟨Nat.le_of_ble_eq_true rfl, Nat.le_of_ble_eq_true rfl⟩) ⟨wPre_blind, (w_recv hS hK.1 lt5 (zkd_of cd6 rfl) (by decide) (rfl : vwCl[6]? = some (RX6, TX6, 6))), w_pre hS hK⟩ rfl rfl hl.1 rfl (lv_room (Nat.le_of_ble_eq_true rfl)) dX11_cut_28 ⟨Nat.le_refl _, Nat.le_refl _⟩) hS0 (fun M18 H locs h hS hS0 => ?_)
      refine lv_aload_n hx hb dX11_cut_31 rfl (lv_at hl 0 rfl) ?_
      refine w_getr (j2 := (q4 + 1)) hx hb hts (z_memU u6) hown hK.1 hS f6_0 lt5 (zkd_of cd6 rfl) (zrf_of cd6 rfl) (Or.inl (hts _ (z_mem k96))) dX11_cut_32 ?_
      refine w_geti hx hb hts (z_memU u8) hown hK.1 hS f8_1 lt7 (zkd_of cd8 rfl) (Or.inl (hts _ (z_mem k50))) dX11_cut_35 ?_
      exact w_iret hx hb hr hlocks hS hS0 rfl h dX11_cut_38
    · skip
      have h := h.2 c17
      refine z_iconst hx hb dX11_cut_24 ?_
      exact w_iret hx hb hr hlocks hS hS0 (sI_of (by decide)) h dX11_cut_25

set_option maxRecDepth 100000 in
def wC_Echo_weigh (a0 : Int) (a1 : Int) (M : zM) (Q : Int → zM → Prop) : Prop := ((0 ≤ (sI a0) ∧ (sI a0) < 10) ∧ ((0 ≤ (sI a0) ∧ (sI a0) < 10) ∧ (∀ M3 : zM, M3 = zup M 80 (sI a0).toNat a1 → Q (sI (M 80 (sI a0).toNat)) M3)))
set_option maxHeartbeats 4000000 in
set_option maxRecDepth 100000 in
theorem cC_Echo_weigh (l : Launch) (D : va_G) (dA : Nat → ClassId) (b : Nat) (M : zM) (a0 : Int) (a1 : Int)  (Q : Int → zM → Prop) (h : wC_Echo_weigh a0 a1 M Q) : Met l yX0_weigh (.code yX0_weigh cX0_weigh 4 (some .int) :: zt) (z_rm 0) (va_Pc [.ref (b + 78), .int (iI a0), .int (iI a1)] (wPre D dA vwCl (z_tys dA) wC nC b M)) (va_Qi (wQi Q) (zB D dA vwCl wC nC b) (zA nC b)) 0 0 (zA nC b) := by
  unfold wC_Echo_weigh at h
  refine Met.ofW (cc := cX0_weigh) (maxL := 4) (ret := (some .int)) (by decide) rfl ?_
  intro p e s m args below meth c s₁ B hml hv
  obtain ⟨hargs, hS, hK⟩ := hv
  have hx := B.exec
  have hb := B.bytes
  have hr := B.returns
  have hts := atoms_spec (ws := .code yX0_weigh cX0_weigh 4 (some .int) :: zt) B.pre
  have hown : s.vm.findClass RX0 = some m.cls := findClass_of_methodNamed B.named
  have hlocks := B.notSynchronized
  have hS0 : va_S (zA nC b) s.heap s.heap [] := va_S.rf
  have hl := lv_entry ([.ref (b + 78), .int (iI a0), .int (iI a1)]) (n := 4) (Nat.le_of_ble_eq_true rfl)
  have hent : entryFrame m args 4 = F0 m 0 ((lg_sl ([.ref (b + 78), .int (iI a0), .int (iI a1)]) ++ List.replicate (4 - (lg_sl ([.ref (b + 78), .int (iI a0), .int (iI a1)])).length) Slot.unset).toArray) [] := by rw [hargs]; exact lg_entry_eq m ([.ref (b + 78), .int (iI a0), .int (iI a1)]) 4
  rw [hent]
  generalize (lg_sl ([.ref (b + 78), .int (iI a0), .int (iI a1)]) ++ List.replicate (4 - (lg_sl ([.ref (b + 78), .int (iI a0), .int (iI a1)])).length) Slot.unset).toArray = ls at hl ⊢
  have hl : lv_has ls 4 [(0, .ref (b + 78)), (1, .int (iI a0)), (2, .int (iI a1))] := hl
  refine lv_aload_n hx hb dX0_weigh_0 rfl (lv_at hl 0 rfl) ?_
  refine w_getr (j2 := 80) hx hb hts (z_memU u0) hown hK.1 hS f0_2 (by decide) (zkd_of (rfl : zcd wC 78 = 30) rfl) (zrf_of (rfl : zcd wC 78 = 30) rfl) (Or.inl (hts _ (z_mem k176))) dX0_weigh_1 ?_
  refine lv_iload_n hx hb dX0_weigh_4 rfl (lv_at hl 1 rfl) ?_
  obtain ⟨o1, h⟩ := h
  refine w_iald (n := 10) (i := (sI a0)) hx hb hK.1 (t0 := 0) rfl hS (by decide) (zkd_of (rfl : zcd wC 80 = 32) rfl) (zln_of (rfl : zcd wC 80 = 32) rfl) rfl o1.1 o1.2 (by decide) dX0_weigh_5 ?_
  refine lv_istore_n (lv' := [(3, .int (iI (M 80 (sI a0).toNat))), (0, .ref (b + 78)), (1, .int (iI a0)), (2, .int (iI a1))]) hx hb dX0_weigh_6 rfl hl (by decide) rfl (fun ls hl => ?_)
  refine lv_aload_n hx hb dX0_weigh_7 rfl (lv_at hl 1 rfl) ?_
  refine w_getr (j2 := 80) hx hb hts (z_memU u0) hown hK.1 hS f0_2 (by decide) (zkd_of (rfl : zcd wC 78 = 30) rfl) (zrf_of (rfl : zcd wC 78 = 30) rfl) (Or.inl (hts _ (z_mem k176))) dX0_weigh_8 ?_
  refine lv_iload_n hx hb dX0_weigh_11 rfl (lv_at hl 2 rfl) ?_
  refine lv_iload_n hx hb dX0_weigh_12 rfl (lv_at hl 3 rfl) ?_
  obtain ⟨o2, h⟩ := h
  refine w_iast (z := a1) (n := 10) (i := (sI a0)) hx hb hK.1 (t0 := 0) rfl hS hS0 (by decide) (zkd_of (rfl : zcd wC 80 = 32) rfl) (zln_of (rfl : zcd wC 80 = 32) rfl) rfl o2.1 o2.2 (by decide) dX0_weigh_13 (fun H locs hS hS0 => ?_)
  obtain ⟨M3, e4⟩ : ∃ M3 : zM, M3 = zup M 80 (sI a0).toNat a1 := ⟨_, rfl⟩
  rw [← e4] at hS
  have h := h M3 e4
  refine lv_iload_n hx hb dX0_weigh_14 rfl (lv_at hl 0 rfl) ?_
  exact w_iret hx hb hr hlocks hS hS0 rfl h dX0_weigh_15

set_option maxRecDepth 100000 in
def wC_weight (a0 : Int) (a1 : Int) (M : zM) (Q : Int → zM → Prop) : Prop := wC_isSound a0 M (fun z2 => (z2 = 0 → Q (-1) M) ∧ (z2 ≠ 0 → wC_within a1 0 200 M (fun z7 => (z7 ≠ 0 → wC_Echo_weigh a0 a1 M (fun z12 M11 => Q z12 M11)) ∧ (z7 = 0 → Q (-1) M))))
set_option maxHeartbeats 4000000 in
set_option maxRecDepth 100000 in
theorem cC_weight (l : Launch) (D : va_G) (dA : Nat → ClassId) (b : Nat) (M : zM) (a0 : Int) (a1 : Int)  (Q : Int → zM → Prop) (h : wC_weight a0 a1 M Q) : Met l yX11_weight (.code yX11_weight cX11_weight 3 (some .int) :: zt) (z_rm 2) (va_Pc [.ref (b + 0), .int (iI a0), .int (iI a1)] (wPre D dA vwCl (z_tys dA) wC nC b M)) (va_Qi (wQi Q) (zB D dA vwCl wC nC b) (zA nC b)) 0 0 (zA nC b) := by
  unfold wC_weight at h
  refine Met.ofW (cc := cX11_weight) (maxL := 3) (ret := (some .int)) (by decide) rfl ?_
  intro p e s m args below meth c s₁ B hml hv
  obtain ⟨hargs, hS, hK⟩ := hv
  have hx := B.exec
  have hb := B.bytes
  have hr := B.returns
  have hts := atoms_spec (ws := .code yX11_weight cX11_weight 3 (some .int) :: zt) B.pre
  have hown : s.vm.findClass RX11 = some m.cls := findClass_of_methodNamed B.named
  have hlocks := B.notSynchronized
  have hS0 : va_S (zA nC b) s.heap s.heap [] := va_S.rf
  have hl := lv_entry ([.ref (b + 0), .int (iI a0), .int (iI a1)]) (n := 3) (Nat.le_of_ble_eq_true rfl)
  have hent : entryFrame m args 3 = F0 m 0 ((lg_sl ([.ref (b + 0), .int (iI a0), .int (iI a1)]) ++ List.replicate (3 - (lg_sl ([.ref (b + 0), .int (iI a0), .int (iI a1)])).length) Slot.unset).toArray) [] := by rw [hargs]; exact lg_entry_eq m ([.ref (b + 0), .int (iI a0), .int (iI a1)]) 3
  rw [hent]
  generalize (lg_sl ([.ref (b + 0), .int (iI a0), .int (iI a1)]) ++ List.replicate (3 - (lg_sl ([.ref (b + 0), .int (iI a0), .int (iI a1)])).length) Slot.unset).toArray = ls at hl ⊢
  have hl : lv_has ls 3 [(0, .ref (b + 0)), (1, .int (iI a0)), (2, .int (iI a1))] := hl
  refine lv_iload_n hx hb dX11_weight_0 rfl (lv_at hl 1 rfl) ?_
  refine w_callz (va_runS (As := [.int (iI a0)]) (rest := []) ⟨hx, hb, hml, hown, hts⟩ (cC_isSound l D dA b M a0 _ h) (va_cwS 1 hts (z_gS k601 k602 k1 k603) rfl rfl rfl dm_X11_isSound.2 ⟨Nat.le_of_ble_eq_true rfl, Nat.le_of_ble_eq_true rfl⟩) ⟨wPre_blind, w_pre hS hK⟩ rfl rfl hl.1 rfl (lv_room (Nat.le_of_ble_eq_true rfl)) dX11_weight_1 ⟨Nat.le_refl _, Nat.le_refl _⟩) hS0 (fun z2 M1 H locs r3 h hS hS0 => ?_)
  obtain ⟨e4, h⟩ := h
  rw [e4] at hS
  refine w_if_eq (tgt := 18) hx hb (sI_01 r3) dX11_weight_4 (by decide) (fun c5 => ?_) (fun c5 => ?_)
  · skip
    have h := h.1 c5
    refine z_iconst hx hb dX11_weight_18 ?_
    exact w_iret hx hb hr hlocks hS hS0 (sI_of (by decide)) h dX11_weight_19
  · skip
    have h := h.2 c5
    refine lv_iload_n hx hb dX11_weight_7 rfl (lv_at hl 2 rfl) ?_
    refine z_iconst hx hb dX11_weight_8 ?_
    refine z_sipush hx hb (by decide) dX11_weight_9 ?_
    refine w_callz (va_runS (As := [.int (iI a1), .int (iI 0), .int (iI 200)]) (rest := []) ⟨hx, hb, hml, hown, hts⟩ (cC_within l D dA b M a1 0 200 _ h) (va_cwS 3 hts (z_gS k382 k383 k1 k384) rfl rfl rfl dm_X11_within.2 ⟨Nat.le_of_ble_eq_true rfl, Nat.le_of_ble_eq_true rfl⟩) ⟨wPre_blind, w_pre hS hK⟩ rfl rfl hl.1 rfl (lv_room (Nat.le_of_ble_eq_true rfl)) dX11_weight_12 ⟨Nat.le_refl _, Nat.le_refl _⟩) hS0 (fun z7 M6 H locs r8 h hS hS0 => ?_)
    obtain ⟨e9, h⟩ := h
    rw [e9] at hS
    refine w_if_ne (tgt := 20) hx hb (sI_01 r8) dX11_weight_15 (by decide) (fun c10 => ?_) (fun c10 => ?_)
    · skip
      have h := h.1 c10
      refine lv_aload_n hx hb dX11_weight_20 rfl (lv_at hl 0 rfl) ?_
      refine w_getr (j2 := 78) hx hb hts (z_memU u11) hown hK.1 hS f11_5 (by decide) (zkd_of (rfl : zcd wC 0 = 0) rfl) (zrf_of (rfl : zcd wC 0 = 0) rfl) (Or.inl (hts _ (z_mem k247))) dX11_weight_21 ?_
      refine lv_iload_n hx hb dX11_weight_24 rfl (lv_at hl 1 rfl) ?_
      refine lv_iload_n hx hb dX11_weight_25 rfl (lv_at hl 2 rfl) ?_
      refine w_calli (va_runV (As := [.int (iI a0), .int (iI a1)]) (rest := []) ⟨hx, hb, hml, hown, hts⟩ (cC_Echo_weigh l D dA b M a0 a1 _ h) (cwV 2 hts (z_gV k679 k680 k681 k9 k682) rfl rfl rfl dm_X0_weigh ⟨Nat.le_of_ble_eq_true rfl, Nat.le_of_ble_eq_true rfl⟩) ⟨wPre_blind, (w_recv hS hK.1 (by decide) (zkd_of (rfl : zcd wC 78 = 30) rfl) (by decide) (rfl : vwCl[0]? = some (RX0, TX0, 8))), w_pre hS hK⟩ rfl rfl hl.1 rfl (lv_room (Nat.le_of_ble_eq_true rfl)) dX11_weight_26 ⟨Nat.le_refl _, Nat.le_refl _⟩) hS0 (fun z12 M11 H locs r13 h hS hS0 => ?_)
      exact w_iret hx hb hr hlocks hS hS0 (sI_of r13) h dX11_weight_29
    · skip
      have h := h.2 c10
      refine z_iconst hx hb dX11_weight_18 ?_
      exact w_iret hx hb hr hlocks hS hS0 (sI_of (by decide)) h dX11_weight_19

set_option maxRecDepth 100000 in
def wC_Echo_place (a0 : Int) (a1 : Int) (a2 : Int) (a3 : Int) (M : zM) (Q : zM → Prop) : Prop := (∀ M1 : zM, M1 = zup M 78 3 a0 → (∀ M3 : zM, M3 = zup M1 78 4 a1 → (∀ M5 : zM, M5 = zup M3 78 5 a2 → (∀ M7 : zM, M7 = zup M5 78 6 a3 → Q M7))))
set_option maxHeartbeats 4000000 in
set_option maxRecDepth 100000 in
theorem cC_Echo_place (l : Launch) (D : va_G) (dA : Nat → ClassId) (b : Nat) (M : zM) (a0 : Int) (a1 : Int) (a2 : Int) (a3 : Int)  (Q : zM → Prop) (h : wC_Echo_place a0 a1 a2 a3 M Q) : Met l yX0_place (.code yX0_place cX0_place 5 none :: zt) (z_rm 0) (va_Pc [.ref (b + 78), .int (iI a0), .int (iI a1), .int (iI a2), .int (iI a3)] (wPre D dA vwCl (z_tys dA) wC nC b M)) (va_Qv (wQv Q) (zB D dA vwCl wC nC b) (zA nC b)) 0 0 (zA nC b) := by
  unfold wC_Echo_place at h
  refine Met.ofW (cc := cX0_place) (maxL := 5) (ret := none) (by decide) rfl ?_
  intro p e s m args below meth c s₁ B hml hv
  obtain ⟨hargs, hS, hK⟩ := hv
  have hx := B.exec
  have hb := B.bytes
  have hr := B.returns
  have hts := atoms_spec (ws := .code yX0_place cX0_place 5 none :: zt) B.pre
  have hown : s.vm.findClass RX0 = some m.cls := findClass_of_methodNamed B.named
  have hlocks := B.notSynchronized
  have hS0 : va_S (zA nC b) s.heap s.heap [] := va_S.rf
  have hl := lv_entry ([.ref (b + 78), .int (iI a0), .int (iI a1), .int (iI a2), .int (iI a3)]) (n := 5) (Nat.le_of_ble_eq_true rfl)
  have hent : entryFrame m args 5 = F0 m 0 ((lg_sl ([.ref (b + 78), .int (iI a0), .int (iI a1), .int (iI a2), .int (iI a3)]) ++ List.replicate (5 - (lg_sl ([.ref (b + 78), .int (iI a0), .int (iI a1), .int (iI a2), .int (iI a3)])).length) Slot.unset).toArray) [] := by rw [hargs]; exact lg_entry_eq m ([.ref (b + 78), .int (iI a0), .int (iI a1), .int (iI a2), .int (iI a3)]) 5
  rw [hent]
  generalize (lg_sl ([.ref (b + 78), .int (iI a0), .int (iI a1), .int (iI a2), .int (iI a3)]) ++ List.replicate (5 - (lg_sl ([.ref (b + 78), .int (iI a0), .int (iI a1), .int (iI a2), .int (iI a3)])).length) Slot.unset).toArray = ls at hl ⊢
  have hl : lv_has ls 5 [(0, .ref (b + 78)), (1, .int (iI a0)), (2, .int (iI a1)), (3, .int (iI a2)), (4, .int (iI a3))] := hl
  refine lv_aload_n hx hb dX0_place_0 rfl (lv_at hl 0 rfl) ?_
  refine lv_iload_n hx hb dX0_place_1 rfl (lv_at hl 1 rfl) ?_
  refine w_puti hx hb hts (z_memU u0) tyX0 tyX0_ok nmX0 hown hK.1 hS hS0 f0_3 (by decide) (zkd_of (rfl : zcd wC 78 = 30) rfl) (Or.inl (hts _ (z_mem k177))) rfl (z := a0) (by decide +kernel) dX0_place_2 (fun H locs hS hS0 => ?_)
  obtain ⟨M1, e2⟩ : ∃ M1 : zM, M1 = zup M 78 3 a0 := ⟨_, rfl⟩
  rw [← e2] at hS
  have h := h M1 e2
  refine lv_aload_n hx hb dX0_place_5 rfl (lv_at hl 0 rfl) ?_
  refine lv_iload_n hx hb dX0_place_6 rfl (lv_at hl 2 rfl) ?_
  refine w_puti hx hb hts (z_memU u0) tyX0 tyX0_ok nmX0 hown hK.1 hS hS0 f0_4 (by decide) (zkd_of (rfl : zcd wC 78 = 30) rfl) (Or.inl (hts _ (z_mem k178))) rfl (z := a1) (by decide +kernel) dX0_place_7 (fun H locs hS hS0 => ?_)
  obtain ⟨M3, e4⟩ : ∃ M3 : zM, M3 = zup M1 78 4 a1 := ⟨_, rfl⟩
  rw [← e4] at hS
  have h := h M3 e4
  refine lv_aload_n hx hb dX0_place_10 rfl (lv_at hl 0 rfl) ?_
  refine lv_iload_n hx hb dX0_place_11 rfl (lv_at hl 3 rfl) ?_
  refine w_puti hx hb hts (z_memU u0) tyX0 tyX0_ok nmX0 hown hK.1 hS hS0 f0_5 (by decide) (zkd_of (rfl : zcd wC 78 = 30) rfl) (Or.inl (hts _ (z_mem k179))) rfl (z := a2) (by decide +kernel) dX0_place_12 (fun H locs hS hS0 => ?_)
  obtain ⟨M5, e6⟩ : ∃ M5 : zM, M5 = zup M3 78 5 a2 := ⟨_, rfl⟩
  rw [← e6] at hS
  have h := h M5 e6
  refine lv_aload_n hx hb dX0_place_15 rfl (lv_at hl 0 rfl) ?_
  refine lv_iload hx hb dX0_place_16 (lv_at hl 4 rfl) ?_
  refine w_puti hx hb hts (z_memU u0) tyX0 tyX0_ok nmX0 hown hK.1 hS hS0 f0_6 (by decide) (zkd_of (rfl : zcd wC 78 = 30) rfl) (Or.inl (hts _ (z_mem k180))) rfl (z := a3) (by decide +kernel) dX0_place_18 (fun H locs hS hS0 => ?_)
  obtain ⟨M7, e8⟩ : ∃ M7 : zM, M7 = zup M5 78 6 a3 := ⟨_, rfl⟩
  rw [← e8] at hS
  have h := h M7 e8
  exact w_vret hx hb hr hlocks hS hS0 h dX0_place_21

set_option maxRecDepth 100000 in
def wC_heads (a0 : Int) (a1 : Int) (a2 : Int) (a3 : Int) (M : zM) (Q : Int → zM → Prop) : Prop := wC_within a0 1 20 M (fun z2 => (z2 = 0 → Q 0 M) ∧ (z2 ≠ 0 → wC_within a1 0 100 M (fun z7 => (z7 = 0 → Q 0 M) ∧ (z7 ≠ 0 → wC_within a2 1 20 M (fun z12 => (z12 = 0 → Q 0 M) ∧ (z12 ≠ 0 → wC_within a3 0 100 M (fun z17 => (z17 ≠ 0 → wC_Echo_place a0 a1 a2 a3 M (fun M21 => Q 1 M21)) ∧ (z17 = 0 → Q 0 M))))))))
set_option maxHeartbeats 4000000 in
set_option maxRecDepth 100000 in
theorem cC_heads (l : Launch) (D : va_G) (dA : Nat → ClassId) (b : Nat) (M : zM) (a0 : Int) (a1 : Int) (a2 : Int) (a3 : Int)  (Q : Int → zM → Prop) (h : wC_heads a0 a1 a2 a3 M Q) : Met l yX11_heads (.code yX11_heads cX11_heads 5 (some .boolean) :: zt) (z_rm 1) (va_Pc [.ref (b + 0), .int (iI a0), .int (iI a1), .int (iI a2), .int (iI a3)] (wPre D dA vwCl (z_tys dA) wC nC b M)) (va_Qi (wQz Q) (zB D dA vwCl wC nC b) (zA nC b)) 0 0 (zA nC b) := by
  unfold wC_heads at h
  refine Met.ofW (cc := cX11_heads) (maxL := 5) (ret := (some .boolean)) (by decide) rfl ?_
  intro p e s m args below meth c s₁ B hml hv
  obtain ⟨hargs, hS, hK⟩ := hv
  have hx := B.exec
  have hb := B.bytes
  have hr := B.returns
  have hts := atoms_spec (ws := .code yX11_heads cX11_heads 5 (some .boolean) :: zt) B.pre
  have hown : s.vm.findClass RX11 = some m.cls := findClass_of_methodNamed B.named
  have hlocks := B.notSynchronized
  have hS0 : va_S (zA nC b) s.heap s.heap [] := va_S.rf
  have hl := lv_entry ([.ref (b + 0), .int (iI a0), .int (iI a1), .int (iI a2), .int (iI a3)]) (n := 5) (Nat.le_of_ble_eq_true rfl)
  have hent : entryFrame m args 5 = F0 m 0 ((lg_sl ([.ref (b + 0), .int (iI a0), .int (iI a1), .int (iI a2), .int (iI a3)]) ++ List.replicate (5 - (lg_sl ([.ref (b + 0), .int (iI a0), .int (iI a1), .int (iI a2), .int (iI a3)])).length) Slot.unset).toArray) [] := by rw [hargs]; exact lg_entry_eq m ([.ref (b + 0), .int (iI a0), .int (iI a1), .int (iI a2), .int (iI a3)]) 5
  rw [hent]
  generalize (lg_sl ([.ref (b + 0), .int (iI a0), .int (iI a1), .int (iI a2), .int (iI a3)]) ++ List.replicate (5 - (lg_sl ([.ref (b + 0), .int (iI a0), .int (iI a1), .int (iI a2), .int (iI a3)])).length) Slot.unset).toArray = ls at hl ⊢
  have hl : lv_has ls 5 [(0, .ref (b + 0)), (1, .int (iI a0)), (2, .int (iI a1)), (3, .int (iI a2)), (4, .int (iI a3))] := hl
  refine lv_iload_n hx hb dX11_heads_0 rfl (lv_at hl 1 rfl) ?_
  refine z_iconst hx hb dX11_heads_1 ?_
  refine z_bipush hx hb (by decide) dX11_heads_2 ?_
  refine w_callz (va_runS (As := [.int (iI a0), .int (iI 1), .int (iI 20)]) (rest := []) ⟨hx, hb, hml, hown, hts⟩ (cC_within l D dA b M a0 1 20 _ h) (va_cwS 3 hts (z_gS k382 k383 k1 k384) rfl rfl rfl dm_X11_within.2 ⟨Nat.le_of_ble_eq_true rfl, Nat.le_of_ble_eq_true rfl⟩) ⟨wPre_blind, w_pre hS hK⟩ rfl rfl hl.1 rfl (lv_room (Nat.le_of_ble_eq_true rfl)) dX11_heads_4 ⟨Nat.le_refl _, Nat.le_refl _⟩) hS0 (fun z2 M1 H locs r3 h hS hS0 => ?_)
  obtain ⟨e4, h⟩ := h
  rw [e4] at hS
  refine w_if_eq (tgt := 41) hx hb (sI_01 r3) dX11_heads_7 (by decide) (fun c5 => ?_) (fun c5 => ?_)
  · skip
    have h := h.1 c5
    refine z_iconst hx hb dX11_heads_41 ?_
    exact w_zret hx hb hr hlocks hS hS0 (sI_of (by decide)) (by decide) h dX11_heads_42
  · skip
    have h := h.2 c5
    refine lv_iload_n hx hb dX11_heads_10 rfl (lv_at hl 2 rfl) ?_
    refine z_iconst hx hb dX11_heads_11 ?_
    refine z_bipush hx hb (by decide) dX11_heads_12 ?_
    refine w_callz (va_runS (As := [.int (iI a1), .int (iI 0), .int (iI 100)]) (rest := []) ⟨hx, hb, hml, hown, hts⟩ (cC_within l D dA b M a1 0 100 _ h) (va_cwS 3 hts (z_gS k382 k383 k1 k384) rfl rfl rfl dm_X11_within.2 ⟨Nat.le_of_ble_eq_true rfl, Nat.le_of_ble_eq_true rfl⟩) ⟨wPre_blind, w_pre hS hK⟩ rfl rfl hl.1 rfl (lv_room (Nat.le_of_ble_eq_true rfl)) dX11_heads_14 ⟨Nat.le_refl _, Nat.le_refl _⟩) hS0 (fun z7 M6 H locs r8 h hS hS0 => ?_)
    obtain ⟨e9, h⟩ := h
    rw [e9] at hS
    refine w_if_eq (tgt := 41) hx hb (sI_01 r8) dX11_heads_17 (by decide) (fun c10 => ?_) (fun c10 => ?_)
    · skip
      have h := h.1 c10
      refine z_iconst hx hb dX11_heads_41 ?_
      exact w_zret hx hb hr hlocks hS hS0 (sI_of (by decide)) (by decide) h dX11_heads_42
    · skip
      have h := h.2 c10
      refine lv_iload_n hx hb dX11_heads_20 rfl (lv_at hl 3 rfl) ?_
      refine z_iconst hx hb dX11_heads_21 ?_
      refine z_bipush hx hb (by decide) dX11_heads_22 ?_
      refine w_callz (va_runS (As := [.int (iI a2), .int (iI 1), .int (iI 20)]) (rest := []) ⟨hx, hb, hml, hown, hts⟩ (cC_within l D dA b M a2 1 20 _ h) (va_cwS 3 hts (z_gS k382 k383 k1 k384) rfl rfl rfl dm_X11_within.2 ⟨Nat.le_of_ble_eq_true rfl, Nat.le_of_ble_eq_true rfl⟩) ⟨wPre_blind, w_pre hS hK⟩ rfl rfl hl.1 rfl (lv_room (Nat.le_of_ble_eq_true rfl)) dX11_heads_24 ⟨Nat.le_refl _, Nat.le_refl _⟩) hS0 (fun z12 M11 H locs r13 h hS hS0 => ?_)
      obtain ⟨e14, h⟩ := h
      rw [e14] at hS
      refine w_if_eq (tgt := 41) hx hb (sI_01 r13) dX11_heads_27 (by decide) (fun c15 => ?_) (fun c15 => ?_)
      · skip
        have h := h.1 c15
        refine z_iconst hx hb dX11_heads_41 ?_
        exact w_zret hx hb hr hlocks hS hS0 (sI_of (by decide)) (by decide) h dX11_heads_42
      · skip
        have h := h.2 c15
        refine lv_iload hx hb dX11_heads_30 (lv_at hl 4 rfl) ?_
        refine z_iconst hx hb dX11_heads_32 ?_
        refine z_bipush hx hb (by decide) dX11_heads_33 ?_
        refine w_callz (va_runS (As := [.int (iI a3), .int (iI 0), .int (iI 100)]) (rest := []) ⟨hx, hb, hml, hown, hts⟩ (cC_within l D dA b M a3 0 100 _ h) (va_cwS 3 hts (z_gS k382 k383 k1 k384) rfl rfl rfl dm_X11_within.2 ⟨Nat.le_of_ble_eq_true rfl, Nat.le_of_ble_eq_true rfl⟩) ⟨wPre_blind, w_pre hS hK⟩ rfl rfl hl.1 rfl (lv_room (Nat.le_of_ble_eq_true rfl)) dX11_heads_35 ⟨Nat.le_refl _, Nat.le_refl _⟩) hS0 (fun z17 M16 H locs r18 h hS hS0 => ?_)
        obtain ⟨e19, h⟩ := h
        rw [e19] at hS
        refine w_if_ne (tgt := 43) hx hb (sI_01 r18) dX11_heads_38 (by decide) (fun c20 => ?_) (fun c20 => ?_)
        · skip
          have h := h.1 c20
          refine lv_aload_n hx hb dX11_heads_43 rfl (lv_at hl 0 rfl) ?_
          refine w_getr (j2 := 78) hx hb hts (z_memU u11) hown hK.1 hS f11_5 (by decide) (zkd_of (rfl : zcd wC 0 = 0) rfl) (zrf_of (rfl : zcd wC 0 = 0) rfl) (Or.inl (hts _ (z_mem k247))) dX11_heads_44 ?_
          refine lv_iload_n hx hb dX11_heads_47 rfl (lv_at hl 1 rfl) ?_
          refine lv_iload_n hx hb dX11_heads_48 rfl (lv_at hl 2 rfl) ?_
          refine lv_iload_n hx hb dX11_heads_49 rfl (lv_at hl 3 rfl) ?_
          refine lv_iload hx hb dX11_heads_50 (lv_at hl 4 rfl) ?_
          refine w_callv (va_runV (As := [.int (iI a0), .int (iI a1), .int (iI a2), .int (iI a3)]) (rest := []) ⟨hx, hb, hml, hown, hts⟩ (cC_Echo_place l D dA b M a0 a1 a2 a3 _ h) (cwV 4 hts (z_gV k687 k688 k689 k9 k690) rfl rfl rfl dm_X0_place ⟨Nat.le_of_ble_eq_true rfl, Nat.le_of_ble_eq_true rfl⟩) ⟨wPre_blind, (w_recv hS hK.1 (by decide) (zkd_of (rfl : zcd wC 78 = 30) rfl) (by decide) (rfl : vwCl[0]? = some (RX0, TX0, 8))), w_pre hS hK⟩ rfl rfl hl.1 rfl (lv_room (Nat.le_of_ble_eq_true rfl)) dX11_heads_52 ⟨Nat.le_refl _, Nat.le_refl _⟩) hS0 (fun M21 H locs h hS hS0 => ?_)
          refine z_iconst hx hb dX11_heads_55 ?_
          exact w_zret hx hb hr hlocks hS hS0 (sI_of (by decide)) (by decide) h dX11_heads_56
        · skip
          have h := h.2 c20
          refine z_iconst hx hb dX11_heads_41 ?_
          exact w_zret hx hb hr hlocks hS hS0 (sI_of (by decide)) (by decide) h dX11_heads_42

set_option maxRecDepth 100000 in
def wC_stop (a0 : Int) (M : zM) (Q : Int → zM → Prop) : Prop := wC_within a0 0 2000 M (fun z2 => (z2 ≠ 0 → (∀ M6 : zM, M6 = zup M 78 0 a0 → Q (sI (M 78 0)) M6)) ∧ (z2 = 0 → Q (-1) M))
set_option maxHeartbeats 4000000 in
set_option maxRecDepth 100000 in
theorem cC_stop (l : Launch) (D : va_G) (dA : Nat → ClassId) (b : Nat) (M : zM) (a0 : Int)  (Q : Int → zM → Prop) (h : wC_stop a0 M Q) : Met l yX11_stop (.code yX11_stop cX11_stop 3 (some .int) :: zt) (z_rm 1) (va_Pc [.ref (b + 0), .int (iI a0)] (wPre D dA vwCl (z_tys dA) wC nC b M)) (va_Qi (wQi Q) (zB D dA vwCl wC nC b) (zA nC b)) 0 0 (zA nC b) := by
  unfold wC_stop at h
  refine Met.ofW (cc := cX11_stop) (maxL := 3) (ret := (some .int)) (by decide) rfl ?_
  intro p e s m args below meth c s₁ B hml hv
  obtain ⟨hargs, hS, hK⟩ := hv
  have hx := B.exec
  have hb := B.bytes
  have hr := B.returns
  have hts := atoms_spec (ws := .code yX11_stop cX11_stop 3 (some .int) :: zt) B.pre
  have hown : s.vm.findClass RX11 = some m.cls := findClass_of_methodNamed B.named
  have hlocks := B.notSynchronized
  have hS0 : va_S (zA nC b) s.heap s.heap [] := va_S.rf
  have hl := lv_entry ([.ref (b + 0), .int (iI a0)]) (n := 3) (Nat.le_of_ble_eq_true rfl)
  have hent : entryFrame m args 3 = F0 m 0 ((lg_sl ([.ref (b + 0), .int (iI a0)]) ++ List.replicate (3 - (lg_sl ([.ref (b + 0), .int (iI a0)])).length) Slot.unset).toArray) [] := by rw [hargs]; exact lg_entry_eq m ([.ref (b + 0), .int (iI a0)]) 3
  rw [hent]
  generalize (lg_sl ([.ref (b + 0), .int (iI a0)]) ++ List.replicate (3 - (lg_sl ([.ref (b + 0), .int (iI a0)])).length) Slot.unset).toArray = ls at hl ⊢
  have hl : lv_has ls 3 [(0, .ref (b + 0)), (1, .int (iI a0))] := hl
  refine lv_iload_n hx hb dX11_stop_0 rfl (lv_at hl 1 rfl) ?_
  refine z_iconst hx hb dX11_stop_1 ?_
  refine z_sipush hx hb (by decide) dX11_stop_2 ?_
  refine w_callz (va_runS (As := [.int (iI a0), .int (iI 0), .int (iI 2000)]) (rest := []) ⟨hx, hb, hml, hown, hts⟩ (cC_within l D dA b M a0 0 2000 _ h) (va_cwS 3 hts (z_gS k382 k383 k1 k384) rfl rfl rfl dm_X11_within.2 ⟨Nat.le_of_ble_eq_true rfl, Nat.le_of_ble_eq_true rfl⟩) ⟨wPre_blind, w_pre hS hK⟩ rfl rfl hl.1 rfl (lv_room (Nat.le_of_ble_eq_true rfl)) dX11_stop_5 ⟨Nat.le_refl _, Nat.le_refl _⟩) hS0 (fun z2 M1 H locs r3 h hS hS0 => ?_)
  obtain ⟨e4, h⟩ := h
  rw [e4] at hS
  refine w_if_ne (tgt := 13) hx hb (sI_01 r3) dX11_stop_8 (by decide) (fun c5 => ?_) (fun c5 => ?_)
  · skip
    have h := h.1 c5
    refine lv_aload_n hx hb dX11_stop_13 rfl (lv_at hl 0 rfl) ?_
    refine w_getr (j2 := 78) hx hb hts (z_memU u11) hown hK.1 hS f11_5 (by decide) (zkd_of (rfl : zcd wC 0 = 0) rfl) (zrf_of (rfl : zcd wC 0 = 0) rfl) (Or.inl (hts _ (z_mem k247))) dX11_stop_14 ?_
    refine w_geti hx hb hts (z_memU u0) hown hK.1 hS f0_0 (by decide) (zkd_of (rfl : zcd wC 78 = 30) rfl) (Or.inl (hts _ (z_mem k173))) dX11_stop_17 ?_
    refine lv_istore_n (lv' := [(2, .int (iI (M 78 0))), (0, .ref (b + 0)), (1, .int (iI a0))]) hx hb dX11_stop_20 rfl hl (by decide) rfl (fun ls hl => ?_)
    refine lv_aload_n hx hb dX11_stop_21 rfl (lv_at hl 1 rfl) ?_
    refine w_getr (j2 := 78) hx hb hts (z_memU u11) hown hK.1 hS f11_5 (by decide) (zkd_of (rfl : zcd wC 0 = 0) rfl) (zrf_of (rfl : zcd wC 0 = 0) rfl) (Or.inl (hts _ (z_mem k247))) dX11_stop_22 ?_
    refine lv_iload_n hx hb dX11_stop_25 rfl (lv_at hl 2 rfl) ?_
    refine w_puti hx hb hts (z_memU u0) tyX0 tyX0_ok nmX0 hown hK.1 hS hS0 f0_0 (by decide) (zkd_of (rfl : zcd wC 78 = 30) rfl) (Or.inl (hts _ (z_mem k173))) rfl (z := a0) (by decide +kernel) dX11_stop_26 (fun H locs hS hS0 => ?_)
    obtain ⟨M6, e7⟩ : ∃ M6 : zM, M6 = zup M 78 0 a0 := ⟨_, rfl⟩
    rw [← e7] at hS
    have h := h M6 e7
    refine lv_iload_n hx hb dX11_stop_29 rfl (lv_at hl 0 rfl) ?_
    exact w_iret hx hb hr hlocks hS hS0 rfl h dX11_stop_30
  · skip
    have h := h.2 c5
    refine z_iconst hx hb dX11_stop_11 ?_
    exact w_iret hx hb hr hlocks hS hS0 (sI_of (by decide)) h dX11_stop_12

set_option maxRecDepth 100000 in
def wC_Echo_loudness (a0 : Int) (M : zM) (Q : Int → Prop) : Prop := pL2 (fun K4 x1 x2 => (9 < (sI x2) → Q (sI x1)) ∧ ((sI x2) ≤ 9 → ((0 ≤ (sI x2) ∧ (sI x2) < 10) ∧ (∀ t12 : Int, t12 = (x1 + ((andI (shrI a0 x2) 1) * (M 80 (sI x2).toNat))) → K4 t12 (x2 + 1))))) 0 1
set_option maxHeartbeats 4000000 in
set_option maxRecDepth 100000 in
theorem cC_Echo_loudness (l : Launch) (D : va_G) (dA : Nat → ClassId) (b : Nat) (M : zM) (a0 : Int)  (Q : Int → Prop) (h : wC_Echo_loudness a0 M Q) : Met l yX0_loudness (.code yX0_loudness cX0_loudness 4 (some .int) :: zt) (z_rm 0) (va_Pc [.ref (b + 78), .int (iI a0)] (wPre D dA vwCl (z_tys dA) wC nC b M)) (va_Qi (wQi (fun z9 u9 => u9 = M ∧ Q z9)) (zB D dA vwCl wC nC b) (zA nC b)) 0 0 (zA nC b) := by
  unfold wC_Echo_loudness at h
  refine Met.ofW (cc := cX0_loudness) (maxL := 4) (ret := (some .int)) (by decide) rfl ?_
  intro p e s m args below meth c s₁ B hml hv
  obtain ⟨hargs, hS, hK⟩ := hv
  have hx := B.exec
  have hb := B.bytes
  have hr := B.returns
  have hts := atoms_spec (ws := .code yX0_loudness cX0_loudness 4 (some .int) :: zt) B.pre
  have hown : s.vm.findClass RX0 = some m.cls := findClass_of_methodNamed B.named
  have hlocks := B.notSynchronized
  have hS0 : va_S (zA nC b) s.heap s.heap [] := va_S.rf
  have hl := lv_entry ([.ref (b + 78), .int (iI a0)]) (n := 4) (Nat.le_of_ble_eq_true rfl)
  have hent : entryFrame m args 4 = F0 m 0 ((lg_sl ([.ref (b + 78), .int (iI a0)]) ++ List.replicate (4 - (lg_sl ([.ref (b + 78), .int (iI a0)])).length) Slot.unset).toArray) [] := by rw [hargs]; exact lg_entry_eq m ([.ref (b + 78), .int (iI a0)]) 4
  rw [hent]
  generalize (lg_sl ([.ref (b + 78), .int (iI a0)]) ++ List.replicate (4 - (lg_sl ([.ref (b + 78), .int (iI a0)])).length) Slot.unset).toArray = ls at hl ⊢
  have hl : lv_has ls 4 [(0, .ref (b + 78)), (1, .int (iI a0))] := hl
  refine z_iconst hx hb dX0_loudness_0 ?_
  refine lv_istore_n (lv' := [(2, .int (iI 0)), (0, .ref (b + 78)), (1, .int (iI a0))]) hx hb dX0_loudness_1 rfl hl (by decide) rfl (fun ls hl => ?_)
  refine z_iconst hx hb dX0_loudness_2 ?_
  refine lv_istore_n (lv' := [(3, .int (iI 1)), (2, .int (iI 0)), (0, .ref (b + 78)), (1, .int (iI a0))]) hx hb dX0_loudness_3 rfl hl (by decide) rfl (fun ls hl => ?_)
  obtain ⟨I3, ⟨n4, h5⟩, h6⟩ := h
  have L7 : ∀ (n8 : Nat) (x1 x2 : Int) (H : Heap) (locs : List Loc) (ls : Array Slot), I3 n8 x1 x2 → zR D dA vwCl wC nC b M H → va_S (zA nC b) s.heap H locs → lv_has ls 4 [(0, .ref (b + 78)), (1, .int (iI a0)), (2, .int (iI x1)), (3, .int (iI x2))] → W p l e (headSpec (.code yX0_loudness cX0_loudness 4 (some .int) :: zt) (z_rm 0)).room s m args below meth c H locs 0 0 (MQ below (va_Qi (wQi (fun z9 u9 => u9 = M ∧ Q z9)) (zB D dA vwCl wC nC b) (zA nC b)) args s 0 0 (zA nC b)) (F0 m 4 ls []) := by
    intro n8
    induction n8 using Nat.strongRecOn with
    | ind n8 i9 =>
      intro x1 x2 H locs ls h hS hS0 hl
      have h := h6 n8 x1 x2 h
      refine lv_iload_n hx hb dX0_loudness_4 rfl (lv_at hl 3 rfl) ?_
      refine z_bipush hx hb (by decide) dX0_loudness_5 ?_
      refine w_icmp_gt (tgt := 31) hx hb rfl (sI_of (by decide)) dX0_loudness_7 (by decide) (fun c10 => ?_) (fun c10 => ?_)
      · skip
        have h := h.1 c10
        refine lv_iload_n hx hb dX0_loudness_31 rfl (lv_at hl 2 rfl) ?_
        exact w_iret hx hb hr hlocks hS hS0 rfl ⟨rfl, h⟩ dX0_loudness_32
      · skip
        have h := h.2 c10
        refine lv_iload_n hx hb dX0_loudness_10 rfl (lv_at hl 2 rfl) ?_
        refine lv_iload_n hx hb dX0_loudness_11 rfl (lv_at hl 1 rfl) ?_
        refine lv_iload_n hx hb dX0_loudness_12 rfl (lv_at hl 3 rfl) ?_
        refine w_ishr hx hb dX0_loudness_13 ?_
        refine z_iconst hx hb dX0_loudness_14 ?_
        refine w_iand hx hb dX0_loudness_15 ?_
        refine lv_aload_n hx hb dX0_loudness_16 rfl (lv_at hl 0 rfl) ?_
        refine w_getr (j2 := 80) hx hb hts (z_memU u0) hown hK.1 hS f0_2 (by decide) (zkd_of (rfl : zcd wC 78 = 30) rfl) (zrf_of (rfl : zcd wC 78 = 30) rfl) (Or.inl (hts _ (z_mem k176))) dX0_loudness_17 ?_
        refine lv_iload_n hx hb dX0_loudness_20 rfl (lv_at hl 3 rfl) ?_
        obtain ⟨o11, h⟩ := h
        refine w_iald (n := 10) (i := (sI x2)) hx hb hK.1 (t0 := 0) rfl hS (by decide) (zkd_of (rfl : zcd wC 80 = 32) rfl) (zln_of (rfl : zcd wC 80 = 32) rfl) rfl o11.1 o11.2 (by decide) dX0_loudness_21 ?_
        refine z_imul hx hb dX0_loudness_22 ?_
        refine z_iadd hx hb dX0_loudness_23 ?_
        obtain ⟨t12, e13⟩ : ∃ t12 : Int, t12 = (x1 + ((andI (shrI a0 x2) 1) * (M 80 (sI x2).toNat))) := ⟨_, rfl⟩
        refine z_top (y := t12) e13.symm ?_
        have h := h t12 e13
        refine lv_istore_n (lv' := [(2, .int (iI t12)), (0, .ref (b + 78)), (1, .int (iI a0)), (3, .int (iI x2))]) hx hb dX0_loudness_24 rfl hl (by decide) rfl (fun ls hl => ?_)
        refine z_iinc (lv' := [(3, .int (iI (x2 + 1))), (2, .int (iI t12)), (0, .ref (b + 78)), (1, .int (iI a0))]) hx hb dX0_loudness_25 hl (k := 3) rfl (by decide) rfl (fun ls hl => ?_)
        refine lv_goto (tgt := 4) hx hb dX0_loudness_28 (by decide) ?_
        obtain ⟨n14, h15, h⟩ := h
        exact i9 n14 h15 t12 (x2 + 1) _ _ _ h hS hS0 (lv_sub hl [2, 3, 1, 0] rfl)
  exact L7 n4 0 1 _ _ _ h5 hS hS0 (lv_sub hl [2, 3, 1, 0] rfl)

set_option maxRecDepth 100000 in
def wC_Echo_outAt (a0 : Int) (M : zM) (Q : Int → Prop) : Prop := ((sI a0) < 0 → Q 0) ∧ (0 ≤ (sI a0) → (4001 ≤ (sI a0) → Q 0) ∧ ((sI a0) < 4001 → ((0 ≤ (sI a0) ∧ (sI a0) < 4001) ∧ Q (sI (M 81 (sI a0).toNat)))))
set_option maxHeartbeats 4000000 in
set_option maxRecDepth 100000 in
theorem cC_Echo_outAt (l : Launch) (D : va_G) (dA : Nat → ClassId) (b : Nat) (M : zM) (a0 : Int)  (Q : Int → Prop) (h : wC_Echo_outAt a0 M Q) : Met l yX0_outAt (.code yX0_outAt cX0_outAt 2 (some .int) :: zt) (z_rm 0) (va_Pc [.ref (b + 78), .int (iI a0)] (wPre D dA vwCl (z_tys dA) wC nC b M)) (va_Qi (wQi (fun z9 u9 => u9 = M ∧ Q z9)) (zB D dA vwCl wC nC b) (zA nC b)) 0 0 (zA nC b) := by
  unfold wC_Echo_outAt at h
  refine Met.ofW (cc := cX0_outAt) (maxL := 2) (ret := (some .int)) (by decide) rfl ?_
  intro p e s m args below meth c s₁ B hml hv
  obtain ⟨hargs, hS, hK⟩ := hv
  have hx := B.exec
  have hb := B.bytes
  have hr := B.returns
  have hts := atoms_spec (ws := .code yX0_outAt cX0_outAt 2 (some .int) :: zt) B.pre
  have hown : s.vm.findClass RX0 = some m.cls := findClass_of_methodNamed B.named
  have hlocks := B.notSynchronized
  have hS0 : va_S (zA nC b) s.heap s.heap [] := va_S.rf
  have hl := lv_entry ([.ref (b + 78), .int (iI a0)]) (n := 2) (Nat.le_of_ble_eq_true rfl)
  have hent : entryFrame m args 2 = F0 m 0 ((lg_sl ([.ref (b + 78), .int (iI a0)]) ++ List.replicate (2 - (lg_sl ([.ref (b + 78), .int (iI a0)])).length) Slot.unset).toArray) [] := by rw [hargs]; exact lg_entry_eq m ([.ref (b + 78), .int (iI a0)]) 2
  rw [hent]
  generalize (lg_sl ([.ref (b + 78), .int (iI a0)]) ++ List.replicate (2 - (lg_sl ([.ref (b + 78), .int (iI a0)])).length) Slot.unset).toArray = ls at hl ⊢
  have hl : lv_has ls 2 [(0, .ref (b + 78)), (1, .int (iI a0))] := hl
  refine lv_iload_n hx hb dX0_outAt_0 rfl (lv_at hl 1 rfl) ?_
  refine w_if_lt (tgt := 22) hx hb rfl dX0_outAt_1 (by decide) (fun c1 => ?_) (fun c1 => ?_)
  · skip
    have h := h.1 c1
    refine z_iconst hx hb dX0_outAt_22 ?_
    exact w_iret hx hb hr hlocks hS hS0 (sI_of (by decide)) ⟨rfl, h⟩ dX0_outAt_23
  · skip
    have h := h.2 c1
    refine lv_iload_n hx hb dX0_outAt_4 rfl (lv_at hl 1 rfl) ?_
    refine lv_aload_n hx hb dX0_outAt_5 rfl (lv_at hl 0 rfl) ?_
    refine w_getr (j2 := 81) hx hb hts (z_memU u0) hown hK.1 hS f0_7 (by decide) (zkd_of (rfl : zcd wC 78 = 30) rfl) (zrf_of (rfl : zcd wC 78 = 30) rfl) (Or.inl (hts _ (z_mem k181))) dX0_outAt_6 ?_
    refine w_alen (n := 4001) hx hb hK.1 (t0 := 0) rfl hS (by decide) (zkd_of (rfl : zcd wC 81 = 33) rfl) (zln_of (rfl : zcd wC 81 = 33) rfl) dX0_outAt_9 ?_
    refine z_top (show (((4001 : Nat) : Int)) = 4001 from by decide) ?_
    refine w_icmp_ge (tgt := 22) hx hb rfl (sI_of (by decide)) dX0_outAt_10 (by decide) (fun c2 => ?_) (fun c2 => ?_)
    · skip
      have h := h.1 c2
      refine z_iconst hx hb dX0_outAt_22 ?_
      exact w_iret hx hb hr hlocks hS hS0 (sI_of (by decide)) ⟨rfl, h⟩ dX0_outAt_23
    · skip
      have h := h.2 c2
      refine lv_aload_n hx hb dX0_outAt_13 rfl (lv_at hl 0 rfl) ?_
      refine w_getr (j2 := 81) hx hb hts (z_memU u0) hown hK.1 hS f0_7 (by decide) (zkd_of (rfl : zcd wC 78 = 30) rfl) (zrf_of (rfl : zcd wC 78 = 30) rfl) (Or.inl (hts _ (z_mem k181))) dX0_outAt_14 ?_
      refine lv_iload_n hx hb dX0_outAt_17 rfl (lv_at hl 1 rfl) ?_
      obtain ⟨o3, h⟩ := h
      refine w_iald (n := 4001) (i := (sI a0)) hx hb hK.1 (t0 := 0) rfl hS (by decide) (zkd_of (rfl : zcd wC 81 = 33) rfl) (zln_of (rfl : zcd wC 81 = 33) rfl) rfl o3.1 o3.2 (by decide) dX0_outAt_18 ?_
      refine lv_goto (tgt := 23) hx hb dX0_outAt_19 (by decide) ?_
      exact w_iret hx hb hr hlocks hS hS0 rfl ⟨rfl, h⟩ dX0_outAt_23

set_option maxRecDepth 100000 in
def wC_Echo_behind (a0 : Int) (a1 : Int) (M : zM) (Q : Int → Prop) : Prop := wC_Echo_outAt a0 M (fun z2 => Q (sI ((sI (z2 * a1)).tdiv 100)))
set_option maxHeartbeats 4000000 in
set_option maxRecDepth 100000 in
theorem cC_Echo_behind (l : Launch) (D : va_G) (dA : Nat → ClassId) (b : Nat) (M : zM) (a0 : Int) (a1 : Int)  (Q : Int → Prop) (h : wC_Echo_behind a0 a1 M Q) : Met l yX0_behind (.code yX0_behind cX0_behind 3 (some .int) :: zt) (z_rm 1) (va_Pc [.ref (b + 78), .int (iI a0), .int (iI a1)] (wPre D dA vwCl (z_tys dA) wC nC b M)) (va_Qi (wQi (fun z9 u9 => u9 = M ∧ Q z9)) (zB D dA vwCl wC nC b) (zA nC b)) 0 0 (zA nC b) := by
  unfold wC_Echo_behind at h
  refine Met.ofW (cc := cX0_behind) (maxL := 3) (ret := (some .int)) (by decide) rfl ?_
  intro p e s m args below meth c s₁ B hml hv
  obtain ⟨hargs, hS, hK⟩ := hv
  have hx := B.exec
  have hb := B.bytes
  have hr := B.returns
  have hts := atoms_spec (ws := .code yX0_behind cX0_behind 3 (some .int) :: zt) B.pre
  have hown : s.vm.findClass RX0 = some m.cls := findClass_of_methodNamed B.named
  have hlocks := B.notSynchronized
  have hS0 : va_S (zA nC b) s.heap s.heap [] := va_S.rf
  have hl := lv_entry ([.ref (b + 78), .int (iI a0), .int (iI a1)]) (n := 3) (Nat.le_of_ble_eq_true rfl)
  have hent : entryFrame m args 3 = F0 m 0 ((lg_sl ([.ref (b + 78), .int (iI a0), .int (iI a1)]) ++ List.replicate (3 - (lg_sl ([.ref (b + 78), .int (iI a0), .int (iI a1)])).length) Slot.unset).toArray) [] := by rw [hargs]; exact lg_entry_eq m ([.ref (b + 78), .int (iI a0), .int (iI a1)]) 3
  rw [hent]
  generalize (lg_sl ([.ref (b + 78), .int (iI a0), .int (iI a1)]) ++ List.replicate (3 - (lg_sl ([.ref (b + 78), .int (iI a0), .int (iI a1)])).length) Slot.unset).toArray = ls at hl ⊢
  have hl : lv_has ls 3 [(0, .ref (b + 78)), (1, .int (iI a0)), (2, .int (iI a1))] := hl
  refine lv_aload_n hx hb dX0_behind_0 rfl (lv_at hl 0 rfl) ?_
  refine lv_iload_n hx hb dX0_behind_1 rfl (lv_at hl 1 rfl) ?_
  refine w_calli (va_runV (As := [.int (iI a0)]) (rest := []) ⟨hx, hb, hml, hown, hts⟩ (cC_Echo_outAt l D dA b M a0 _ h) (cwV 1 hts (z_gV k710 k711 k712 k9 k713) rfl rfl rfl dm_X0_outAt ⟨Nat.le_of_ble_eq_true rfl, Nat.le_of_ble_eq_true rfl⟩) ⟨wPre_blind, (w_recv hS hK.1 (by decide) (zkd_of (rfl : zcd wC 78 = 30) rfl) (by decide) (rfl : vwCl[0]? = some (RX0, TX0, 8))), w_pre hS hK⟩ rfl rfl hl.1 rfl (lv_room (Nat.le_of_ble_eq_true rfl)) dX0_behind_2 ⟨Nat.le_refl _, Nat.le_refl _⟩) hS0 (fun z2 M1 H locs r3 h hS hS0 => ?_)
  obtain ⟨e4, h⟩ := h
  rw [e4] at hS
  refine lv_iload_n hx hb dX0_behind_5 rfl (lv_at hl 2 rfl) ?_
  refine z_imul hx hb dX0_behind_6 ?_
  refine z_bipush hx hb (by decide) dX0_behind_7 ?_
  refine w_idiv hx hb rfl (sI_of (by decide)) (by decide) dX0_behind_9 ?_
  exact w_iret hx hb hr hlocks hS hS0 rfl ⟨rfl, h⟩ dX0_behind_10

set_option maxRecDepth 100000 in
def wC_Echo_run (a1 : Int) (M : zM) (Q : zM → Prop) : Prop := wL1 (fun K2 x1 M2 => ((sI a1) < (sI x1) → Q M2) ∧ ((sI x1) ≤ (sI a1) → (4001 ≤ (sI x1) → Q M2) ∧ ((sI x1) < 4001 → pJ1 (fun J38 => ((sI (M2 78 0)) ≤ (sI x1) → J38 0) ∧ ((sI x1) < (sI (M2 78 0)) → wC_Studio_heardInAll (sI x1) M2 (fun z39 => wC_Echo_loudness z39 M2 (fun z43 => J38 z43)))) (fun (x21 : Int) => wC_Echo_behind (x1 - (M2 78 3)) (M2 78 4) M2 (fun z25 => wC_Echo_behind (x1 - (M2 78 5)) (M2 78 6) M2 (fun z29 => ((0 ≤ (sI x1) ∧ (sI x1) < 4001) ∧ (∀ M33 : zM, M33 = zup M2 81 (sI x1).toNat (min (sI ((x21 + z25) + z29)) 5000) → K2 (x1 + 1) M33)))))))) 0 M
set_option maxHeartbeats 4000000 in
set_option maxRecDepth 100000 in
theorem cC_Echo_run (l : Launch) (D : va_G) (dA : Nat → ClassId) (b : Nat) (M : zM) (a1 : Int)  (Q : zM → Prop) (h : wC_Echo_run a1 M Q) : Met l yX0_run (.code yX0_run cX0_run 6 none :: zt) (z_rm 4) (va_Pc [.ref (b + 78), .ref (b + 32), .int (iI a1)] (wPre D dA vwCl (z_tys dA) wC nC b M)) (va_Qv (wQv Q) (zB D dA vwCl wC nC b) (zA nC b)) 0 0 (zA nC b) := by
  unfold wC_Echo_run at h
  refine Met.ofW (cc := cX0_run) (maxL := 6) (ret := none) (by decide) rfl ?_
  intro p e s m args below meth c s₁ B hml hv
  obtain ⟨hargs, hS, hK⟩ := hv
  have hx := B.exec
  have hb := B.bytes
  have hr := B.returns
  have hts := atoms_spec (ws := .code yX0_run cX0_run 6 none :: zt) B.pre
  have hown : s.vm.findClass RX0 = some m.cls := findClass_of_methodNamed B.named
  have hlocks := B.notSynchronized
  have hS0 : va_S (zA nC b) s.heap s.heap [] := va_S.rf
  have hl := lv_entry ([.ref (b + 78), .ref (b + 32), .int (iI a1)]) (n := 6) (Nat.le_of_ble_eq_true rfl)
  have hent : entryFrame m args 6 = F0 m 0 ((lg_sl ([.ref (b + 78), .ref (b + 32), .int (iI a1)]) ++ List.replicate (6 - (lg_sl ([.ref (b + 78), .ref (b + 32), .int (iI a1)])).length) Slot.unset).toArray) [] := by rw [hargs]; exact lg_entry_eq m ([.ref (b + 78), .ref (b + 32), .int (iI a1)]) 6
  rw [hent]
  generalize (lg_sl ([.ref (b + 78), .ref (b + 32), .int (iI a1)]) ++ List.replicate (6 - (lg_sl ([.ref (b + 78), .ref (b + 32), .int (iI a1)])).length) Slot.unset).toArray = ls at hl ⊢
  have hl : lv_has ls 6 [(0, .ref (b + 78)), (1, .ref (b + 32)), (2, .int (iI a1))] := hl
  refine z_iconst hx hb dX0_run_0 ?_
  refine lv_istore_n (lv' := [(3, .int (iI 0)), (0, .ref (b + 78)), (1, .ref (b + 32)), (2, .int (iI a1))]) hx hb dX0_run_1 rfl hl (by decide) rfl (fun ls hl => ?_)
  obtain ⟨I3, ⟨n4, h5⟩, h6⟩ := h
  have L7 : ∀ (n8 : Nat) (x1 : Int) (M2 : zM) (H : Heap) (locs : List Loc) (ls : Array Slot), I3 n8 x1 M2 → zR D dA vwCl wC nC b M2 H → va_S (zA nC b) s.heap H locs → lv_has ls 6 [(0, .ref (b + 78)), (1, .ref (b + 32)), (2, .int (iI a1)), (3, .int (iI x1))] → W p l e (headSpec (.code yX0_run cX0_run 6 none :: zt) (z_rm 4)).room s m args below meth c H locs 0 0 (MQ below (va_Qv (wQv Q) (zB D dA vwCl wC nC b) (zA nC b)) args s 0 0 (zA nC b)) (F0 m 2 ls []) := by
    intro n8
    induction n8 using Nat.strongRecOn with
    | ind n8 i9 =>
      intro x1 M2 H locs ls h hS hS0 hl
      have h := h6 n8 x1 M2 h
      refine lv_iload_n hx hb dX0_run_2 rfl (lv_at hl 3 rfl) ?_
      refine lv_iload_n hx hb dX0_run_3 rfl (lv_at hl 2 rfl) ?_
      refine w_icmp_gt (tgt := 94) hx hb rfl rfl dX0_run_4 (by decide) (fun c10 => ?_) (fun c10 => ?_)
      · skip
        have h := h.1 c10
        exact w_vret hx hb hr hlocks hS hS0 h dX0_run_94
      · skip
        have h := h.2 c10
        refine lv_iload_n hx hb dX0_run_7 rfl (lv_at hl 3 rfl) ?_
        refine lv_aload_n hx hb dX0_run_8 rfl (lv_at hl 0 rfl) ?_
        refine w_getr (j2 := 81) hx hb hts (z_memU u0) hown hK.1 hS f0_7 (by decide) (zkd_of (rfl : zcd wC 78 = 30) rfl) (zrf_of (rfl : zcd wC 78 = 30) rfl) (Or.inl (hts _ (z_mem k181))) dX0_run_9 ?_
        refine w_alen (n := 4001) hx hb hK.1 (t0 := 0) rfl hS (by decide) (zkd_of (rfl : zcd wC 81 = 33) rfl) (zln_of (rfl : zcd wC 81 = 33) rfl) dX0_run_12 ?_
        refine z_top (show (((4001 : Nat) : Int)) = 4001 from by decide) ?_
        refine w_icmp_ge (tgt := 94) hx hb rfl (sI_of (by decide)) dX0_run_13 (by decide) (fun c11 => ?_) (fun c11 => ?_)
        · skip
          have h := h.1 c11
          exact w_vret hx hb hr hlocks hS hS0 h dX0_run_94
        · skip
          have h := h.2 c11
          refine lv_iload_n hx hb dX0_run_16 rfl (lv_at hl 3 rfl) ?_
          refine lv_aload_n hx hb dX0_run_17 rfl (lv_at hl 0 rfl) ?_
          refine w_geti hx hb hts (z_memU u0) hown hK.1 hS f0_0 (by decide) (zkd_of (rfl : zcd wC 78 = 30) rfl) (Or.inl (hts _ (z_mem k172))) dX0_run_18 ?_
          obtain ⟨J38, B23, h⟩ := h
          have L22 : ∀ (x21 : Int) (H : Heap) (locs : List Loc) (ls : Array Slot), J38 x21 → zR D dA vwCl wC nC b M2 H → va_S (zA nC b) s.heap H locs → lv_has ls 6 [(0, .ref (b + 78)), (1, .ref (b + 32)), (2, .int (iI a1)), (3, .int (iI x1))] → W p l e (headSpec (.code yX0_run cX0_run 6 none :: zt) (z_rm 4)).room s m args below meth c H locs 0 0 (MQ below (va_Qv (wQv Q) (zB D dA vwCl wC nC b) (zA nC b)) args s 0 0 (zA nC b)) (F0 m 38 ls [.int (iI x21)]) := by
            intro x21 H locs ls h hS hS0 hl
            have h := B23 x21 h
            refine lv_istore (lv' := [(4, .int (iI x21)), (0, .ref (b + 78)), (1, .ref (b + 32)), (2, .int (iI a1)), (3, .int (iI x1))]) hx hb dX0_run_38 hl (by decide) rfl (fun ls hl => ?_)
            refine lv_iload hx hb dX0_run_40 (lv_at hl 0 rfl) ?_
            refine lv_aload_n hx hb dX0_run_42 rfl (lv_at hl 1 rfl) ?_
            refine lv_iload_n hx hb dX0_run_43 rfl (lv_at hl 4 rfl) ?_
            refine lv_aload_n hx hb dX0_run_44 rfl (lv_at hl 1 rfl) ?_
            refine w_geti hx hb hts (z_memU u0) hown hK.1 hS f0_3 (by decide) (zkd_of (rfl : zcd wC 78 = 30) rfl) (Or.inl (hts _ (z_mem k177))) dX0_run_45 ?_
            refine z_isub hx hb dX0_run_48 ?_
            refine lv_aload_n hx hb dX0_run_49 rfl (lv_at hl 1 rfl) ?_
            refine w_geti hx hb hts (z_memU u0) hown hK.1 hS f0_4 (by decide) (zkd_of (rfl : zcd wC 78 = 30) rfl) (Or.inl (hts _ (z_mem k178))) dX0_run_50 ?_
            refine w_calli (va_runV (As := [.int (iI (x1 - (M2 78 3))), .int (iI (M2 78 4))]) (rest := [.int (iI x21)]) ⟨hx, hb, hml, hown, hts⟩ (cC_Echo_behind l D dA b M2 (x1 - (M2 78 3)) (M2 78 4) _ h) (cwV 2 hts (z_gV k707 k708 k1377 k9 k709) rfl rfl rfl dm_X0_behind ⟨Nat.le_of_ble_eq_true rfl, Nat.le_of_ble_eq_true rfl⟩) ⟨wPre_blind, (w_recv hS hK.1 (by decide) (zkd_of (rfl : zcd wC 78 = 30) rfl) (by decide) (rfl : vwCl[0]? = some (RX0, TX0, 8))), w_pre hS hK⟩ rfl rfl hl.1 rfl (lv_room (Nat.le_of_ble_eq_true rfl)) dX0_run_53 ⟨Nat.le_refl _, Nat.le_refl _⟩) hS0 (fun z25 M24 H locs r26 h hS hS0 => ?_)
            obtain ⟨e27, h⟩ := h
            rw [e27] at hS
            refine z_iadd hx hb dX0_run_56 ?_
            refine lv_aload_n hx hb dX0_run_57 rfl (lv_at hl 1 rfl) ?_
            refine lv_iload_n hx hb dX0_run_58 rfl (lv_at hl 4 rfl) ?_
            refine lv_aload_n hx hb dX0_run_59 rfl (lv_at hl 1 rfl) ?_
            refine w_geti hx hb hts (z_memU u0) hown hK.1 hS f0_5 (by decide) (zkd_of (rfl : zcd wC 78 = 30) rfl) (Or.inl (hts _ (z_mem k179))) dX0_run_60 ?_
            refine z_isub hx hb dX0_run_63 ?_
            refine lv_aload_n hx hb dX0_run_64 rfl (lv_at hl 1 rfl) ?_
            refine w_geti hx hb hts (z_memU u0) hown hK.1 hS f0_6 (by decide) (zkd_of (rfl : zcd wC 78 = 30) rfl) (Or.inl (hts _ (z_mem k180))) dX0_run_65 ?_
            refine w_calli (va_runV (As := [.int (iI (x1 - (M2 78 5))), .int (iI (M2 78 6))]) (rest := [.int (iI (x21 + z25))]) ⟨hx, hb, hml, hown, hts⟩ (cC_Echo_behind l D dA b M2 (x1 - (M2 78 5)) (M2 78 6) _ h) (cwV 2 hts (z_gV k707 k708 k1377 k9 k709) rfl rfl rfl dm_X0_behind ⟨Nat.le_of_ble_eq_true rfl, Nat.le_of_ble_eq_true rfl⟩) ⟨wPre_blind, (w_recv hS hK.1 (by decide) (zkd_of (rfl : zcd wC 78 = 30) rfl) (by decide) (rfl : vwCl[0]? = some (RX0, TX0, 8))), w_pre hS hK⟩ rfl rfl hl.1 rfl (lv_room (Nat.le_of_ble_eq_true rfl)) dX0_run_68 ⟨Nat.le_refl _, Nat.le_refl _⟩) hS0 (fun z29 M28 H locs r30 h hS hS0 => ?_)
            obtain ⟨e31, h⟩ := h
            rw [e31] at hS
            refine z_iadd hx hb dX0_run_71 ?_
            refine lv_istore (lv' := [(5, .int (iI ((x21 + z25) + z29))), (4, .int (iI x21)), (0, .ref (b + 78)), (1, .ref (b + 32)), (2, .int (iI a1)), (3, .int (iI x1))]) hx hb dX0_run_72 hl (by decide) rfl (fun ls hl => ?_)
            refine lv_aload_n hx hb dX0_run_74 rfl (lv_at hl 2 rfl) ?_
            refine w_getr (j2 := 81) hx hb hts (z_memU u0) hown hK.1 hS f0_7 (by decide) (zkd_of (rfl : zcd wC 78 = 30) rfl) (zrf_of (rfl : zcd wC 78 = 30) rfl) (Or.inl (hts _ (z_mem k181))) dX0_run_75 ?_
            refine lv_iload_n hx hb dX0_run_78 rfl (lv_at hl 5 rfl) ?_
            refine lv_iload hx hb dX0_run_79 (lv_at hl 0 rfl) ?_
            refine z_sipush hx hb (by decide) dX0_run_81 ?_
            refine w_mmin hx hb (hml.trans hl.1.symm) hown (hts _ (z_mem k714)) (hts _ (z_mem k320)) (hts _ (z_mem k15)) (hts _ (z_mem k321)) (by exact Nat.le_of_ble_eq_true rfl) (by exact Nat.le_of_ble_eq_true rfl) (by exact Nat.le_refl _) (by exact Nat.le_refl _) rfl (sI_of (by decide)) dX0_run_84 ?_
            obtain ⟨o32, h⟩ := h
            refine w_iast (z := (min (sI ((x21 + z25) + z29)) 5000)) (n := 4001) (i := (sI x1)) hx hb hK.1 (t0 := 0) rfl hS hS0 (by decide) (zkd_of (rfl : zcd wC 81 = 33) rfl) (zln_of (rfl : zcd wC 81 = 33) rfl) rfl o32.1 o32.2 (by decide) dX0_run_87 (fun H locs hS hS0 => ?_)
            obtain ⟨M33, e34⟩ : ∃ M33 : zM, M33 = zup M2 81 (sI x1).toNat (min (sI ((x21 + z25) + z29)) 5000) := ⟨_, rfl⟩
            rw [← e34] at hS
            have h := h M33 e34
            refine z_iinc (lv' := [(3, .int (iI (x1 + 1))), (5, .int (iI ((x21 + z25) + z29))), (4, .int (iI x21)), (0, .ref (b + 78)), (1, .ref (b + 32)), (2, .int (iI a1))]) hx hb dX0_run_88 hl (k := 5) rfl (by decide) rfl (fun ls hl => ?_)
            refine lv_goto (tgt := 2) hx hb dX0_run_91 (by decide) ?_
            obtain ⟨n35, h36, h⟩ := h
            exact i9 n35 h36 (x1 + 1) M33 _ _ _ h hS hS0 (lv_sub hl [3, 4, 5, 0] rfl)
          refine w_icmp_ge (tgt := 37) hx hb rfl rfl dX0_run_21 (by decide) (fun c37 => ?_) (fun c37 => ?_)
          · skip
            have h := h.1 c37
            refine z_iconst hx hb dX0_run_37 ?_
            exact L22 0 _ _ _ h hS hS0 (lv_sub hl [0, 1, 2, 3] rfl)
          · skip
            have h := h.2 c37
            refine lv_aload_n hx hb dX0_run_24 rfl (lv_at hl 0 rfl) ?_
            refine lv_aload_n hx hb dX0_run_25 rfl (lv_at hl 1 rfl) ?_
            refine lv_iload_n hx hb dX0_run_26 rfl (lv_at hl 3 rfl) ?_
            refine w_i2l hx hb rfl dX0_run_27 ?_
            refine w_calli (va_runV (As := [.long (iL (sI x1))]) (rest := [.ref (b + 78)]) ⟨hx, hb, hml, hown, hts⟩ (cC_Studio_heardInAll l D dA b M2 (sI x1) _ h) (cwV 1 hts (z_gV k703 k475 k476 k4 k477) rfl rfl rfl dm_X9_heardInAll ⟨Nat.le_of_ble_eq_true rfl, Nat.le_of_ble_eq_true rfl⟩) ⟨wPre_blind, (w_recv hS hK.1 (by decide) (zkd_of (rfl : zcd wC 32 = 8) rfl) (by decide) (rfl : vwCl[9]? = some (RX9, TX9, 3))), w_pre hS hK⟩ rfl rfl hl.1 rfl (lv_room (Nat.le_of_ble_eq_true rfl)) dX0_run_28 ⟨Nat.le_refl _, Nat.le_refl _⟩) hS0 (fun z39 M38 H locs r40 h hS hS0 => ?_)
            obtain ⟨e41, h⟩ := h
            rw [e41] at hS
            refine w_calli (va_runV (As := [.int (iI z39)]) (rest := []) ⟨hx, hb, hml, hown, hts⟩ (cC_Echo_loudness l D dA b M2 z39 _ h) (cwV 1 hts (z_gV k704 k705 k1376 k9 k706) rfl rfl rfl dm_X0_loudness ⟨Nat.le_of_ble_eq_true rfl, Nat.le_of_ble_eq_true rfl⟩) ⟨wPre_blind, (w_recv hS hK.1 (by decide) (zkd_of (rfl : zcd wC 78 = 30) rfl) (by decide) (rfl : vwCl[0]? = some (RX0, TX0, 8))), w_pre hS hK⟩ rfl rfl hl.1 rfl (lv_room (Nat.le_of_ble_eq_true rfl)) dX0_run_31 ⟨Nat.le_refl _, Nat.le_refl _⟩) hS0 (fun z43 M42 H locs r44 h hS hS0 => ?_)
            obtain ⟨e45, h⟩ := h
            rw [e45] at hS
            refine lv_goto (tgt := 38) hx hb dX0_run_34 (by decide) ?_
            exact L22 z43 _ _ _ h hS hS0 (lv_sub hl [0, 1, 2, 3] rfl)
  exact L7 n4 0 M _ _ _ h5 hS hS0 (lv_sub hl [1, 2, 3, 0] rfl)

set_option maxRecDepth 100000 in
def wC_out (a0 : Int) (M : zM) (Q : Int → zM → Prop) : Prop := wC_within a0 0 4000 M (fun z2 => (z2 ≠ 0 → wC_Echo_run a0 M (fun M6 => wC_Echo_outAt a0 M6 (fun z8 => Q z8 M6))) ∧ (z2 = 0 → Q (-1) M))
set_option maxHeartbeats 4000000 in
set_option maxRecDepth 100000 in
theorem cC_out (l : Launch) (D : va_G) (dA : Nat → ClassId) (b : Nat) (M : zM) (a0 : Int)  (Q : Int → zM → Prop) (h : wC_out a0 M Q) : Met l yX11_out (.code yX11_out cX11_out 2 (some .int) :: zt) (z_rm 5) (va_Pc [.ref (b + 0), .int (iI a0)] (wPre D dA vwCl (z_tys dA) wC nC b M)) (va_Qi (wQi Q) (zB D dA vwCl wC nC b) (zA nC b)) 0 0 (zA nC b) := by
  unfold wC_out at h
  refine Met.ofW (cc := cX11_out) (maxL := 2) (ret := (some .int)) (by decide) rfl ?_
  intro p e s m args below meth c s₁ B hml hv
  obtain ⟨hargs, hS, hK⟩ := hv
  have hx := B.exec
  have hb := B.bytes
  have hr := B.returns
  have hts := atoms_spec (ws := .code yX11_out cX11_out 2 (some .int) :: zt) B.pre
  have hown : s.vm.findClass RX11 = some m.cls := findClass_of_methodNamed B.named
  have hlocks := B.notSynchronized
  have hS0 : va_S (zA nC b) s.heap s.heap [] := va_S.rf
  have hl := lv_entry ([.ref (b + 0), .int (iI a0)]) (n := 2) (Nat.le_of_ble_eq_true rfl)
  have hent : entryFrame m args 2 = F0 m 0 ((lg_sl ([.ref (b + 0), .int (iI a0)]) ++ List.replicate (2 - (lg_sl ([.ref (b + 0), .int (iI a0)])).length) Slot.unset).toArray) [] := by rw [hargs]; exact lg_entry_eq m ([.ref (b + 0), .int (iI a0)]) 2
  rw [hent]
  generalize (lg_sl ([.ref (b + 0), .int (iI a0)]) ++ List.replicate (2 - (lg_sl ([.ref (b + 0), .int (iI a0)])).length) Slot.unset).toArray = ls at hl ⊢
  have hl : lv_has ls 2 [(0, .ref (b + 0)), (1, .int (iI a0))] := hl
  refine lv_iload_n hx hb dX11_out_0 rfl (lv_at hl 1 rfl) ?_
  refine z_iconst hx hb dX11_out_1 ?_
  refine z_sipush hx hb (by decide) dX11_out_2 ?_
  refine w_callz (va_runS (As := [.int (iI a0), .int (iI 0), .int (iI 4000)]) (rest := []) ⟨hx, hb, hml, hown, hts⟩ (cC_within l D dA b M a0 0 4000 _ h) (va_cwS 3 hts (z_gS k382 k383 k1 k384) rfl rfl rfl dm_X11_within.2 ⟨Nat.le_of_ble_eq_true rfl, Nat.le_of_ble_eq_true rfl⟩) ⟨wPre_blind, w_pre hS hK⟩ rfl rfl hl.1 rfl (lv_room (Nat.le_of_ble_eq_true rfl)) dX11_out_5 ⟨Nat.le_refl _, Nat.le_refl _⟩) hS0 (fun z2 M1 H locs r3 h hS hS0 => ?_)
  obtain ⟨e4, h⟩ := h
  rw [e4] at hS
  refine w_if_ne (tgt := 13) hx hb (sI_01 r3) dX11_out_8 (by decide) (fun c5 => ?_) (fun c5 => ?_)
  · skip
    have h := h.1 c5
    refine lv_aload_n hx hb dX11_out_13 rfl (lv_at hl 0 rfl) ?_
    refine w_getr (j2 := 78) hx hb hts (z_memU u11) hown hK.1 hS f11_5 (by decide) (zkd_of (rfl : zcd wC 0 = 0) rfl) (zrf_of (rfl : zcd wC 0 = 0) rfl) (Or.inl (hts _ (z_mem k247))) dX11_out_14 ?_
    refine lv_aload_n hx hb dX11_out_17 rfl (lv_at hl 0 rfl) ?_
    refine w_getr (j2 := 32) hx hb hts (z_memU u11) hown hK.1 hS f11_2 (by decide) (zkd_of (rfl : zcd wC 0 = 0) rfl) (zrf_of (rfl : zcd wC 0 = 0) rfl) (Or.inl (hts _ (z_mem k244))) dX11_out_18 ?_
    refine lv_iload_n hx hb dX11_out_21 rfl (lv_at hl 1 rfl) ?_
    refine w_callv (va_runV (As := [.ref (b + 32), .int (iI a0)]) (rest := []) ⟨hx, hb, hml, hown, hts⟩ (cC_Echo_run l D dA b M a0 _ h) (cwV 2 hts (z_gV k699 k700 k701 k9 k702) rfl rfl rfl dm_X0_run ⟨Nat.le_of_ble_eq_true rfl, Nat.le_of_ble_eq_true rfl⟩) ⟨wPre_blind, (w_recv hS hK.1 (by decide) (zkd_of (rfl : zcd wC 78 = 30) rfl) (by decide) (rfl : vwCl[0]? = some (RX0, TX0, 8))), w_pre hS hK⟩ rfl rfl hl.1 rfl (lv_room (Nat.le_of_ble_eq_true rfl)) dX11_out_22 ⟨Nat.le_refl _, Nat.le_refl _⟩) hS0 (fun M6 H locs h hS hS0 => ?_)
    refine lv_aload_n hx hb dX11_out_25 rfl (lv_at hl 0 rfl) ?_
    refine w_getr (j2 := 78) hx hb hts (z_memU u11) hown hK.1 hS f11_5 (by decide) (zkd_of (rfl : zcd wC 0 = 0) rfl) (zrf_of (rfl : zcd wC 0 = 0) rfl) (Or.inl (hts _ (z_mem k247))) dX11_out_26 ?_
    refine lv_iload_n hx hb dX11_out_29 rfl (lv_at hl 1 rfl) ?_
    refine w_calli (va_runV (As := [.int (iI a0)]) (rest := []) ⟨hx, hb, hml, hown, hts⟩ (cC_Echo_outAt l D dA b M6 a0 _ h) (cwV 1 hts (z_gV k715 k711 k712 k9 k713) rfl rfl rfl dm_X0_outAt ⟨Nat.le_of_ble_eq_true rfl, Nat.le_of_ble_eq_true rfl⟩) ⟨wPre_blind, (w_recv hS hK.1 (by decide) (zkd_of (rfl : zcd wC 78 = 30) rfl) (by decide) (rfl : vwCl[0]? = some (RX0, TX0, 8))), w_pre hS hK⟩ rfl rfl hl.1 rfl (lv_room (Nat.le_of_ble_eq_true rfl)) dX11_out_30 ⟨Nat.le_refl _, Nat.le_refl _⟩) hS0 (fun z8 M7 H locs r9 h hS hS0 => ?_)
    obtain ⟨e10, h⟩ := h
    rw [e10] at hS
    exact w_iret hx hb hr hlocks hS hS0 (sI_of r9) h dX11_out_33
  · skip
    have h := h.2 c5
    refine z_iconst hx hb dX11_out_11 ?_
    exact w_iret hx hb hr hlocks hS hS0 (sI_of (by decide)) h dX11_out_12

set_option maxRecDepth 100000 in
def wC_Echo_firstSilence  (M : zM) (Q : Int → Prop) : Prop := pL2 (fun K7 x1 x2 => (4000 < (sI x2) → Q (-1)) ∧ ((sI x2) ≤ 4000 → wC_Echo_outAt x2 M (fun z12 => pJ1 (fun J29 => (z12 ≠ 0 → J29 0) ∧ (z12 = 0 → J29 (x1 + 1))) (fun (x16 : Int) => ((sI x16) ≠ 20 → K7 x16 (x2 + 1)) ∧ ((sI x16) = 20 → Q (sI ((x2 - 20) + 1))))))) 0 (M 78 0)
set_option maxHeartbeats 4000000 in
set_option maxRecDepth 100000 in
theorem cC_Echo_firstSilence (l : Launch) (D : va_G) (dA : Nat → ClassId) (b : Nat) (M : zM)   (Q : Int → Prop) (h : wC_Echo_firstSilence  M Q) : Met l yX0_firstSilence (.code yX0_firstSilence cX0_firstSilence 3 (some .int) :: zt) (z_rm 1) (va_Pc [.ref (b + 78)] (wPre D dA vwCl (z_tys dA) wC nC b M)) (va_Qi (wQi (fun z9 u9 => u9 = M ∧ Q z9)) (zB D dA vwCl wC nC b) (zA nC b)) 0 0 (zA nC b) := by
  unfold wC_Echo_firstSilence at h
  refine Met.ofW (cc := cX0_firstSilence) (maxL := 3) (ret := (some .int)) (by decide) rfl ?_
  intro p e s m args below meth c s₁ B hml hv
  obtain ⟨hargs, hS, hK⟩ := hv
  have hx := B.exec
  have hb := B.bytes
  have hr := B.returns
  have hts := atoms_spec (ws := .code yX0_firstSilence cX0_firstSilence 3 (some .int) :: zt) B.pre
  have hown : s.vm.findClass RX0 = some m.cls := findClass_of_methodNamed B.named
  have hlocks := B.notSynchronized
  have hS0 : va_S (zA nC b) s.heap s.heap [] := va_S.rf
  have hl := lv_entry ([.ref (b + 78)]) (n := 3) (Nat.le_of_ble_eq_true rfl)
  have hent : entryFrame m args 3 = F0 m 0 ((lg_sl ([.ref (b + 78)]) ++ List.replicate (3 - (lg_sl ([.ref (b + 78)])).length) Slot.unset).toArray) [] := by rw [hargs]; exact lg_entry_eq m ([.ref (b + 78)]) 3
  rw [hent]
  generalize (lg_sl ([.ref (b + 78)]) ++ List.replicate (3 - (lg_sl ([.ref (b + 78)])).length) Slot.unset).toArray = ls at hl ⊢
  have hl : lv_has ls 3 [(0, .ref (b + 78))] := hl
  refine z_iconst hx hb dX0_firstSilence_0 ?_
  refine lv_istore_n (lv' := [(1, .int (iI 0)), (0, .ref (b + 78))]) hx hb dX0_firstSilence_1 rfl hl (by decide) rfl (fun ls hl => ?_)
  refine lv_aload_n hx hb dX0_firstSilence_2 rfl (lv_at hl 1 rfl) ?_
  refine w_geti hx hb hts (z_memU u0) hown hK.1 hS f0_0 (by decide) (zkd_of (rfl : zcd wC 78 = 30) rfl) (Or.inl (hts _ (z_mem k172))) dX0_firstSilence_3 ?_
  refine lv_istore_n (lv' := [(2, .int (iI (M 78 0))), (1, .int (iI 0)), (0, .ref (b + 78))]) hx hb dX0_firstSilence_6 rfl hl (by decide) rfl (fun ls hl => ?_)
  obtain ⟨I3, ⟨n4, h5⟩, h6⟩ := h
  have L7 : ∀ (n8 : Nat) (x1 x2 : Int) (H : Heap) (locs : List Loc) (ls : Array Slot), I3 n8 x1 x2 → zR D dA vwCl wC nC b M H → va_S (zA nC b) s.heap H locs → lv_has ls 3 [(0, .ref (b + 78)), (1, .int (iI x1)), (2, .int (iI x2))] → W p l e (headSpec (.code yX0_firstSilence cX0_firstSilence 3 (some .int) :: zt) (z_rm 1)).room s m args below meth c H locs 0 0 (MQ below (va_Qi (wQi (fun z9 u9 => u9 = M ∧ Q z9)) (zB D dA vwCl wC nC b) (zA nC b)) args s 0 0 (zA nC b)) (F0 m 7 ls []) := by
    intro n8
    induction n8 using Nat.strongRecOn with
    | ind n8 i9 =>
      intro x1 x2 H locs ls h hS hS0 hl
      have h := h6 n8 x1 x2 h
      refine lv_iload_n hx hb dX0_firstSilence_7 rfl (lv_at hl 2 rfl) ?_
      refine z_sipush hx hb (by decide) dX0_firstSilence_8 ?_
      refine w_icmp_gt (tgt := 49) hx hb rfl (sI_of (by decide)) dX0_firstSilence_11 (by decide) (fun c10 => ?_) (fun c10 => ?_)
      · skip
        have h := h.1 c10
        refine z_iconst hx hb dX0_firstSilence_49 ?_
        exact w_iret hx hb hr hlocks hS hS0 (sI_of (by decide)) ⟨rfl, h⟩ dX0_firstSilence_50
      · skip
        have h := h.2 c10
        refine lv_aload_n hx hb dX0_firstSilence_14 rfl (lv_at hl 0 rfl) ?_
        refine lv_iload_n hx hb dX0_firstSilence_15 rfl (lv_at hl 2 rfl) ?_
        refine w_calli (va_runV (As := [.int (iI x2)]) (rest := []) ⟨hx, hb, hml, hown, hts⟩ (cC_Echo_outAt l D dA b M x2 _ h) (cwV 1 hts (z_gV k710 k711 k712 k9 k713) rfl rfl rfl dm_X0_outAt ⟨Nat.le_of_ble_eq_true rfl, Nat.le_of_ble_eq_true rfl⟩) ⟨wPre_blind, (w_recv hS hK.1 (by decide) (zkd_of (rfl : zcd wC 78 = 30) rfl) (by decide) (rfl : vwCl[0]? = some (RX0, TX0, 8))), w_pre hS hK⟩ rfl rfl hl.1 rfl (lv_room (Nat.le_of_ble_eq_true rfl)) dX0_firstSilence_16 ⟨Nat.le_refl _, Nat.le_refl _⟩) hS0 (fun z12 M11 H locs r13 h hS hS0 => ?_)
        obtain ⟨e14, h⟩ := h
        rw [e14] at hS
        obtain ⟨J29, B18, h⟩ := h
        have L17 : ∀ (x16 : Int) (H : Heap) (locs : List Loc) (ls : Array Slot), J29 x16 → zR D dA vwCl wC nC b M H → va_S (zA nC b) s.heap H locs → lv_has ls 3 [(0, .ref (b + 78)), (2, .int (iI x2))] → W p l e (headSpec (.code yX0_firstSilence cX0_firstSilence 3 (some .int) :: zt) (z_rm 1)).room s m args below meth c H locs 0 0 (MQ below (va_Qi (wQi (fun z9 u9 => u9 = M ∧ Q z9)) (zB D dA vwCl wC nC b) (zA nC b)) args s 0 0 (zA nC b)) (F0 m 29 ls [.int (iI x16)]) := by
          intro x16 H locs ls h hS hS0 hl
          have h := B18 x16 h
          refine lv_istore_n (lv' := [(1, .int (iI x16)), (0, .ref (b + 78)), (2, .int (iI x2))]) hx hb dX0_firstSilence_29 rfl hl (by decide) rfl (fun ls hl => ?_)
          refine lv_iload_n hx hb dX0_firstSilence_30 rfl (lv_at hl 0 rfl) ?_
          refine z_bipush hx hb (by decide) dX0_firstSilence_31 ?_
          refine w_icmp_ne (tgt := 43) hx hb rfl (sI_of (by decide)) dX0_firstSilence_33 (by decide) (fun c19 => ?_) (fun c19 => ?_)
          · skip
            have h := h.1 c19
            refine z_iinc (lv' := [(2, .int (iI (x2 + 1))), (1, .int (iI x16)), (0, .ref (b + 78))]) hx hb dX0_firstSilence_43 hl (k := 2) rfl (by decide) rfl (fun ls hl => ?_)
            refine lv_goto (tgt := 7) hx hb dX0_firstSilence_46 (by decide) ?_
            obtain ⟨n20, h21, h⟩ := h
            exact i9 n20 h21 x16 (x2 + 1) _ _ _ h hS hS0 (lv_sub hl [2, 1, 0] rfl)
          · skip
            have h := h.2 c19
            refine lv_iload_n hx hb dX0_firstSilence_36 rfl (lv_at hl 2 rfl) ?_
            refine z_bipush hx hb (by decide) dX0_firstSilence_37 ?_
            refine z_isub hx hb dX0_firstSilence_39 ?_
            refine z_iconst hx hb dX0_firstSilence_40 ?_
            refine z_iadd hx hb dX0_firstSilence_41 ?_
            exact w_iret hx hb hr hlocks hS hS0 rfl ⟨rfl, h⟩ dX0_firstSilence_42
        refine w_if_ne (tgt := 28) hx hb (sI_of r13) dX0_firstSilence_19 (by decide) (fun c22 => ?_) (fun c22 => ?_)
        · skip
          have h := h.1 c22
          refine z_iconst hx hb dX0_firstSilence_28 ?_
          exact L17 0 _ _ _ h hS hS0 (lv_sub hl [0, 2] rfl)
        · skip
          have h := h.2 c22
          refine lv_iload_n hx hb dX0_firstSilence_22 rfl (lv_at hl 1 rfl) ?_
          refine z_iconst hx hb dX0_firstSilence_23 ?_
          refine z_iadd hx hb dX0_firstSilence_24 ?_
          refine lv_goto (tgt := 29) hx hb dX0_firstSilence_25 (by decide) ?_
          exact L17 (x1 + 1) _ _ _ h hS hS0 (lv_sub hl [0, 2] rfl)
  exact L7 n4 0 (M 78 0) _ _ _ h5 hS hS0 (lv_sub hl [2, 1, 0] rfl)

set_option maxRecDepth 100000 in
def wC_Echo_alike (a0 : Int) (a1 : Int) (M : zM) (Q : Int → Prop) : Prop := pL1 (fun K2 x1 => (20 ≤ (sI x1) → Q 1) ∧ ((sI x1) < 20 → wC_Echo_outAt (a0 + x1) M (fun z11 => wC_Echo_outAt (a1 + x1) M (fun z15 => (z11 = z15 → K2 (x1 + 1)) ∧ (z11 ≠ z15 → Q 0))))) 0
set_option maxHeartbeats 4000000 in
set_option maxRecDepth 100000 in
theorem cC_Echo_alike (l : Launch) (D : va_G) (dA : Nat → ClassId) (b : Nat) (M : zM) (a0 : Int) (a1 : Int)  (Q : Int → Prop) (h : wC_Echo_alike a0 a1 M Q) : Met l yX0_alike (.code yX0_alike cX0_alike 4 (some .boolean) :: zt) (z_rm 1) (va_Pc [.ref (b + 78), .int (iI a0), .int (iI a1)] (wPre D dA vwCl (z_tys dA) wC nC b M)) (va_Qi (wQz (fun z9 u9 => u9 = M ∧ Q z9)) (zB D dA vwCl wC nC b) (zA nC b)) 0 0 (zA nC b) := by
  unfold wC_Echo_alike at h
  refine Met.ofW (cc := cX0_alike) (maxL := 4) (ret := (some .boolean)) (by decide) rfl ?_
  intro p e s m args below meth c s₁ B hml hv
  obtain ⟨hargs, hS, hK⟩ := hv
  have hx := B.exec
  have hb := B.bytes
  have hr := B.returns
  have hts := atoms_spec (ws := .code yX0_alike cX0_alike 4 (some .boolean) :: zt) B.pre
  have hown : s.vm.findClass RX0 = some m.cls := findClass_of_methodNamed B.named
  have hlocks := B.notSynchronized
  have hS0 : va_S (zA nC b) s.heap s.heap [] := va_S.rf
  have hl := lv_entry ([.ref (b + 78), .int (iI a0), .int (iI a1)]) (n := 4) (Nat.le_of_ble_eq_true rfl)
  have hent : entryFrame m args 4 = F0 m 0 ((lg_sl ([.ref (b + 78), .int (iI a0), .int (iI a1)]) ++ List.replicate (4 - (lg_sl ([.ref (b + 78), .int (iI a0), .int (iI a1)])).length) Slot.unset).toArray) [] := by rw [hargs]; exact lg_entry_eq m ([.ref (b + 78), .int (iI a0), .int (iI a1)]) 4
  rw [hent]
  generalize (lg_sl ([.ref (b + 78), .int (iI a0), .int (iI a1)]) ++ List.replicate (4 - (lg_sl ([.ref (b + 78), .int (iI a0), .int (iI a1)])).length) Slot.unset).toArray = ls at hl ⊢
  have hl : lv_has ls 4 [(0, .ref (b + 78)), (1, .int (iI a0)), (2, .int (iI a1))] := hl
  refine z_iconst hx hb dX0_alike_0 ?_
  refine lv_istore_n (lv' := [(3, .int (iI 0)), (0, .ref (b + 78)), (1, .int (iI a0)), (2, .int (iI a1))]) hx hb dX0_alike_1 rfl hl (by decide) rfl (fun ls hl => ?_)
  obtain ⟨I2, ⟨n3, h4⟩, h5⟩ := h
  have L6 : ∀ (n7 : Nat) (x1 : Int) (H : Heap) (locs : List Loc) (ls : Array Slot), I2 n7 x1 → zR D dA vwCl wC nC b M H → va_S (zA nC b) s.heap H locs → lv_has ls 4 [(0, .ref (b + 78)), (1, .int (iI a0)), (2, .int (iI a1)), (3, .int (iI x1))] → W p l e (headSpec (.code yX0_alike cX0_alike 4 (some .boolean) :: zt) (z_rm 1)).room s m args below meth c H locs 0 0 (MQ below (va_Qi (wQz (fun z9 u9 => u9 = M ∧ Q z9)) (zB D dA vwCl wC nC b) (zA nC b)) args s 0 0 (zA nC b)) (F0 m 2 ls []) := by
    intro n7
    induction n7 using Nat.strongRecOn with
    | ind n7 i8 =>
      intro x1 H locs ls h hS hS0 hl
      have h := h5 n7 x1 h
      refine lv_iload_n hx hb dX0_alike_2 rfl (lv_at hl 3 rfl) ?_
      refine z_bipush hx hb (by decide) dX0_alike_3 ?_
      refine w_icmp_ge (tgt := 33) hx hb rfl (sI_of (by decide)) dX0_alike_5 (by decide) (fun c9 => ?_) (fun c9 => ?_)
      · skip
        have h := h.1 c9
        refine z_iconst hx hb dX0_alike_33 ?_
        exact w_zret hx hb hr hlocks hS hS0 (sI_of (by decide)) (by decide) ⟨rfl, h⟩ dX0_alike_34
      · skip
        have h := h.2 c9
        refine lv_aload_n hx hb dX0_alike_8 rfl (lv_at hl 0 rfl) ?_
        refine lv_iload_n hx hb dX0_alike_9 rfl (lv_at hl 1 rfl) ?_
        refine lv_iload_n hx hb dX0_alike_10 rfl (lv_at hl 3 rfl) ?_
        refine z_iadd hx hb dX0_alike_11 ?_
        refine w_calli (va_runV (As := [.int (iI (a0 + x1))]) (rest := []) ⟨hx, hb, hml, hown, hts⟩ (cC_Echo_outAt l D dA b M (a0 + x1) _ h) (cwV 1 hts (z_gV k710 k711 k712 k9 k713) rfl rfl rfl dm_X0_outAt ⟨Nat.le_of_ble_eq_true rfl, Nat.le_of_ble_eq_true rfl⟩) ⟨wPre_blind, (w_recv hS hK.1 (by decide) (zkd_of (rfl : zcd wC 78 = 30) rfl) (by decide) (rfl : vwCl[0]? = some (RX0, TX0, 8))), w_pre hS hK⟩ rfl rfl hl.1 rfl (lv_room (Nat.le_of_ble_eq_true rfl)) dX0_alike_12 ⟨Nat.le_refl _, Nat.le_refl _⟩) hS0 (fun z11 M10 H locs r12 h hS hS0 => ?_)
        obtain ⟨e13, h⟩ := h
        rw [e13] at hS
        refine lv_aload_n hx hb dX0_alike_15 rfl (lv_at hl 0 rfl) ?_
        refine lv_iload_n hx hb dX0_alike_16 rfl (lv_at hl 2 rfl) ?_
        refine lv_iload_n hx hb dX0_alike_17 rfl (lv_at hl 3 rfl) ?_
        refine z_iadd hx hb dX0_alike_18 ?_
        refine w_calli (va_runV (As := [.int (iI (a1 + x1))]) (rest := [.int (iI z11)]) ⟨hx, hb, hml, hown, hts⟩ (cC_Echo_outAt l D dA b M (a1 + x1) _ h) (cwV 1 hts (z_gV k710 k711 k712 k9 k713) rfl rfl rfl dm_X0_outAt ⟨Nat.le_of_ble_eq_true rfl, Nat.le_of_ble_eq_true rfl⟩) ⟨wPre_blind, (w_recv hS hK.1 (by decide) (zkd_of (rfl : zcd wC 78 = 30) rfl) (by decide) (rfl : vwCl[0]? = some (RX0, TX0, 8))), w_pre hS hK⟩ rfl rfl hl.1 rfl (lv_room (Nat.le_of_ble_eq_true rfl)) dX0_alike_19 ⟨Nat.le_refl _, Nat.le_refl _⟩) hS0 (fun z15 M14 H locs r16 h hS hS0 => ?_)
        obtain ⟨e17, h⟩ := h
        rw [e17] at hS
        refine w_icmp_eq (tgt := 27) hx hb (sI_of r12) (sI_of r16) dX0_alike_22 (by decide) (fun c18 => ?_) (fun c18 => ?_)
        · skip
          have h := h.1 c18
          refine z_iinc (lv' := [(3, .int (iI (x1 + 1))), (0, .ref (b + 78)), (1, .int (iI a0)), (2, .int (iI a1))]) hx hb dX0_alike_27 hl (k := 3) rfl (by decide) rfl (fun ls hl => ?_)
          refine lv_goto (tgt := 2) hx hb dX0_alike_30 (by decide) ?_
          obtain ⟨n19, h20, h⟩ := h
          exact i8 n19 h20 (x1 + 1) _ _ _ h hS hS0 (lv_sub hl [1, 2, 3, 0] rfl)
        · skip
          have h := h.2 c18
          refine z_iconst hx hb dX0_alike_25 ?_
          exact w_zret hx hb hr hlocks hS hS0 (sI_of (by decide)) (by decide) ⟨rfl, h⟩ dX0_alike_26
  exact L6 n3 0 _ _ _ h4 hS hS0 (lv_sub hl [1, 2, 3, 0] rfl)
end zz10_w09
section zz10_w10
/-! the W layer, 10 -/
theorem q10w10_0_0 : (cX0_comesBackIn.data.toList.drop 0).take 24 = [17, 15, 141, 60, 4, 61, 27, 28, 100, 42, 180, 0, 9, 161, 0, 22, 42, 27, 27, 28, 100, 182, 0, 76] := by decide +kernel
theorem q10w10_0_24 : (cX0_comesBackIn.data.toList.drop 24).take 13 = [153, 0, 5, 28, 172, 132, 2, 1, 167, 255, 230, 2, 172] := by decide +kernel
theorem dX0_comesBackIn_0 : decode cX0_comesBackIn 0 = .ok (.sipush 3981, 3) := dz_17 (dz_at q10w10_0_0 0) (by decide +kernel)
theorem dX0_comesBackIn_10 : decode cX0_comesBackIn 10 = .ok (.getfield 9, 3) := dz_180 (dz_at q10w10_0_0 10) rfl
theorem dX0_comesBackIn_13 : decode cX0_comesBackIn 13 = .ok (.if_icmp .lt 22, 3) := dz_161 (dz_at q10w10_0_0 13) (by decide +kernel)
theorem dX0_comesBackIn_16 : decode cX0_comesBackIn 16 = .ok (.aload_n 0, 1) := dz_42 (dz_at q10w10_0_0 16)
theorem dX0_comesBackIn_17 : decode cX0_comesBackIn 17 = .ok (.iload_n 1, 1) := dz_27 (dz_at q10w10_0_0 17)
theorem dX0_comesBackIn_18 : decode cX0_comesBackIn 18 = .ok (.iload_n 1, 1) := dz_27 (dz_at q10w10_0_0 18)
theorem dX0_comesBackIn_19 : decode cX0_comesBackIn 19 = .ok (.iload_n 2, 1) := dz_28 (dz_at q10w10_0_0 19)
theorem dX0_comesBackIn_20 : decode cX0_comesBackIn 20 = .ok (.isub, 1) := dz_100 (dz_at q10w10_0_0 20)
theorem dX0_comesBackIn_21 : decode cX0_comesBackIn 21 = .ok (.invokevirtual 76, 3) := dz_182 (dz_at q10w10_0_0 21) rfl
theorem dX0_comesBackIn_24 : decode cX0_comesBackIn 24 = .ok (.ifCond .eq 5, 3) := dz_153 (dz_at q10w10_0_24 0) (by decide +kernel)
theorem dX0_comesBackIn_27 : decode cX0_comesBackIn 27 = .ok (.iload_n 2, 1) := dz_28 (dz_at q10w10_0_24 3)
theorem dX0_comesBackIn_28 : decode cX0_comesBackIn 28 = .ok (.ireturn, 1) := dz_172 (dz_at q10w10_0_24 4)
theorem dX0_comesBackIn_29 : decode cX0_comesBackIn 29 = .ok (.iinc 2 1, 3) := dz_132 (dz_at q10w10_0_24 5) (by decide +kernel)
theorem dX0_comesBackIn_3 : decode cX0_comesBackIn 3 = .ok (.istore_n 1, 1) := dz_60 (dz_at q10w10_0_0 3)
theorem dX0_comesBackIn_32 : decode cX0_comesBackIn 32 = .ok (.goto (-26), 3) := dz_167 (dz_at q10w10_0_24 8) (by decide +kernel)
theorem dX0_comesBackIn_35 : decode cX0_comesBackIn 35 = .ok (.iconst (-1), 1) := dz_2 (dz_at q10w10_0_24 11)
theorem dX0_comesBackIn_36 : decode cX0_comesBackIn 36 = .ok (.ireturn, 1) := dz_172 (dz_at q10w10_0_24 12)
theorem dX0_comesBackIn_4 : decode cX0_comesBackIn 4 = .ok (.iconst 1, 1) := dz_4 (dz_at q10w10_0_0 4)
theorem dX0_comesBackIn_5 : decode cX0_comesBackIn 5 = .ok (.istore_n 2, 1) := dz_61 (dz_at q10w10_0_0 5)
theorem dX0_comesBackIn_6 : decode cX0_comesBackIn 6 = .ok (.iload_n 1, 1) := dz_27 (dz_at q10w10_0_0 6)
theorem dX0_comesBackIn_7 : decode cX0_comesBackIn 7 = .ok (.iload_n 2, 1) := dz_28 (dz_at q10w10_0_0 7)
theorem dX0_comesBackIn_8 : decode cX0_comesBackIn 8 = .ok (.isub, 1) := dz_100 (dz_at q10w10_0_0 8)
theorem dX0_comesBackIn_9 : decode cX0_comesBackIn 9 = .ok (.aload_n 0, 1) := dz_42 (dz_at q10w10_0_0 9)
theorem q10w10_1_0 : (cX0_fate.data.toList.drop 0).take 24 = [42, 43, 17, 15, 160, 182, 0, 65, 42, 182, 0, 69, 61, 28, 2, 159, 0, 5, 28, 172, 42, 182, 0, 73] := by decide +kernel
theorem q10w10_1_24 : (cX0_fate.data.toList.drop 24).take 22 = [62, 29, 2, 160, 0, 6, 16, 253, 172, 17, 15, 160, 29, 100, 54, 4, 21, 4, 42, 180, 0, 9] := by decide +kernel
theorem q10w10_1_46 : (cX0_fate.data.toList.drop 46).take 24 = [164, 0, 30, 42, 21, 4, 4, 100, 182, 0, 62, 42, 21, 4, 4, 100, 29, 96, 182, 0, 62, 160, 0, 9] := by decide +kernel
theorem q10w10_1_70 : (cX0_fate.data.toList.drop 70).take 24 = [132, 4, 255, 167, 255, 223, 42, 180, 0, 15, 3, 21, 4, 79, 42, 180, 0, 15, 4, 29, 79, 16, 254, 172] := by decide +kernel
theorem dX0_fate_0 : decode cX0_fate 0 = .ok (.aload_n 0, 1) := dz_42 (dz_at q10w10_1_0 0)
theorem dX0_fate_1 : decode cX0_fate 1 = .ok (.aload_n 1, 1) := dz_43 (dz_at q10w10_1_0 1)
theorem dX0_fate_12 : decode cX0_fate 12 = .ok (.istore_n 2, 1) := dz_61 (dz_at q10w10_1_0 12)
theorem dX0_fate_13 : decode cX0_fate 13 = .ok (.iload_n 2, 1) := dz_28 (dz_at q10w10_1_0 13)
theorem dX0_fate_14 : decode cX0_fate 14 = .ok (.iconst (-1), 1) := dz_2 (dz_at q10w10_1_0 14)
theorem dX0_fate_15 : decode cX0_fate 15 = .ok (.if_icmp .eq 5, 3) := dz_159 (dz_at q10w10_1_0 15) (by decide +kernel)
theorem dX0_fate_18 : decode cX0_fate 18 = .ok (.iload_n 2, 1) := dz_28 (dz_at q10w10_1_0 18)
theorem dX0_fate_19 : decode cX0_fate 19 = .ok (.ireturn, 1) := dz_172 (dz_at q10w10_1_0 19)
theorem dX0_fate_2 : decode cX0_fate 2 = .ok (.sipush 4000, 3) := dz_17 (dz_at q10w10_1_0 2) (by decide +kernel)
theorem dX0_fate_20 : decode cX0_fate 20 = .ok (.aload_n 0, 1) := dz_42 (dz_at q10w10_1_0 20)
theorem dX0_fate_21 : decode cX0_fate 21 = .ok (.invokevirtual 73, 3) := dz_182 (dz_at q10w10_1_0 21) rfl
theorem dX0_fate_24 : decode cX0_fate 24 = .ok (.istore_n 3, 1) := dz_62 (dz_at q10w10_1_24 0)
theorem dX0_fate_25 : decode cX0_fate 25 = .ok (.iload_n 3, 1) := dz_29 (dz_at q10w10_1_24 1)
theorem dX0_fate_26 : decode cX0_fate 26 = .ok (.iconst (-1), 1) := dz_2 (dz_at q10w10_1_24 2)
theorem dX0_fate_27 : decode cX0_fate 27 = .ok (.if_icmp .ne 6, 3) := dz_160 (dz_at q10w10_1_24 3) (by decide +kernel)
theorem dX0_fate_30 : decode cX0_fate 30 = .ok (.bipush (-3), 2) := dz_16 (dz_at q10w10_1_24 6) (by decide +kernel)
theorem dX0_fate_32 : decode cX0_fate 32 = .ok (.ireturn, 1) := dz_172 (dz_at q10w10_1_24 8)
theorem dX0_fate_33 : decode cX0_fate 33 = .ok (.sipush 4000, 3) := dz_17 (dz_at q10w10_1_24 9) (by decide +kernel)
theorem dX0_fate_36 : decode cX0_fate 36 = .ok (.iload_n 3, 1) := dz_29 (dz_at q10w10_1_24 12)
theorem dX0_fate_37 : decode cX0_fate 37 = .ok (.isub, 1) := dz_100 (dz_at q10w10_1_24 13)
theorem dX0_fate_38 : decode cX0_fate 38 = .ok (.istore 4, 2) := dz_54 (dz_at q10w10_1_24 14)
theorem dX0_fate_40 : decode cX0_fate 40 = .ok (.iload 4, 2) := dz_21 (dz_at q10w10_1_24 16)
theorem dX0_fate_42 : decode cX0_fate 42 = .ok (.aload_n 0, 1) := dz_42 (dz_at q10w10_1_24 18)
theorem dX0_fate_43 : decode cX0_fate 43 = .ok (.getfield 9, 3) := dz_180 (dz_at q10w10_1_24 19) rfl
theorem dX0_fate_46 : decode cX0_fate 46 = .ok (.if_icmp .le 30, 3) := dz_164 (dz_at q10w10_1_46 0) (by decide +kernel)
theorem dX0_fate_49 : decode cX0_fate 49 = .ok (.aload_n 0, 1) := dz_42 (dz_at q10w10_1_46 3)
theorem dX0_fate_5 : decode cX0_fate 5 = .ok (.invokevirtual 65, 3) := dz_182 (dz_at q10w10_1_0 5) rfl
theorem dX0_fate_50 : decode cX0_fate 50 = .ok (.iload 4, 2) := dz_21 (dz_at q10w10_1_46 4)
theorem dX0_fate_52 : decode cX0_fate 52 = .ok (.iconst 1, 1) := dz_4 (dz_at q10w10_1_46 6)
theorem dX0_fate_53 : decode cX0_fate 53 = .ok (.isub, 1) := dz_100 (dz_at q10w10_1_46 7)
theorem dX0_fate_54 : decode cX0_fate 54 = .ok (.invokevirtual 62, 3) := dz_182 (dz_at q10w10_1_46 8) rfl
theorem dX0_fate_57 : decode cX0_fate 57 = .ok (.aload_n 0, 1) := dz_42 (dz_at q10w10_1_46 11)
theorem dX0_fate_58 : decode cX0_fate 58 = .ok (.iload 4, 2) := dz_21 (dz_at q10w10_1_46 12)
theorem dX0_fate_60 : decode cX0_fate 60 = .ok (.iconst 1, 1) := dz_4 (dz_at q10w10_1_46 14)
theorem dX0_fate_61 : decode cX0_fate 61 = .ok (.isub, 1) := dz_100 (dz_at q10w10_1_46 15)
theorem dX0_fate_62 : decode cX0_fate 62 = .ok (.iload_n 3, 1) := dz_29 (dz_at q10w10_1_46 16)
theorem dX0_fate_63 : decode cX0_fate 63 = .ok (.iadd, 1) := dz_96 (dz_at q10w10_1_46 17)
theorem dX0_fate_64 : decode cX0_fate 64 = .ok (.invokevirtual 62, 3) := dz_182 (dz_at q10w10_1_46 18) rfl
theorem dX0_fate_67 : decode cX0_fate 67 = .ok (.if_icmp .ne 9, 3) := dz_160 (dz_at q10w10_1_46 21) (by decide +kernel)
theorem dX0_fate_70 : decode cX0_fate 70 = .ok (.iinc 4 (-1), 3) := dz_132 (dz_at q10w10_1_70 0) (by decide +kernel)
theorem dX0_fate_73 : decode cX0_fate 73 = .ok (.goto (-33), 3) := dz_167 (dz_at q10w10_1_70 3) (by decide +kernel)
theorem dX0_fate_76 : decode cX0_fate 76 = .ok (.aload_n 0, 1) := dz_42 (dz_at q10w10_1_70 6)
theorem dX0_fate_77 : decode cX0_fate 77 = .ok (.getfield 15, 3) := dz_180 (dz_at q10w10_1_70 7) rfl
theorem dX0_fate_8 : decode cX0_fate 8 = .ok (.aload_n 0, 1) := dz_42 (dz_at q10w10_1_0 8)
theorem dX0_fate_80 : decode cX0_fate 80 = .ok (.iconst 0, 1) := dz_3 (dz_at q10w10_1_70 10)
theorem dX0_fate_81 : decode cX0_fate 81 = .ok (.iload 4, 2) := dz_21 (dz_at q10w10_1_70 11)
theorem dX0_fate_83 : decode cX0_fate 83 = .ok (.iastore, 1) := dz_79 (dz_at q10w10_1_70 13)
theorem dX0_fate_84 : decode cX0_fate 84 = .ok (.aload_n 0, 1) := dz_42 (dz_at q10w10_1_70 14)
theorem dX0_fate_85 : decode cX0_fate 85 = .ok (.getfield 15, 3) := dz_180 (dz_at q10w10_1_70 15) rfl
theorem dX0_fate_88 : decode cX0_fate 88 = .ok (.iconst 1, 1) := dz_4 (dz_at q10w10_1_70 18)
theorem dX0_fate_89 : decode cX0_fate 89 = .ok (.iload_n 3, 1) := dz_29 (dz_at q10w10_1_70 19)
theorem dX0_fate_9 : decode cX0_fate 9 = .ok (.invokevirtual 69, 3) := dz_182 (dz_at q10w10_1_0 9) rfl
theorem dX0_fate_90 : decode cX0_fate 90 = .ok (.iastore, 1) := dz_79 (dz_at q10w10_1_70 20)
theorem dX0_fate_91 : decode cX0_fate 91 = .ok (.bipush (-2), 2) := dz_16 (dz_at q10w10_1_70 21) (by decide +kernel)
theorem dX0_fate_93 : decode cX0_fate 93 = .ok (.ireturn, 1) := dz_172 (dz_at q10w10_1_70 23)
theorem q10w10_2_0 : (cX11_dies.data.toList.drop 0).take 23 = [42, 180, 0, 47, 42, 180, 0, 26, 182, 0, 247, 60, 27, 16, 254, 160, 0, 15, 42, 42, 180, 0, 47] := by decide +kernel
theorem q10w10_2_23 : (cX11_dies.data.toList.drop 23).take 9 = [180, 0, 250, 5, 182, 0, 220, 27, 172] := by decide +kernel
theorem dX11_dies_0 : decode cX11_dies 0 = .ok (.aload_n 0, 1) := dz_42 (dz_at q10w10_2_0 0)
theorem dX11_dies_1 : decode cX11_dies 1 = .ok (.getfield 47, 3) := dz_180 (dz_at q10w10_2_0 1) rfl
theorem dX11_dies_11 : decode cX11_dies 11 = .ok (.istore_n 1, 1) := dz_60 (dz_at q10w10_2_0 11)
theorem dX11_dies_12 : decode cX11_dies 12 = .ok (.iload_n 1, 1) := dz_27 (dz_at q10w10_2_0 12)
theorem dX11_dies_13 : decode cX11_dies 13 = .ok (.bipush (-2), 2) := dz_16 (dz_at q10w10_2_0 13) (by decide +kernel)
theorem dX11_dies_15 : decode cX11_dies 15 = .ok (.if_icmp .ne 15, 3) := dz_160 (dz_at q10w10_2_0 15) (by decide +kernel)
theorem dX11_dies_18 : decode cX11_dies 18 = .ok (.aload_n 0, 1) := dz_42 (dz_at q10w10_2_0 18)
theorem dX11_dies_19 : decode cX11_dies 19 = .ok (.aload_n 0, 1) := dz_42 (dz_at q10w10_2_0 19)
theorem dX11_dies_20 : decode cX11_dies 20 = .ok (.getfield 47, 3) := dz_180 (dz_at q10w10_2_0 20) rfl
theorem dX11_dies_23 : decode cX11_dies 23 = .ok (.getfield 250, 3) := dz_180 (dz_at q10w10_2_23 0) rfl
theorem dX11_dies_26 : decode cX11_dies 26 = .ok (.iconst 2, 1) := dz_5 (dz_at q10w10_2_23 3)
theorem dX11_dies_27 : decode cX11_dies 27 = .ok (.invokevirtual 220, 3) := dz_182 (dz_at q10w10_2_23 4) rfl
theorem dX11_dies_30 : decode cX11_dies 30 = .ok (.iload_n 1, 1) := dz_27 (dz_at q10w10_2_23 7)
theorem dX11_dies_31 : decode cX11_dies 31 = .ok (.ireturn, 1) := dz_172 (dz_at q10w10_2_23 8)
theorem dX11_dies_4 : decode cX11_dies 4 = .ok (.aload_n 0, 1) := dz_42 (dz_at q10w10_2_0 4)
theorem dX11_dies_5 : decode cX11_dies 5 = .ok (.getfield 26, 3) := dz_180 (dz_at q10w10_2_0 5) rfl
theorem dX11_dies_8 : decode cX11_dies 8 = .ok (.invokevirtual 247, 3) := dz_182 (dz_at q10w10_2_0 8) rfl
theorem q10w10_3_0 : (cX11_gap.data.toList.drop 0).take 9 = [42, 180, 0, 54, 27, 182, 0, 254, 172] := by decide +kernel
theorem dX11_gap_0 : decode cX11_gap 0 = .ok (.aload_n 0, 1) := dz_42 (dz_at q10w10_3_0 0)
theorem dX11_gap_1 : decode cX11_gap 1 = .ok (.getfield 54, 3) := dz_180 (dz_at q10w10_3_0 1) rfl
theorem dX11_gap_4 : decode cX11_gap 4 = .ok (.iload_n 1, 1) := dz_27 (dz_at q10w10_3_0 4)
theorem dX11_gap_5 : decode cX11_gap 5 = .ok (.invokevirtual 254, 3) := dz_182 (dz_at q10w10_3_0 5) rfl
theorem dX11_gap_8 : decode cX11_gap 8 = .ok (.ireturn, 1) := dz_172 (dz_at q10w10_3_0 8)
theorem q10w10_4_0 : (cX11_span.data.toList.drop 0).take 9 = [42, 180, 0, 54, 27, 182, 1, 1, 172] := by decide +kernel
theorem dX11_span_0 : decode cX11_span 0 = .ok (.aload_n 0, 1) := dz_42 (dz_at q10w10_4_0 0)
theorem dX11_span_1 : decode cX11_span 1 = .ok (.getfield 54, 3) := dz_180 (dz_at q10w10_4_0 1) rfl
theorem dX11_span_4 : decode cX11_span 4 = .ok (.iload_n 1, 1) := dz_27 (dz_at q10w10_4_0 4)
theorem dX11_span_5 : decode cX11_span 5 = .ok (.invokevirtual 257, 3) := dz_182 (dz_at q10w10_4_0 5) rfl
theorem dX11_span_8 : decode cX11_span 8 = .ok (.ireturn, 1) := dz_172 (dz_at q10w10_4_0 8)
theorem q10w10_5_0 : (cX11_take.data.toList.drop 0).take 23 = [27, 3, 18, 204, 184, 0, 113, 153, 0, 13, 28, 3, 16, 60, 184, 0, 113, 154, 0, 5, 3, 172, 42] := by decide +kernel
theorem q10w10_5_23 : (cX11_take.data.toList.drop 23).take 24 = [180, 0, 54, 3, 181, 0, 152, 3, 62, 29, 28, 162, 0, 28, 42, 180, 0, 54, 42, 180, 0, 26, 27, 29] := by decide +kernel
theorem q10w10_5_47 : (cX11_take.data.toList.drop 47).take 17 = [96, 133, 182, 0, 174, 182, 0, 253, 87, 132, 3, 1, 167, 255, 229, 4, 172] := by decide +kernel
theorem dX11_take_0 : decode cX11_take 0 = .ok (.iload_n 1, 1) := dz_27 (dz_at q10w10_5_0 0)
theorem dX11_take_1 : decode cX11_take 1 = .ok (.iconst 0, 1) := dz_3 (dz_at q10w10_5_0 1)
theorem dX11_take_10 : decode cX11_take 10 = .ok (.iload_n 2, 1) := dz_28 (dz_at q10w10_5_0 10)
theorem dX11_take_11 : decode cX11_take 11 = .ok (.iconst 0, 1) := dz_3 (dz_at q10w10_5_0 11)
theorem dX11_take_12 : decode cX11_take 12 = .ok (.bipush 60, 2) := dz_16 (dz_at q10w10_5_0 12) (by decide +kernel)
theorem dX11_take_14 : decode cX11_take 14 = .ok (.invokestatic 113, 3) := dz_184 (dz_at q10w10_5_0 14) rfl
theorem dX11_take_17 : decode cX11_take 17 = .ok (.ifCond .ne 5, 3) := dz_154 (dz_at q10w10_5_0 17) (by decide +kernel)
theorem dX11_take_2 : decode cX11_take 2 = .ok (.ldc 204, 2) := dz_18 (dz_at q10w10_5_0 2)
theorem dX11_take_20 : decode cX11_take 20 = .ok (.iconst 0, 1) := dz_3 (dz_at q10w10_5_0 20)
theorem dX11_take_21 : decode cX11_take 21 = .ok (.ireturn, 1) := dz_172 (dz_at q10w10_5_0 21)
theorem dX11_take_22 : decode cX11_take 22 = .ok (.aload_n 0, 1) := dz_42 (dz_at q10w10_5_0 22)
theorem dX11_take_23 : decode cX11_take 23 = .ok (.getfield 54, 3) := dz_180 (dz_at q10w10_5_23 0) rfl
theorem dX11_take_26 : decode cX11_take 26 = .ok (.iconst 0, 1) := dz_3 (dz_at q10w10_5_23 3)
theorem dX11_take_27 : decode cX11_take 27 = .ok (.putfield 152, 3) := dz_181 (dz_at q10w10_5_23 4) rfl
theorem dX11_take_30 : decode cX11_take 30 = .ok (.iconst 0, 1) := dz_3 (dz_at q10w10_5_23 7)
theorem dX11_take_31 : decode cX11_take 31 = .ok (.istore_n 3, 1) := dz_62 (dz_at q10w10_5_23 8)
theorem dX11_take_32 : decode cX11_take 32 = .ok (.iload_n 3, 1) := dz_29 (dz_at q10w10_5_23 9)
theorem dX11_take_33 : decode cX11_take 33 = .ok (.iload_n 2, 1) := dz_28 (dz_at q10w10_5_23 10)
theorem dX11_take_34 : decode cX11_take 34 = .ok (.if_icmp .ge 28, 3) := dz_162 (dz_at q10w10_5_23 11) (by decide +kernel)
theorem dX11_take_37 : decode cX11_take 37 = .ok (.aload_n 0, 1) := dz_42 (dz_at q10w10_5_23 14)
theorem dX11_take_38 : decode cX11_take 38 = .ok (.getfield 54, 3) := dz_180 (dz_at q10w10_5_23 15) rfl
theorem dX11_take_4 : decode cX11_take 4 = .ok (.invokestatic 113, 3) := dz_184 (dz_at q10w10_5_0 4) rfl
theorem dX11_take_41 : decode cX11_take 41 = .ok (.aload_n 0, 1) := dz_42 (dz_at q10w10_5_23 18)
theorem dX11_take_42 : decode cX11_take 42 = .ok (.getfield 26, 3) := dz_180 (dz_at q10w10_5_23 19) rfl
theorem dX11_take_45 : decode cX11_take 45 = .ok (.iload_n 1, 1) := dz_27 (dz_at q10w10_5_23 22)
theorem dX11_take_46 : decode cX11_take 46 = .ok (.iload_n 3, 1) := dz_29 (dz_at q10w10_5_23 23)
theorem dX11_take_47 : decode cX11_take 47 = .ok (.iadd, 1) := dz_96 (dz_at q10w10_5_47 0)
theorem dX11_take_48 : decode cX11_take 48 = .ok (.i2l, 1) := dz_133 (dz_at q10w10_5_47 1)
theorem dX11_take_49 : decode cX11_take 49 = .ok (.invokevirtual 174, 3) := dz_182 (dz_at q10w10_5_47 2) rfl
theorem dX11_take_52 : decode cX11_take 52 = .ok (.invokevirtual 253, 3) := dz_182 (dz_at q10w10_5_47 5) rfl
theorem dX11_take_55 : decode cX11_take 55 = .ok (.pop, 1) := dz_87 (dz_at q10w10_5_47 8)
theorem dX11_take_56 : decode cX11_take 56 = .ok (.iinc 3 1, 3) := dz_132 (dz_at q10w10_5_47 9) (by decide +kernel)
theorem dX11_take_59 : decode cX11_take 59 = .ok (.goto (-27), 3) := dz_167 (dz_at q10w10_5_47 12) (by decide +kernel)
theorem dX11_take_62 : decode cX11_take 62 = .ok (.iconst 1, 1) := dz_4 (dz_at q10w10_5_47 15)
theorem dX11_take_63 : decode cX11_take 63 = .ok (.ireturn, 1) := dz_172 (dz_at q10w10_5_47 16)
theorem dX11_take_7 : decode cX11_take 7 = .ok (.ifCond .eq 13, 3) := dz_153 (dz_at q10w10_5_0 7) (by decide +kernel)
theorem q10w10_6_0 : (cX11_tape.data.toList.drop 0).take 24 = [27, 2, 159, 0, 10, 27, 184, 0, 190, 153, 0, 14, 42, 180, 0, 54, 27, 182, 0, 253, 167, 0, 4, 2] := by decide +kernel
theorem q10w10_6_24 : (cX11_tape.data.toList.drop 24).take 1 = [172] := by decide +kernel
theorem dX11_tape_0 : decode cX11_tape 0 = .ok (.iload_n 1, 1) := dz_27 (dz_at q10w10_6_0 0)
theorem dX11_tape_1 : decode cX11_tape 1 = .ok (.iconst (-1), 1) := dz_2 (dz_at q10w10_6_0 1)
theorem dX11_tape_12 : decode cX11_tape 12 = .ok (.aload_n 0, 1) := dz_42 (dz_at q10w10_6_0 12)
theorem dX11_tape_13 : decode cX11_tape 13 = .ok (.getfield 54, 3) := dz_180 (dz_at q10w10_6_0 13) rfl
theorem dX11_tape_16 : decode cX11_tape 16 = .ok (.iload_n 1, 1) := dz_27 (dz_at q10w10_6_0 16)
theorem dX11_tape_17 : decode cX11_tape 17 = .ok (.invokevirtual 253, 3) := dz_182 (dz_at q10w10_6_0 17) rfl
theorem dX11_tape_2 : decode cX11_tape 2 = .ok (.if_icmp .eq 10, 3) := dz_159 (dz_at q10w10_6_0 2) (by decide +kernel)
theorem dX11_tape_20 : decode cX11_tape 20 = .ok (.goto 4, 3) := dz_167 (dz_at q10w10_6_0 20) (by decide +kernel)
theorem dX11_tape_23 : decode cX11_tape 23 = .ok (.iconst (-1), 1) := dz_2 (dz_at q10w10_6_0 23)
theorem dX11_tape_24 : decode cX11_tape 24 = .ok (.ireturn, 1) := dz_172 (dz_at q10w10_6_24 0)
theorem dX11_tape_5 : decode cX11_tape 5 = .ok (.iload_n 1, 1) := dz_27 (dz_at q10w10_6_0 5)
theorem dX11_tape_6 : decode cX11_tape 6 = .ok (.invokestatic 190, 3) := dz_184 (dz_at q10w10_6_0 6) rfl
theorem dX11_tape_9 : decode cX11_tape 9 = .ok (.ifCond .eq 14, 3) := dz_153 (dz_at q10w10_6_0 9) (by decide +kernel)
theorem q10w10_7_0 : (cX11_wipe.data.toList.drop 0).take 18 = [42, 180, 0, 54, 180, 0, 152, 60, 42, 180, 0, 54, 3, 181, 0, 152, 27, 172] := by decide +kernel
theorem dX11_wipe_0 : decode cX11_wipe 0 = .ok (.aload_n 0, 1) := dz_42 (dz_at q10w10_7_0 0)
theorem dX11_wipe_1 : decode cX11_wipe 1 = .ok (.getfield 54, 3) := dz_180 (dz_at q10w10_7_0 1) rfl
theorem dX11_wipe_12 : decode cX11_wipe 12 = .ok (.iconst 0, 1) := dz_3 (dz_at q10w10_7_0 12)
theorem dX11_wipe_13 : decode cX11_wipe 13 = .ok (.putfield 152, 3) := dz_181 (dz_at q10w10_7_0 13) rfl
theorem dX11_wipe_16 : decode cX11_wipe 16 = .ok (.iload_n 1, 1) := dz_27 (dz_at q10w10_7_0 16)
theorem dX11_wipe_17 : decode cX11_wipe 17 = .ok (.ireturn, 1) := dz_172 (dz_at q10w10_7_0 17)
theorem dX11_wipe_4 : decode cX11_wipe 4 = .ok (.getfield 152, 3) := dz_180 (dz_at q10w10_7_0 4) rfl
theorem dX11_wipe_7 : decode cX11_wipe 7 = .ok (.istore_n 1, 1) := dz_60 (dz_at q10w10_7_0 7)
theorem dX11_wipe_8 : decode cX11_wipe 8 = .ok (.aload_n 0, 1) := dz_42 (dz_at q10w10_7_0 8)
theorem dX11_wipe_9 : decode cX11_wipe 9 = .ok (.getfield 54, 3) := dz_180 (dz_at q10w10_7_0 9) rfl
theorem q10w10_8_0 : (cX3_add.data.toList.drop 0).take 23 = [42, 180, 0, 15, 16, 60, 161, 0, 5, 2, 172, 42, 180, 0, 9, 42, 180, 0, 15, 27, 79, 42, 89] := by decide +kernel
theorem q10w10_8_23 : (cX3_add.data.toList.drop 23).take 13 = [180, 0, 15, 4, 96, 181, 0, 15, 42, 180, 0, 15, 172] := by decide +kernel
theorem dX3_add_0 : decode cX3_add 0 = .ok (.aload_n 0, 1) := dz_42 (dz_at q10w10_8_0 0)
theorem dX3_add_1 : decode cX3_add 1 = .ok (.getfield 15, 3) := dz_180 (dz_at q10w10_8_0 1) rfl
theorem dX3_add_10 : decode cX3_add 10 = .ok (.ireturn, 1) := dz_172 (dz_at q10w10_8_0 10)
theorem dX3_add_11 : decode cX3_add 11 = .ok (.aload_n 0, 1) := dz_42 (dz_at q10w10_8_0 11)
theorem dX3_add_12 : decode cX3_add 12 = .ok (.getfield 9, 3) := dz_180 (dz_at q10w10_8_0 12) rfl
theorem dX3_add_15 : decode cX3_add 15 = .ok (.aload_n 0, 1) := dz_42 (dz_at q10w10_8_0 15)
theorem dX3_add_16 : decode cX3_add 16 = .ok (.getfield 15, 3) := dz_180 (dz_at q10w10_8_0 16) rfl
theorem dX3_add_19 : decode cX3_add 19 = .ok (.iload_n 1, 1) := dz_27 (dz_at q10w10_8_0 19)
theorem dX3_add_20 : decode cX3_add 20 = .ok (.iastore, 1) := dz_79 (dz_at q10w10_8_0 20)
theorem dX3_add_21 : decode cX3_add 21 = .ok (.aload_n 0, 1) := dz_42 (dz_at q10w10_8_0 21)
theorem dX3_add_22 : decode cX3_add 22 = .ok (.dup, 1) := dz_89 (dz_at q10w10_8_0 22)
theorem dX3_add_23 : decode cX3_add 23 = .ok (.getfield 15, 3) := dz_180 (dz_at q10w10_8_23 0) rfl
theorem dX3_add_26 : decode cX3_add 26 = .ok (.iconst 1, 1) := dz_4 (dz_at q10w10_8_23 3)
theorem dX3_add_27 : decode cX3_add 27 = .ok (.iadd, 1) := dz_96 (dz_at q10w10_8_23 4)
theorem dX3_add_28 : decode cX3_add 28 = .ok (.putfield 15, 3) := dz_181 (dz_at q10w10_8_23 5) rfl
theorem dX3_add_31 : decode cX3_add 31 = .ok (.aload_n 0, 1) := dz_42 (dz_at q10w10_8_23 8)
theorem dX3_add_32 : decode cX3_add 32 = .ok (.getfield 15, 3) := dz_180 (dz_at q10w10_8_23 9) rfl
theorem dX3_add_35 : decode cX3_add 35 = .ok (.ireturn, 1) := dz_172 (dz_at q10w10_8_23 12)
theorem dX3_add_4 : decode cX3_add 4 = .ok (.bipush 60, 2) := dz_16 (dz_at q10w10_8_0 4) (by decide +kernel)
theorem dX3_add_6 : decode cX3_add 6 = .ok (.if_icmp .lt 5, 3) := dz_161 (dz_at q10w10_8_0 6) (by decide +kernel)
theorem dX3_add_9 : decode cX3_add 9 = .ok (.iconst (-1), 1) := dz_2 (dz_at q10w10_8_0 9)
theorem q10w10_9_0 : (cX3_makeGap.data.toList.drop 0).take 23 = [27, 155, 0, 11, 27, 42, 180, 0, 15, 161, 0, 5, 3, 172, 42, 180, 0, 9, 27, 2, 79, 4, 172] := by decide +kernel
theorem dX3_makeGap_0 : decode cX3_makeGap 0 = .ok (.iload_n 1, 1) := dz_27 (dz_at q10w10_9_0 0)
theorem dX3_makeGap_1 : decode cX3_makeGap 1 = .ok (.ifCond .lt 11, 3) := dz_155 (dz_at q10w10_9_0 1) (by decide +kernel)
theorem dX3_makeGap_12 : decode cX3_makeGap 12 = .ok (.iconst 0, 1) := dz_3 (dz_at q10w10_9_0 12)
theorem dX3_makeGap_13 : decode cX3_makeGap 13 = .ok (.ireturn, 1) := dz_172 (dz_at q10w10_9_0 13)
theorem dX3_makeGap_14 : decode cX3_makeGap 14 = .ok (.aload_n 0, 1) := dz_42 (dz_at q10w10_9_0 14)
theorem dX3_makeGap_15 : decode cX3_makeGap 15 = .ok (.getfield 9, 3) := dz_180 (dz_at q10w10_9_0 15) rfl
theorem dX3_makeGap_18 : decode cX3_makeGap 18 = .ok (.iload_n 1, 1) := dz_27 (dz_at q10w10_9_0 18)
theorem dX3_makeGap_19 : decode cX3_makeGap 19 = .ok (.iconst (-1), 1) := dz_2 (dz_at q10w10_9_0 19)
theorem dX3_makeGap_20 : decode cX3_makeGap 20 = .ok (.iastore, 1) := dz_79 (dz_at q10w10_9_0 20)
theorem dX3_makeGap_21 : decode cX3_makeGap 21 = .ok (.iconst 1, 1) := dz_4 (dz_at q10w10_9_0 21)
theorem dX3_makeGap_22 : decode cX3_makeGap 22 = .ok (.ireturn, 1) := dz_172 (dz_at q10w10_9_0 22)
theorem dX3_makeGap_4 : decode cX3_makeGap 4 = .ok (.iload_n 1, 1) := dz_27 (dz_at q10w10_9_0 4)
theorem dX3_makeGap_5 : decode cX3_makeGap 5 = .ok (.aload_n 0, 1) := dz_42 (dz_at q10w10_9_0 5)
theorem dX3_makeGap_6 : decode cX3_makeGap 6 = .ok (.getfield 15, 3) := dz_180 (dz_at q10w10_9_0 6) rfl
theorem dX3_makeGap_9 : decode cX3_makeGap 9 = .ok (.if_icmp .lt 5, 3) := dz_161 (dz_at q10w10_9_0 9) (by decide +kernel)
theorem q10w10_10_0 : (cX3_makeGreatest.data.toList.drop 0).take 24 = [43, 17, 3, 254, 184, 0, 29, 3, 62, 29, 42, 180, 0, 15, 162, 0, 36, 42, 180, 0, 9, 29, 46, 2] := by decide +kernel
theorem q10w10_10_24 : (cX3_makeGreatest.data.toList.drop 24).take 23 = [159, 0, 20, 43, 29, 133, 28, 184, 0, 35, 92, 46, 42, 180, 0, 9, 29, 46, 126, 79, 132, 3, 1] := by decide +kernel
theorem q10w10_10_47 : (cX3_makeGreatest.data.toList.drop 47).take 4 = [167, 255, 218, 177] := by decide +kernel
theorem dX3_makeGreatest_0 : decode cX3_makeGreatest 0 = .ok (.aload_n 1, 1) := dz_43 (dz_at q10w10_10_0 0)
theorem dX3_makeGreatest_1 : decode cX3_makeGreatest 1 = .ok (.sipush 1022, 3) := dz_17 (dz_at q10w10_10_0 1) (by decide +kernel)
theorem dX3_makeGreatest_10 : decode cX3_makeGreatest 10 = .ok (.aload_n 0, 1) := dz_42 (dz_at q10w10_10_0 10)
theorem dX3_makeGreatest_11 : decode cX3_makeGreatest 11 = .ok (.getfield 15, 3) := dz_180 (dz_at q10w10_10_0 11) rfl
theorem dX3_makeGreatest_14 : decode cX3_makeGreatest 14 = .ok (.if_icmp .ge 36, 3) := dz_162 (dz_at q10w10_10_0 14) (by decide +kernel)
theorem dX3_makeGreatest_17 : decode cX3_makeGreatest 17 = .ok (.aload_n 0, 1) := dz_42 (dz_at q10w10_10_0 17)
theorem dX3_makeGreatest_18 : decode cX3_makeGreatest 18 = .ok (.getfield 9, 3) := dz_180 (dz_at q10w10_10_0 18) rfl
theorem dX3_makeGreatest_21 : decode cX3_makeGreatest 21 = .ok (.iload_n 3, 1) := dz_29 (dz_at q10w10_10_0 21)
theorem dX3_makeGreatest_22 : decode cX3_makeGreatest 22 = .ok (.iaload, 1) := dz_46 (dz_at q10w10_10_0 22)
theorem dX3_makeGreatest_23 : decode cX3_makeGreatest 23 = .ok (.iconst (-1), 1) := dz_2 (dz_at q10w10_10_0 23)
theorem dX3_makeGreatest_24 : decode cX3_makeGreatest 24 = .ok (.if_icmp .eq 20, 3) := dz_159 (dz_at q10w10_10_24 0) (by decide +kernel)
theorem dX3_makeGreatest_27 : decode cX3_makeGreatest 27 = .ok (.aload_n 1, 1) := dz_43 (dz_at q10w10_10_24 3)
theorem dX3_makeGreatest_28 : decode cX3_makeGreatest 28 = .ok (.iload_n 3, 1) := dz_29 (dz_at q10w10_10_24 4)
theorem dX3_makeGreatest_29 : decode cX3_makeGreatest 29 = .ok (.i2l, 1) := dz_133 (dz_at q10w10_10_24 5)
theorem dX3_makeGreatest_30 : decode cX3_makeGreatest 30 = .ok (.iload_n 2, 1) := dz_28 (dz_at q10w10_10_24 6)
theorem dX3_makeGreatest_31 : decode cX3_makeGreatest 31 = .ok (.invokestatic 35, 3) := dz_184 (dz_at q10w10_10_24 7) rfl
theorem dX3_makeGreatest_34 : decode cX3_makeGreatest 34 = .ok (.dup2, 1) := dz_92 (dz_at q10w10_10_24 10)
theorem dX3_makeGreatest_35 : decode cX3_makeGreatest 35 = .ok (.iaload, 1) := dz_46 (dz_at q10w10_10_24 11)
theorem dX3_makeGreatest_36 : decode cX3_makeGreatest 36 = .ok (.aload_n 0, 1) := dz_42 (dz_at q10w10_10_24 12)
theorem dX3_makeGreatest_37 : decode cX3_makeGreatest 37 = .ok (.getfield 9, 3) := dz_180 (dz_at q10w10_10_24 13) rfl
theorem dX3_makeGreatest_4 : decode cX3_makeGreatest 4 = .ok (.invokestatic 29, 3) := dz_184 (dz_at q10w10_10_0 4) rfl
theorem dX3_makeGreatest_40 : decode cX3_makeGreatest 40 = .ok (.iload_n 3, 1) := dz_29 (dz_at q10w10_10_24 16)
theorem dX3_makeGreatest_41 : decode cX3_makeGreatest 41 = .ok (.iaload, 1) := dz_46 (dz_at q10w10_10_24 17)
theorem dX3_makeGreatest_42 : decode cX3_makeGreatest 42 = .ok (.iand, 1) := dz_126 (dz_at q10w10_10_24 18)
theorem dX3_makeGreatest_43 : decode cX3_makeGreatest 43 = .ok (.iastore, 1) := dz_79 (dz_at q10w10_10_24 19)
theorem dX3_makeGreatest_44 : decode cX3_makeGreatest 44 = .ok (.iinc 3 1, 3) := dz_132 (dz_at q10w10_10_24 20) (by decide +kernel)
theorem dX3_makeGreatest_47 : decode cX3_makeGreatest 47 = .ok (.goto (-38), 3) := dz_167 (dz_at q10w10_10_47 0) (by decide +kernel)
theorem dX3_makeGreatest_50 : decode cX3_makeGreatest 50 = .ok (.return_, 1) := dz_177 (dz_at q10w10_10_47 3)
theorem dX3_makeGreatest_7 : decode cX3_makeGreatest 7 = .ok (.iconst 0, 1) := dz_3 (dz_at q10w10_10_0 7)
theorem dX3_makeGreatest_8 : decode cX3_makeGreatest 8 = .ok (.istore_n 3, 1) := dz_62 (dz_at q10w10_10_0 8)
theorem dX3_makeGreatest_9 : decode cX3_makeGreatest 9 = .ok (.iload_n 3, 1) := dz_29 (dz_at q10w10_10_0 9)
theorem q10w10_11_0 : (cX3_spanFits.data.toList.drop 0).take 24 = [42, 180, 0, 19, 2, 184, 0, 29, 3, 61, 28, 42, 180, 0, 15, 162, 0, 68, 28, 133, 27, 184, 0, 35] := by decide +kernel
theorem q10w10_11_24 : (cX3_spanFits.data.toList.drop 24).take 23 = [62, 42, 180, 0, 19, 29, 46, 2, 160, 0, 18, 42, 180, 0, 19, 29, 42, 180, 0, 9, 28, 46, 79] := by decide +kernel
theorem q10w10_11_47 : (cX3_spanFits.data.toList.drop 47).take 24 = [167, 0, 30, 42, 180, 0, 9, 28, 46, 2, 159, 0, 20, 42, 180, 0, 9, 28, 46, 42, 180, 0, 19, 29] := by decide +kernel
theorem q10w10_11_71 : (cX3_spanFits.data.toList.drop 71).take 14 = [46, 159, 0, 5, 3, 172, 132, 2, 1, 167, 255, 186, 4, 172] := by decide +kernel
theorem dX3_spanFits_0 : decode cX3_spanFits 0 = .ok (.aload_n 0, 1) := dz_42 (dz_at q10w10_11_0 0)
theorem dX3_spanFits_1 : decode cX3_spanFits 1 = .ok (.getfield 19, 3) := dz_180 (dz_at q10w10_11_0 1) rfl
theorem dX3_spanFits_10 : decode cX3_spanFits 10 = .ok (.iload_n 2, 1) := dz_28 (dz_at q10w10_11_0 10)
theorem dX3_spanFits_11 : decode cX3_spanFits 11 = .ok (.aload_n 0, 1) := dz_42 (dz_at q10w10_11_0 11)
theorem dX3_spanFits_12 : decode cX3_spanFits 12 = .ok (.getfield 15, 3) := dz_180 (dz_at q10w10_11_0 12) rfl
theorem dX3_spanFits_15 : decode cX3_spanFits 15 = .ok (.if_icmp .ge 68, 3) := dz_162 (dz_at q10w10_11_0 15) (by decide +kernel)
theorem dX3_spanFits_18 : decode cX3_spanFits 18 = .ok (.iload_n 2, 1) := dz_28 (dz_at q10w10_11_0 18)
theorem dX3_spanFits_19 : decode cX3_spanFits 19 = .ok (.i2l, 1) := dz_133 (dz_at q10w10_11_0 19)
theorem dX3_spanFits_20 : decode cX3_spanFits 20 = .ok (.iload_n 1, 1) := dz_27 (dz_at q10w10_11_0 20)
theorem dX3_spanFits_21 : decode cX3_spanFits 21 = .ok (.invokestatic 35, 3) := dz_184 (dz_at q10w10_11_0 21) rfl
theorem dX3_spanFits_24 : decode cX3_spanFits 24 = .ok (.istore_n 3, 1) := dz_62 (dz_at q10w10_11_24 0)
theorem dX3_spanFits_25 : decode cX3_spanFits 25 = .ok (.aload_n 0, 1) := dz_42 (dz_at q10w10_11_24 1)
theorem dX3_spanFits_26 : decode cX3_spanFits 26 = .ok (.getfield 19, 3) := dz_180 (dz_at q10w10_11_24 2) rfl
theorem dX3_spanFits_29 : decode cX3_spanFits 29 = .ok (.iload_n 3, 1) := dz_29 (dz_at q10w10_11_24 5)
theorem dX3_spanFits_30 : decode cX3_spanFits 30 = .ok (.iaload, 1) := dz_46 (dz_at q10w10_11_24 6)
theorem dX3_spanFits_31 : decode cX3_spanFits 31 = .ok (.iconst (-1), 1) := dz_2 (dz_at q10w10_11_24 7)
theorem dX3_spanFits_32 : decode cX3_spanFits 32 = .ok (.if_icmp .ne 18, 3) := dz_160 (dz_at q10w10_11_24 8) (by decide +kernel)
theorem dX3_spanFits_35 : decode cX3_spanFits 35 = .ok (.aload_n 0, 1) := dz_42 (dz_at q10w10_11_24 11)
theorem dX3_spanFits_36 : decode cX3_spanFits 36 = .ok (.getfield 19, 3) := dz_180 (dz_at q10w10_11_24 12) rfl
theorem dX3_spanFits_39 : decode cX3_spanFits 39 = .ok (.iload_n 3, 1) := dz_29 (dz_at q10w10_11_24 15)
theorem dX3_spanFits_4 : decode cX3_spanFits 4 = .ok (.iconst (-1), 1) := dz_2 (dz_at q10w10_11_0 4)
theorem dX3_spanFits_40 : decode cX3_spanFits 40 = .ok (.aload_n 0, 1) := dz_42 (dz_at q10w10_11_24 16)
theorem dX3_spanFits_41 : decode cX3_spanFits 41 = .ok (.getfield 9, 3) := dz_180 (dz_at q10w10_11_24 17) rfl
theorem dX3_spanFits_44 : decode cX3_spanFits 44 = .ok (.iload_n 2, 1) := dz_28 (dz_at q10w10_11_24 20)
theorem dX3_spanFits_45 : decode cX3_spanFits 45 = .ok (.iaload, 1) := dz_46 (dz_at q10w10_11_24 21)
theorem dX3_spanFits_46 : decode cX3_spanFits 46 = .ok (.iastore, 1) := dz_79 (dz_at q10w10_11_24 22)
theorem dX3_spanFits_47 : decode cX3_spanFits 47 = .ok (.goto 30, 3) := dz_167 (dz_at q10w10_11_47 0) (by decide +kernel)
theorem dX3_spanFits_5 : decode cX3_spanFits 5 = .ok (.invokestatic 29, 3) := dz_184 (dz_at q10w10_11_0 5) rfl
theorem dX3_spanFits_50 : decode cX3_spanFits 50 = .ok (.aload_n 0, 1) := dz_42 (dz_at q10w10_11_47 3)
theorem dX3_spanFits_51 : decode cX3_spanFits 51 = .ok (.getfield 9, 3) := dz_180 (dz_at q10w10_11_47 4) rfl
theorem dX3_spanFits_54 : decode cX3_spanFits 54 = .ok (.iload_n 2, 1) := dz_28 (dz_at q10w10_11_47 7)
theorem dX3_spanFits_55 : decode cX3_spanFits 55 = .ok (.iaload, 1) := dz_46 (dz_at q10w10_11_47 8)
theorem dX3_spanFits_56 : decode cX3_spanFits 56 = .ok (.iconst (-1), 1) := dz_2 (dz_at q10w10_11_47 9)
theorem dX3_spanFits_57 : decode cX3_spanFits 57 = .ok (.if_icmp .eq 20, 3) := dz_159 (dz_at q10w10_11_47 10) (by decide +kernel)
theorem dX3_spanFits_60 : decode cX3_spanFits 60 = .ok (.aload_n 0, 1) := dz_42 (dz_at q10w10_11_47 13)
theorem dX3_spanFits_61 : decode cX3_spanFits 61 = .ok (.getfield 9, 3) := dz_180 (dz_at q10w10_11_47 14) rfl
theorem dX3_spanFits_64 : decode cX3_spanFits 64 = .ok (.iload_n 2, 1) := dz_28 (dz_at q10w10_11_47 17)
theorem dX3_spanFits_65 : decode cX3_spanFits 65 = .ok (.iaload, 1) := dz_46 (dz_at q10w10_11_47 18)
theorem dX3_spanFits_66 : decode cX3_spanFits 66 = .ok (.aload_n 0, 1) := dz_42 (dz_at q10w10_11_47 19)
theorem dX3_spanFits_67 : decode cX3_spanFits 67 = .ok (.getfield 19, 3) := dz_180 (dz_at q10w10_11_47 20) rfl
theorem dX3_spanFits_70 : decode cX3_spanFits 70 = .ok (.iload_n 3, 1) := dz_29 (dz_at q10w10_11_47 23)
theorem dX3_spanFits_71 : decode cX3_spanFits 71 = .ok (.iaload, 1) := dz_46 (dz_at q10w10_11_71 0)
theorem dX3_spanFits_72 : decode cX3_spanFits 72 = .ok (.if_icmp .eq 5, 3) := dz_159 (dz_at q10w10_11_71 1) (by decide +kernel)
theorem dX3_spanFits_75 : decode cX3_spanFits 75 = .ok (.iconst 0, 1) := dz_3 (dz_at q10w10_11_71 4)
theorem dX3_spanFits_76 : decode cX3_spanFits 76 = .ok (.ireturn, 1) := dz_172 (dz_at q10w10_11_71 5)
theorem dX3_spanFits_77 : decode cX3_spanFits 77 = .ok (.iinc 2 1, 3) := dz_132 (dz_at q10w10_11_71 6) (by decide +kernel)
theorem dX3_spanFits_8 : decode cX3_spanFits 8 = .ok (.iconst 0, 1) := dz_3 (dz_at q10w10_11_0 8)
theorem dX3_spanFits_80 : decode cX3_spanFits 80 = .ok (.goto (-70), 3) := dz_167 (dz_at q10w10_11_71 9) (by decide +kernel)
theorem dX3_spanFits_83 : decode cX3_spanFits 83 = .ok (.iconst 1, 1) := dz_4 (dz_at q10w10_11_71 12)
theorem dX3_spanFits_84 : decode cX3_spanFits 84 = .ok (.ireturn, 1) := dz_172 (dz_at q10w10_11_71 13)
theorem dX3_spanFits_9 : decode cX3_spanFits 9 = .ok (.istore_n 2, 1) := dz_61 (dz_at q10w10_11_0 9)
theorem q10w10_12_0 : (cX3_spanNumber.data.toList.drop 0).take 24 = [3, 61, 4, 62, 29, 16, 24, 163, 0, 27, 42, 29, 182, 0, 25, 153, 0, 13, 28, 27, 160, 0, 5, 29] := by decide +kernel
theorem q10w10_12_24 : (cX3_spanNumber.data.toList.drop 24).take 12 = [172, 132, 2, 1, 132, 3, 1, 167, 255, 229, 2, 172] := by decide +kernel
theorem dX3_spanNumber_0 : decode cX3_spanNumber 0 = .ok (.iconst 0, 1) := dz_3 (dz_at q10w10_12_0 0)
theorem dX3_spanNumber_1 : decode cX3_spanNumber 1 = .ok (.istore_n 2, 1) := dz_61 (dz_at q10w10_12_0 1)
theorem dX3_spanNumber_10 : decode cX3_spanNumber 10 = .ok (.aload_n 0, 1) := dz_42 (dz_at q10w10_12_0 10)
theorem dX3_spanNumber_11 : decode cX3_spanNumber 11 = .ok (.iload_n 3, 1) := dz_29 (dz_at q10w10_12_0 11)
theorem dX3_spanNumber_12 : decode cX3_spanNumber 12 = .ok (.invokevirtual 25, 3) := dz_182 (dz_at q10w10_12_0 12) rfl
theorem dX3_spanNumber_15 : decode cX3_spanNumber 15 = .ok (.ifCond .eq 13, 3) := dz_153 (dz_at q10w10_12_0 15) (by decide +kernel)
theorem dX3_spanNumber_18 : decode cX3_spanNumber 18 = .ok (.iload_n 2, 1) := dz_28 (dz_at q10w10_12_0 18)
theorem dX3_spanNumber_19 : decode cX3_spanNumber 19 = .ok (.iload_n 1, 1) := dz_27 (dz_at q10w10_12_0 19)
theorem dX3_spanNumber_2 : decode cX3_spanNumber 2 = .ok (.iconst 1, 1) := dz_4 (dz_at q10w10_12_0 2)
theorem dX3_spanNumber_20 : decode cX3_spanNumber 20 = .ok (.if_icmp .ne 5, 3) := dz_160 (dz_at q10w10_12_0 20) (by decide +kernel)
theorem dX3_spanNumber_23 : decode cX3_spanNumber 23 = .ok (.iload_n 3, 1) := dz_29 (dz_at q10w10_12_0 23)
theorem dX3_spanNumber_24 : decode cX3_spanNumber 24 = .ok (.ireturn, 1) := dz_172 (dz_at q10w10_12_24 0)
theorem dX3_spanNumber_25 : decode cX3_spanNumber 25 = .ok (.iinc 2 1, 3) := dz_132 (dz_at q10w10_12_24 1) (by decide +kernel)
theorem dX3_spanNumber_28 : decode cX3_spanNumber 28 = .ok (.iinc 3 1, 3) := dz_132 (dz_at q10w10_12_24 4) (by decide +kernel)
theorem dX3_spanNumber_3 : decode cX3_spanNumber 3 = .ok (.istore_n 3, 1) := dz_62 (dz_at q10w10_12_0 3)
theorem dX3_spanNumber_31 : decode cX3_spanNumber 31 = .ok (.goto (-27), 3) := dz_167 (dz_at q10w10_12_24 7) (by decide +kernel)
theorem dX3_spanNumber_34 : decode cX3_spanNumber 34 = .ok (.iconst (-1), 1) := dz_2 (dz_at q10w10_12_24 10)
theorem dX3_spanNumber_35 : decode cX3_spanNumber 35 = .ok (.ireturn, 1) := dz_172 (dz_at q10w10_12_24 11)
theorem dX3_spanNumber_4 : decode cX3_spanNumber 4 = .ok (.iload_n 3, 1) := dz_29 (dz_at q10w10_12_0 4)
theorem dX3_spanNumber_5 : decode cX3_spanNumber 5 = .ok (.bipush 24, 2) := dz_16 (dz_at q10w10_12_0 5) (by decide +kernel)
theorem dX3_spanNumber_7 : decode cX3_spanNumber 7 = .ok (.if_icmp .gt 27, 3) := dz_163 (dz_at q10w10_12_0 7) (by decide +kernel)
theorem dm_X0_alike : yX0_alike.cls = RX0 ∧ yX0_alike.cls ≠ "java/lang/invoke/MethodHandle" ∧ yX0_alike.cls ≠ "java/lang/invoke/VarHandle" ∧ (parseMethodDescriptor yX0_alike.desc).map (fun d => d.parameters.length) = some 2 := by decide +kernel
theorem dm_X0_firstSilence : yX0_firstSilence.cls = RX0 ∧ yX0_firstSilence.cls ≠ "java/lang/invoke/MethodHandle" ∧ yX0_firstSilence.cls ≠ "java/lang/invoke/VarHandle" ∧ (parseMethodDescriptor yX0_firstSilence.desc).map (fun d => d.parameters.length) = some 0 := by decide +kernel
theorem dm_X0_comesBackIn : yX0_comesBackIn.cls = RX0 ∧ yX0_comesBackIn.cls ≠ "java/lang/invoke/MethodHandle" ∧ yX0_comesBackIn.cls ≠ "java/lang/invoke/VarHandle" ∧ (parseMethodDescriptor yX0_comesBackIn.desc).map (fun d => d.parameters.length) = some 0 := by decide +kernel
theorem dm_X0_fate : yX0_fate.cls = RX0 ∧ yX0_fate.cls ≠ "java/lang/invoke/MethodHandle" ∧ yX0_fate.cls ≠ "java/lang/invoke/VarHandle" ∧ (parseMethodDescriptor yX0_fate.desc).map (fun d => d.parameters.length) = some 1 := by decide +kernel
theorem dm_X3_add : yX3_add.cls = RX3 ∧ yX3_add.cls ≠ "java/lang/invoke/MethodHandle" ∧ yX3_add.cls ≠ "java/lang/invoke/VarHandle" ∧ (parseMethodDescriptor yX3_add.desc).map (fun d => d.parameters.length) = some 1 := by decide +kernel
theorem dm_X3_makeGap : yX3_makeGap.cls = RX3 ∧ yX3_makeGap.cls ≠ "java/lang/invoke/MethodHandle" ∧ yX3_makeGap.cls ≠ "java/lang/invoke/VarHandle" ∧ (parseMethodDescriptor yX3_makeGap.desc).map (fun d => d.parameters.length) = some 1 := by decide +kernel
theorem dm_X3_spanFits : yX3_spanFits.cls = RX3 ∧ yX3_spanFits.cls ≠ "java/lang/invoke/MethodHandle" ∧ yX3_spanFits.cls ≠ "java/lang/invoke/VarHandle" ∧ (parseMethodDescriptor yX3_spanFits.desc).map (fun d => d.parameters.length) = some 1 := by decide +kernel
theorem dm_X3_spanNumber : yX3_spanNumber.cls = RX3 ∧ yX3_spanNumber.cls ≠ "java/lang/invoke/MethodHandle" ∧ yX3_spanNumber.cls ≠ "java/lang/invoke/VarHandle" ∧ (parseMethodDescriptor yX3_spanNumber.desc).map (fun d => d.parameters.length) = some 1 := by decide +kernel
set_option maxRecDepth 100000 in
def wC_Echo_comesBackIn  (M : zM) (Q : Int → Prop) : Prop := pL1 (fun K6 x1 => ((sI (3981 - x1)) < (sI (M 78 0)) → Q (-1)) ∧ ((sI (M 78 0)) ≤ (sI (3981 - x1)) → wC_Echo_alike 3981 (3981 - x1) M (fun z11 => (z11 = 0 → K6 (x1 + 1)) ∧ (z11 ≠ 0 → Q (sI x1))))) 1
set_option maxHeartbeats 4000000 in
set_option maxRecDepth 100000 in
theorem cC_Echo_comesBackIn (l : Launch) (D : va_G) (dA : Nat → ClassId) (b : Nat) (M : zM)   (Q : Int → Prop) (h : wC_Echo_comesBackIn  M Q) : Met l yX0_comesBackIn (.code yX0_comesBackIn cX0_comesBackIn 3 (some .int) :: zt) (z_rm 2) (va_Pc [.ref (b + 78)] (wPre D dA vwCl (z_tys dA) wC nC b M)) (va_Qi (wQi (fun z9 u9 => u9 = M ∧ Q z9)) (zB D dA vwCl wC nC b) (zA nC b)) 0 0 (zA nC b) := by
  unfold wC_Echo_comesBackIn at h
  refine Met.ofW (cc := cX0_comesBackIn) (maxL := 3) (ret := (some .int)) (by decide) rfl ?_
  intro p e s m args below meth c s₁ B hml hv
  obtain ⟨hargs, hS, hK⟩ := hv
  have hx := B.exec
  have hb := B.bytes
  have hr := B.returns
  have hts := atoms_spec (ws := .code yX0_comesBackIn cX0_comesBackIn 3 (some .int) :: zt) B.pre
  have hown : s.vm.findClass RX0 = some m.cls := findClass_of_methodNamed B.named
  have hlocks := B.notSynchronized
  have hS0 : va_S (zA nC b) s.heap s.heap [] := va_S.rf
  have hl := lv_entry ([.ref (b + 78)]) (n := 3) (Nat.le_of_ble_eq_true rfl)
  have hent : entryFrame m args 3 = F0 m 0 ((lg_sl ([.ref (b + 78)]) ++ List.replicate (3 - (lg_sl ([.ref (b + 78)])).length) Slot.unset).toArray) [] := by rw [hargs]; exact lg_entry_eq m ([.ref (b + 78)]) 3
  rw [hent]
  generalize (lg_sl ([.ref (b + 78)]) ++ List.replicate (3 - (lg_sl ([.ref (b + 78)])).length) Slot.unset).toArray = ls at hl ⊢
  have hl : lv_has ls 3 [(0, .ref (b + 78))] := hl
  refine z_sipush hx hb (by decide) dX0_comesBackIn_0 ?_
  refine lv_istore_n (lv' := [(1, .int (iI 3981)), (0, .ref (b + 78))]) hx hb dX0_comesBackIn_3 rfl hl (by decide) rfl (fun ls hl => ?_)
  refine z_iconst hx hb dX0_comesBackIn_4 ?_
  refine lv_istore_n (lv' := [(2, .int (iI 1)), (1, .int (iI 3981)), (0, .ref (b + 78))]) hx hb dX0_comesBackIn_5 rfl hl (by decide) rfl (fun ls hl => ?_)
  obtain ⟨I2, ⟨n3, h4⟩, h5⟩ := h
  have L6 : ∀ (n7 : Nat) (x1 : Int) (H : Heap) (locs : List Loc) (ls : Array Slot), I2 n7 x1 → zR D dA vwCl wC nC b M H → va_S (zA nC b) s.heap H locs → lv_has ls 3 [(0, .ref (b + 78)), (1, .int (iI 3981)), (2, .int (iI x1))] → W p l e (headSpec (.code yX0_comesBackIn cX0_comesBackIn 3 (some .int) :: zt) (z_rm 2)).room s m args below meth c H locs 0 0 (MQ below (va_Qi (wQi (fun z9 u9 => u9 = M ∧ Q z9)) (zB D dA vwCl wC nC b) (zA nC b)) args s 0 0 (zA nC b)) (F0 m 6 ls []) := by
    intro n7
    induction n7 using Nat.strongRecOn with
    | ind n7 i8 =>
      intro x1 H locs ls h hS hS0 hl
      have h := h5 n7 x1 h
      refine lv_iload_n hx hb dX0_comesBackIn_6 rfl (lv_at hl 1 rfl) ?_
      refine lv_iload_n hx hb dX0_comesBackIn_7 rfl (lv_at hl 2 rfl) ?_
      refine z_isub hx hb dX0_comesBackIn_8 ?_
      refine lv_aload_n hx hb dX0_comesBackIn_9 rfl (lv_at hl 0 rfl) ?_
      refine w_geti hx hb hts (z_memU u0) hown hK.1 hS f0_0 (by decide) (zkd_of (rfl : zcd wC 78 = 30) rfl) (Or.inl (hts _ (z_mem k172))) dX0_comesBackIn_10 ?_
      refine w_icmp_lt (tgt := 35) hx hb rfl rfl dX0_comesBackIn_13 (by decide) (fun c9 => ?_) (fun c9 => ?_)
      · skip
        have h := h.1 c9
        refine z_iconst hx hb dX0_comesBackIn_35 ?_
        exact w_iret hx hb hr hlocks hS hS0 (sI_of (by decide)) ⟨rfl, h⟩ dX0_comesBackIn_36
      · skip
        have h := h.2 c9
        refine lv_aload_n hx hb dX0_comesBackIn_16 rfl (lv_at hl 0 rfl) ?_
        refine lv_iload_n hx hb dX0_comesBackIn_17 rfl (lv_at hl 1 rfl) ?_
        refine lv_iload_n hx hb dX0_comesBackIn_18 rfl (lv_at hl 1 rfl) ?_
        refine lv_iload_n hx hb dX0_comesBackIn_19 rfl (lv_at hl 2 rfl) ?_
        refine z_isub hx hb dX0_comesBackIn_20 ?_
        refine w_callz (va_runV (As := [.int (iI 3981), .int (iI (3981 - x1))]) (rest := []) ⟨hx, hb, hml, hown, hts⟩ (cC_Echo_alike l D dA b M 3981 (3981 - x1) _ h) (cwV 2 hts (z_gV k731 k732 k1380 k9 k733) rfl rfl rfl dm_X0_alike ⟨Nat.le_of_ble_eq_true rfl, Nat.le_of_ble_eq_true rfl⟩) ⟨wPre_blind, (w_recv hS hK.1 (by decide) (zkd_of (rfl : zcd wC 78 = 30) rfl) (by decide) (rfl : vwCl[0]? = some (RX0, TX0, 8))), w_pre hS hK⟩ rfl rfl hl.1 rfl (lv_room (Nat.le_of_ble_eq_true rfl)) dX0_comesBackIn_21 ⟨Nat.le_refl _, Nat.le_refl _⟩) hS0 (fun z11 M10 H locs r12 h hS hS0 => ?_)
        obtain ⟨e13, h⟩ := h
        rw [e13] at hS
        refine w_if_eq (tgt := 29) hx hb (sI_01 r12) dX0_comesBackIn_24 (by decide) (fun c14 => ?_) (fun c14 => ?_)
        · skip
          have h := h.1 c14
          refine z_iinc (lv' := [(2, .int (iI (x1 + 1))), (0, .ref (b + 78)), (1, .int (iI 3981))]) hx hb dX0_comesBackIn_29 hl (k := 2) rfl (by decide) rfl (fun ls hl => ?_)
          refine lv_goto (tgt := 6) hx hb dX0_comesBackIn_32 (by decide) ?_
          obtain ⟨n15, h16, h⟩ := h
          exact i8 n15 h16 (x1 + 1) _ _ _ h hS hS0 (lv_sub hl [1, 2, 0] rfl)
        · skip
          have h := h.2 c14
          refine lv_iload_n hx hb dX0_comesBackIn_27 rfl (lv_at hl 2 rfl) ?_
          exact w_iret hx hb hr hlocks hS hS0 rfl ⟨rfl, h⟩ dX0_comesBackIn_28
  exact L6 n3 1 _ _ _ h4 hS hS0 (lv_sub hl [2, 1, 0] rfl)

set_option maxRecDepth 100000 in
def wC_Echo_fate  (M : zM) (Q : Int → zM → Prop) : Prop := wC_Echo_run 4000 M (fun M1 => wC_Echo_firstSilence  M1 (fun z3 => (z3 = (-1) → wC_Echo_comesBackIn  M1 (fun z8 => (z8 ≠ (-1) → pL1 (fun K40 x12 => pJ0 (fun J76 => ((sI x12) ≤ (sI (M1 78 0)) → J76) ∧ ((sI (M1 78 0)) < (sI x12) → wC_Echo_outAt (x12 - 1) M1 (fun z40 => wC_Echo_outAt ((x12 - 1) + z8) M1 (fun z44 => (z40 ≠ z44 → J76) ∧ (z40 = z44 → K40 (x12 + (-1))))))) ((∀ M34 : zM, M34 = zup M1 79 0 x12 → (∀ M36 : zM, M36 = zup M34 79 1 z8 → Q (-2) M36)))) (4000 - z8)) ∧ (z8 = (-1) → Q (-3) M1))) ∧ (z3 ≠ (-1) → Q z3 M1)))
set_option maxHeartbeats 4000000 in
set_option maxRecDepth 100000 in
theorem cC_Echo_fate (l : Launch) (D : va_G) (dA : Nat → ClassId) (b : Nat) (M : zM)   (Q : Int → zM → Prop) (h : wC_Echo_fate  M Q) : Met l yX0_fate (.code yX0_fate cX0_fate 5 (some .int) :: zt) (z_rm 5) (va_Pc [.ref (b + 78), .ref (b + 32)] (wPre D dA vwCl (z_tys dA) wC nC b M)) (va_Qi (wQi Q) (zB D dA vwCl wC nC b) (zA nC b)) 0 0 (zA nC b) := by
  unfold wC_Echo_fate at h
  refine Met.ofW (cc := cX0_fate) (maxL := 5) (ret := (some .int)) (by decide) rfl ?_
  intro p e s m args below meth c s₁ B hml hv
  obtain ⟨hargs, hS, hK⟩ := hv
  have hx := B.exec
  have hb := B.bytes
  have hr := B.returns
  have hts := atoms_spec (ws := .code yX0_fate cX0_fate 5 (some .int) :: zt) B.pre
  have hown : s.vm.findClass RX0 = some m.cls := findClass_of_methodNamed B.named
  have hlocks := B.notSynchronized
  have hS0 : va_S (zA nC b) s.heap s.heap [] := va_S.rf
  have hl := lv_entry ([.ref (b + 78), .ref (b + 32)]) (n := 5) (Nat.le_of_ble_eq_true rfl)
  have hent : entryFrame m args 5 = F0 m 0 ((lg_sl ([.ref (b + 78), .ref (b + 32)]) ++ List.replicate (5 - (lg_sl ([.ref (b + 78), .ref (b + 32)])).length) Slot.unset).toArray) [] := by rw [hargs]; exact lg_entry_eq m ([.ref (b + 78), .ref (b + 32)]) 5
  rw [hent]
  generalize (lg_sl ([.ref (b + 78), .ref (b + 32)]) ++ List.replicate (5 - (lg_sl ([.ref (b + 78), .ref (b + 32)])).length) Slot.unset).toArray = ls at hl ⊢
  have hl : lv_has ls 5 [(0, .ref (b + 78)), (1, .ref (b + 32))] := hl
  refine lv_aload_n hx hb dX0_fate_0 rfl (lv_at hl 0 rfl) ?_
  refine lv_aload_n hx hb dX0_fate_1 rfl (lv_at hl 1 rfl) ?_
  refine z_sipush hx hb (by decide) dX0_fate_2 ?_
  refine w_callv (va_runV (As := [.ref (b + 32), .int (iI 4000)]) (rest := []) ⟨hx, hb, hml, hown, hts⟩ (cC_Echo_run l D dA b M 4000 _ h) (cwV 2 hts (z_gV k724 k700 k701 k9 k702) rfl rfl rfl dm_X0_run ⟨Nat.le_of_ble_eq_true rfl, Nat.le_of_ble_eq_true rfl⟩) ⟨wPre_blind, (w_recv hS hK.1 (by decide) (zkd_of (rfl : zcd wC 78 = 30) rfl) (by decide) (rfl : vwCl[0]? = some (RX0, TX0, 8))), w_pre hS hK⟩ rfl rfl hl.1 rfl (lv_room (Nat.le_of_ble_eq_true rfl)) dX0_fate_5 ⟨Nat.le_refl _, Nat.le_refl _⟩) hS0 (fun M1 H locs h hS hS0 => ?_)
  refine lv_aload_n hx hb dX0_fate_8 rfl (lv_at hl 0 rfl) ?_
  refine w_calli (va_runV (As := []) (rest := []) ⟨hx, hb, hml, hown, hts⟩ (cC_Echo_firstSilence l D dA b M1  _ h) (cwV 0 hts (z_gV k725 k726 k1378 k9 k727) rfl rfl rfl dm_X0_firstSilence ⟨Nat.le_of_ble_eq_true rfl, Nat.le_of_ble_eq_true rfl⟩) ⟨wPre_blind, (w_recv hS hK.1 (by decide) (zkd_of (rfl : zcd wC 78 = 30) rfl) (by decide) (rfl : vwCl[0]? = some (RX0, TX0, 8))), w_pre hS hK⟩ rfl rfl hl.1 rfl (lv_room (Nat.le_of_ble_eq_true rfl)) dX0_fate_9 ⟨Nat.le_refl _, Nat.le_refl _⟩) hS0 (fun z3 M2 H locs r4 h hS hS0 => ?_)
  obtain ⟨e5, h⟩ := h
  rw [e5] at hS
  refine lv_istore_n (lv' := [(2, .int (iI z3)), (0, .ref (b + 78)), (1, .ref (b + 32))]) hx hb dX0_fate_12 rfl hl (by decide) rfl (fun ls hl => ?_)
  refine lv_iload_n hx hb dX0_fate_13 rfl (lv_at hl 0 rfl) ?_
  refine z_iconst hx hb dX0_fate_14 ?_
  refine w_icmp_eq (tgt := 20) hx hb (sI_of r4) (sI_of (by decide)) dX0_fate_15 (by decide) (fun c6 => ?_) (fun c6 => ?_)
  · skip
    have h := h.1 c6
    refine lv_aload_n hx hb dX0_fate_20 rfl (lv_at hl 1 rfl) ?_
    refine w_calli (va_runV (As := []) (rest := []) ⟨hx, hb, hml, hown, hts⟩ (cC_Echo_comesBackIn l D dA b M1  _ h) (cwV 0 hts (z_gV k728 k729 k1379 k9 k730) rfl rfl rfl dm_X0_comesBackIn ⟨Nat.le_of_ble_eq_true rfl, Nat.le_of_ble_eq_true rfl⟩) ⟨wPre_blind, (w_recv hS hK.1 (by decide) (zkd_of (rfl : zcd wC 78 = 30) rfl) (by decide) (rfl : vwCl[0]? = some (RX0, TX0, 8))), w_pre hS hK⟩ rfl rfl hl.1 rfl (lv_room (Nat.le_of_ble_eq_true rfl)) dX0_fate_21 ⟨Nat.le_refl _, Nat.le_refl _⟩) hS0 (fun z8 M7 H locs r9 h hS hS0 => ?_)
    obtain ⟨e10, h⟩ := h
    rw [e10] at hS
    refine lv_istore_n (lv' := [(3, .int (iI z8)), (2, .int (iI z3)), (0, .ref (b + 78)), (1, .ref (b + 32))]) hx hb dX0_fate_24 rfl hl (by decide) rfl (fun ls hl => ?_)
    refine lv_iload_n hx hb dX0_fate_25 rfl (lv_at hl 0 rfl) ?_
    refine z_iconst hx hb dX0_fate_26 ?_
    refine w_icmp_ne (tgt := 33) hx hb (sI_of r9) (sI_of (by decide)) dX0_fate_27 (by decide) (fun c11 => ?_) (fun c11 => ?_)
    · skip
      have h := h.1 c11
      refine z_sipush hx hb (by decide) dX0_fate_33 ?_
      refine lv_iload_n hx hb dX0_fate_36 rfl (lv_at hl 0 rfl) ?_
      refine z_isub hx hb dX0_fate_37 ?_
      refine lv_istore (lv' := [(4, .int (iI (4000 - z8))), (3, .int (iI z8)), (2, .int (iI z3)), (0, .ref (b + 78)), (1, .ref (b + 32))]) hx hb dX0_fate_38 hl (by decide) rfl (fun ls hl => ?_)
      obtain ⟨I13, ⟨n14, h15⟩, h16⟩ := h
      have L17 : ∀ (n18 : Nat) (x12 : Int) (H : Heap) (locs : List Loc) (ls : Array Slot), I13 n18 x12 → zR D dA vwCl wC nC b M1 H → va_S (zA nC b) s.heap H locs → lv_has ls 5 [(0, .ref (b + 78)), (3, .int (iI z8)), (4, .int (iI x12))] → W p l e (headSpec (.code yX0_fate cX0_fate 5 (some .int) :: zt) (z_rm 5)).room s m args below meth c H locs 0 0 (MQ below (va_Qi (wQi Q) (zB D dA vwCl wC nC b) (zA nC b)) args s 0 0 (zA nC b)) (F0 m 40 ls []) := by
        intro n18
        induction n18 using Nat.strongRecOn with
        | ind n18 i19 =>
          intro x12 H locs ls h hS hS0 hl
          have h := h16 n18 x12 h
          refine lv_iload hx hb dX0_fate_40 (lv_at hl 2 rfl) ?_
          refine lv_aload_n hx hb dX0_fate_42 rfl (lv_at hl 0 rfl) ?_
          refine w_geti hx hb hts (z_memU u0) hown hK.1 hS f0_0 (by decide) (zkd_of (rfl : zcd wC 78 = 30) rfl) (Or.inl (hts _ (z_mem k172))) dX0_fate_43 ?_
          obtain ⟨J76, B33, h⟩ := h
          have L32 : ∀ (H : Heap) (locs : List Loc) (ls : Array Slot), J76 → zR D dA vwCl wC nC b M1 H → va_S (zA nC b) s.heap H locs → lv_has ls 5 [(0, .ref (b + 78)), (3, .int (iI z8)), (4, .int (iI x12))] → W p l e (headSpec (.code yX0_fate cX0_fate 5 (some .int) :: zt) (z_rm 5)).room s m args below meth c H locs 0 0 (MQ below (va_Qi (wQi Q) (zB D dA vwCl wC nC b) (zA nC b)) args s 0 0 (zA nC b)) (F0 m 76 ls []) := by
            intro  H locs ls h hS hS0 hl
            have h := B33 h
            refine lv_aload_n hx hb dX0_fate_76 rfl (lv_at hl 0 rfl) ?_
            refine w_getr (j2 := 79) hx hb hts (z_memU u0) hown hK.1 hS f0_1 (by decide) (zkd_of (rfl : zcd wC 78 = 30) rfl) (zrf_of (rfl : zcd wC 78 = 30) rfl) (Or.inl (hts _ (z_mem k174))) dX0_fate_77 ?_
            refine z_iconst hx hb dX0_fate_80 ?_
            refine lv_iload hx hb dX0_fate_81 (lv_at hl 2 rfl) ?_
            refine w_iast (z := x12) (n := 2) (i := 0) hx hb hK.1 (t0 := 0) rfl hS hS0 (by decide) (zkd_of (rfl : zcd wC 79 = 31) rfl) (zln_of (rfl : zcd wC 79 = 31) rfl) (sI_of (by decide)) (by decide) (by decide) (by decide) dX0_fate_83 (fun H locs hS hS0 => ?_)
            rw [show ((0 : Int).toNat) = 0 from rfl] at hS
            obtain ⟨M34, e35⟩ : ∃ M34 : zM, M34 = zup M1 79 0 x12 := ⟨_, rfl⟩
            rw [← e35] at hS
            have h := h M34 e35
            refine lv_aload_n hx hb dX0_fate_84 rfl (lv_at hl 0 rfl) ?_
            refine w_getr (j2 := 79) hx hb hts (z_memU u0) hown hK.1 hS f0_1 (by decide) (zkd_of (rfl : zcd wC 78 = 30) rfl) (zrf_of (rfl : zcd wC 78 = 30) rfl) (Or.inl (hts _ (z_mem k174))) dX0_fate_85 ?_
            refine z_iconst hx hb dX0_fate_88 ?_
            refine lv_iload_n hx hb dX0_fate_89 rfl (lv_at hl 1 rfl) ?_
            refine w_iast (z := z8) (n := 2) (i := 1) hx hb hK.1 (t0 := 0) rfl hS hS0 (by decide) (zkd_of (rfl : zcd wC 79 = 31) rfl) (zln_of (rfl : zcd wC 79 = 31) rfl) (sI_of (by decide)) (by decide) (by decide) (by decide) dX0_fate_90 (fun H locs hS hS0 => ?_)
            rw [show ((1 : Int).toNat) = 1 from rfl] at hS
            obtain ⟨M36, e37⟩ : ∃ M36 : zM, M36 = zup M34 79 1 z8 := ⟨_, rfl⟩
            rw [← e37] at hS
            have h := h M36 e37
            refine z_bipush hx hb (by decide) dX0_fate_91 ?_
            exact w_iret hx hb hr hlocks hS hS0 (sI_of (by decide)) h dX0_fate_93
          refine w_icmp_le (tgt := 76) hx hb rfl rfl dX0_fate_46 (by decide) (fun c38 => ?_) (fun c38 => ?_)
          · skip
            have h := h.1 c38
            exact L32 _ _ _ h hS hS0 (lv_sub hl [0, 1, 2] rfl)
          · skip
            have h := h.2 c38
            refine lv_aload_n hx hb dX0_fate_49 rfl (lv_at hl 0 rfl) ?_
            refine lv_iload hx hb dX0_fate_50 (lv_at hl 2 rfl) ?_
            refine z_iconst hx hb dX0_fate_52 ?_
            refine z_isub hx hb dX0_fate_53 ?_
            refine w_calli (va_runV (As := [.int (iI (x12 - 1))]) (rest := []) ⟨hx, hb, hml, hown, hts⟩ (cC_Echo_outAt l D dA b M1 (x12 - 1) _ h) (cwV 1 hts (z_gV k710 k711 k712 k9 k713) rfl rfl rfl dm_X0_outAt ⟨Nat.le_of_ble_eq_true rfl, Nat.le_of_ble_eq_true rfl⟩) ⟨wPre_blind, (w_recv hS hK.1 (by decide) (zkd_of (rfl : zcd wC 78 = 30) rfl) (by decide) (rfl : vwCl[0]? = some (RX0, TX0, 8))), w_pre hS hK⟩ rfl rfl hl.1 rfl (lv_room (Nat.le_of_ble_eq_true rfl)) dX0_fate_54 ⟨Nat.le_refl _, Nat.le_refl _⟩) hS0 (fun z40 M39 H locs r41 h hS hS0 => ?_)
            obtain ⟨e42, h⟩ := h
            rw [e42] at hS
            refine lv_aload_n hx hb dX0_fate_57 rfl (lv_at hl 0 rfl) ?_
            refine lv_iload hx hb dX0_fate_58 (lv_at hl 2 rfl) ?_
            refine z_iconst hx hb dX0_fate_60 ?_
            refine z_isub hx hb dX0_fate_61 ?_
            refine lv_iload_n hx hb dX0_fate_62 rfl (lv_at hl 1 rfl) ?_
            refine z_iadd hx hb dX0_fate_63 ?_
            refine w_calli (va_runV (As := [.int (iI ((x12 - 1) + z8))]) (rest := [.int (iI z40)]) ⟨hx, hb, hml, hown, hts⟩ (cC_Echo_outAt l D dA b M1 ((x12 - 1) + z8) _ h) (cwV 1 hts (z_gV k710 k711 k712 k9 k713) rfl rfl rfl dm_X0_outAt ⟨Nat.le_of_ble_eq_true rfl, Nat.le_of_ble_eq_true rfl⟩) ⟨wPre_blind, (w_recv hS hK.1 (by decide) (zkd_of (rfl : zcd wC 78 = 30) rfl) (by decide) (rfl : vwCl[0]? = some (RX0, TX0, 8))), w_pre hS hK⟩ rfl rfl hl.1 rfl (lv_room (Nat.le_of_ble_eq_true rfl)) dX0_fate_64 ⟨Nat.le_refl _, Nat.le_refl _⟩) hS0 (fun z44 M43 H locs r45 h hS hS0 => ?_)
            obtain ⟨e46, h⟩ := h
            rw [e46] at hS
            refine w_icmp_ne (tgt := 76) hx hb (sI_of r41) (sI_of r45) dX0_fate_67 (by decide) (fun c47 => ?_) (fun c47 => ?_)
            · skip
              have h := h.1 c47
              exact L32 _ _ _ h hS hS0 (lv_sub hl [0, 1, 2] rfl)
            · skip
              have h := h.2 c47
              refine z_iinc (lv' := [(4, .int (iI (x12 + (-1)))), (0, .ref (b + 78)), (3, .int (iI z8))]) hx hb dX0_fate_70 hl (k := 2) rfl (by decide) rfl (fun ls hl => ?_)
              refine lv_goto (tgt := 40) hx hb dX0_fate_73 (by decide) ?_
              obtain ⟨n48, h49, h⟩ := h
              exact i19 n48 h49 (x12 + (-1)) _ _ _ h hS hS0 (lv_sub hl [1, 2, 0] rfl)
      exact L17 n14 (4000 - z8) _ _ _ h15 hS hS0 (lv_sub hl [3, 1, 0] rfl)
    · skip
      have h := h.2 c11
      refine z_bipush hx hb (by decide) dX0_fate_30 ?_
      exact w_iret hx hb hr hlocks hS hS0 (sI_of (by decide)) h dX0_fate_32
  · skip
    have h := h.2 c6
    refine lv_iload_n hx hb dX0_fate_18 rfl (lv_at hl 0 rfl) ?_
    exact w_iret hx hb hr hlocks hS hS0 (sI_of r4) h dX0_fate_19

set_option maxRecDepth 100000 in
def wC_dies  (M : zM) (Q : Int → zM → Prop) : Prop := wC_Echo_fate  M (fun z2 M1 => (z2 ≠ (-2) → Q z2 M1) ∧ (z2 = (-2) → wC_tell 79 2 M1 (fun M5 => Q z2 M5)))
set_option maxHeartbeats 4000000 in
set_option maxRecDepth 100000 in
theorem cC_dies (l : Launch) (D : va_G) (dA : Nat → ClassId) (b : Nat) (M : zM)   (Q : Int → zM → Prop) (h : wC_dies  M Q) : Met l yX11_dies (.code yX11_dies cX11_dies 2 (some .int) :: zt) (z_rm 6) (va_Pc [.ref (b + 0)] (wPre D dA vwCl (z_tys dA) wC nC b M)) (va_Qi (wQi Q) (zB D dA vwCl wC nC b) (zA nC b)) 0 0 (zA nC b) := by
  unfold wC_dies at h
  refine Met.ofW (cc := cX11_dies) (maxL := 2) (ret := (some .int)) (by decide) rfl ?_
  intro p e s m args below meth c s₁ B hml hv
  obtain ⟨hargs, hS, hK⟩ := hv
  have hx := B.exec
  have hb := B.bytes
  have hr := B.returns
  have hts := atoms_spec (ws := .code yX11_dies cX11_dies 2 (some .int) :: zt) B.pre
  have hown : s.vm.findClass RX11 = some m.cls := findClass_of_methodNamed B.named
  have hlocks := B.notSynchronized
  have hS0 : va_S (zA nC b) s.heap s.heap [] := va_S.rf
  have hl := lv_entry ([.ref (b + 0)]) (n := 2) (Nat.le_of_ble_eq_true rfl)
  have hent : entryFrame m args 2 = F0 m 0 ((lg_sl ([.ref (b + 0)]) ++ List.replicate (2 - (lg_sl ([.ref (b + 0)])).length) Slot.unset).toArray) [] := by rw [hargs]; exact lg_entry_eq m ([.ref (b + 0)]) 2
  rw [hent]
  generalize (lg_sl ([.ref (b + 0)]) ++ List.replicate (2 - (lg_sl ([.ref (b + 0)])).length) Slot.unset).toArray = ls at hl ⊢
  have hl : lv_has ls 2 [(0, .ref (b + 0))] := hl
  refine lv_aload_n hx hb dX11_dies_0 rfl (lv_at hl 0 rfl) ?_
  refine w_getr (j2 := 78) hx hb hts (z_memU u11) hown hK.1 hS f11_5 (by decide) (zkd_of (rfl : zcd wC 0 = 0) rfl) (zrf_of (rfl : zcd wC 0 = 0) rfl) (Or.inl (hts _ (z_mem k247))) dX11_dies_1 ?_
  refine lv_aload_n hx hb dX11_dies_4 rfl (lv_at hl 0 rfl) ?_
  refine w_getr (j2 := 32) hx hb hts (z_memU u11) hown hK.1 hS f11_2 (by decide) (zkd_of (rfl : zcd wC 0 = 0) rfl) (zrf_of (rfl : zcd wC 0 = 0) rfl) (Or.inl (hts _ (z_mem k244))) dX11_dies_5 ?_
  refine w_calli (va_runV (As := [.ref (b + 32)]) (rest := []) ⟨hx, hb, hml, hown, hts⟩ (cC_Echo_fate l D dA b M  _ h) (cwV 1 hts (z_gV k720 k721 k722 k9 k723) rfl rfl rfl dm_X0_fate ⟨Nat.le_of_ble_eq_true rfl, Nat.le_of_ble_eq_true rfl⟩) ⟨wPre_blind, (w_recv hS hK.1 (by decide) (zkd_of (rfl : zcd wC 78 = 30) rfl) (by decide) (rfl : vwCl[0]? = some (RX0, TX0, 8))), w_pre hS hK⟩ rfl rfl hl.1 rfl (lv_room (Nat.le_of_ble_eq_true rfl)) dX11_dies_8 ⟨Nat.le_refl _, Nat.le_refl _⟩) hS0 (fun z2 M1 H locs r3 h hS hS0 => ?_)
  refine lv_istore_n (lv' := [(1, .int (iI z2)), (0, .ref (b + 0))]) hx hb dX11_dies_11 rfl hl (by decide) rfl (fun ls hl => ?_)
  refine lv_iload_n hx hb dX11_dies_12 rfl (lv_at hl 0 rfl) ?_
  refine z_bipush hx hb (by decide) dX11_dies_13 ?_
  refine w_icmp_ne (tgt := 30) hx hb (sI_of r3) (sI_of (by decide)) dX11_dies_15 (by decide) (fun c4 => ?_) (fun c4 => ?_)
  · skip
    have h := h.1 c4
    refine lv_iload_n hx hb dX11_dies_30 rfl (lv_at hl 0 rfl) ?_
    exact w_iret hx hb hr hlocks hS hS0 (sI_of r3) h dX11_dies_31
  · skip
    have h := h.2 c4
    refine lv_aload_n hx hb dX11_dies_18 rfl (lv_at hl 1 rfl) ?_
    refine lv_aload_n hx hb dX11_dies_19 rfl (lv_at hl 1 rfl) ?_
    refine w_getr (j2 := 78) hx hb hts (z_memU u11) hown hK.1 hS f11_5 (by decide) (zkd_of (rfl : zcd wC 0 = 0) rfl) (zrf_of (rfl : zcd wC 0 = 0) rfl) (Or.inl (hts _ (z_mem k247))) dX11_dies_20 ?_
    refine w_getr (j2 := 79) hx hb hts (z_memU u0) hown hK.1 hS f0_1 (by decide) (zkd_of (rfl : zcd wC 78 = 30) rfl) (zrf_of (rfl : zcd wC 78 = 30) rfl) (Or.inl (hts _ (z_mem k175))) dX11_dies_23 ?_
    refine z_iconst hx hb dX11_dies_26 ?_
    refine w_callv (va_runV (As := [.ref (b + 79), .int (iI 2)]) (rest := []) ⟨hx, hb, hml, hown, hts⟩ (cC_tell l D dA b M1 79 2 (by decide) (zkd_of (rfl : zcd wC 79 = 31) rfl) (Nat.lt_of_le_of_lt (Nat.le_of_eq (zln_of (rfl : zcd wC 79 = 31) rfl)) (by decide)) _ h) (cwV 2 hts (z_gV k653 k654 k1375 k1 k655) rfl rfl rfl dm_X11_tell ⟨Nat.le_of_ble_eq_true rfl, Nat.le_of_ble_eq_true rfl⟩) ⟨wPre_blind, (w_recv hS hK.1 (by decide) (zkd_of (rfl : zcd wC 0 = 0) rfl) (by decide) (rfl : vwCl[11]? = some (RX11, TX11, 11))), w_pre hS hK⟩ rfl rfl hl.1 rfl (lv_room (Nat.le_of_ble_eq_true rfl)) dX11_dies_27 ⟨Nat.le_refl _, Nat.le_refl _⟩) hS0 (fun M5 H locs h hS hS0 => ?_)
    refine lv_iload_n hx hb dX11_dies_30 rfl (lv_at hl 0 rfl) ?_
    exact w_iret hx hb hr hlocks hS hS0 (sI_of r3) h dX11_dies_31

set_option maxRecDepth 100000 in
def wC_OldTape_add (a0 : Int) (M : zM) (Q : Int → zM → Prop) : Prop := ((sI (M 82 1)) < 60 → ((0 ≤ (sI (M 82 1)) ∧ (sI (M 82 1)) < 60) ∧ (∀ M3 : zM, M3 = zup M 83 (sI (M 82 1)).toNat a0 → (∀ M5 : zM, M5 = zup M3 82 1 ((M3 82 1) + 1) → Q (sI (M5 82 1)) M5)))) ∧ (60 ≤ (sI (M 82 1)) → Q (-1) M)
set_option maxHeartbeats 4000000 in
set_option maxRecDepth 100000 in
theorem cC_OldTape_add (l : Launch) (D : va_G) (dA : Nat → ClassId) (b : Nat) (M : zM) (a0 : Int)  (Q : Int → zM → Prop) (h : wC_OldTape_add a0 M Q) : Met l yX3_add (.code yX3_add cX3_add 2 (some .int) :: zt) (z_rm 0) (va_Pc [.ref (b + 82), .int (iI a0)] (wPre D dA vwCl (z_tys dA) wC nC b M)) (va_Qi (wQi Q) (zB D dA vwCl wC nC b) (zA nC b)) 0 0 (zA nC b) := by
  unfold wC_OldTape_add at h
  refine Met.ofW (cc := cX3_add) (maxL := 2) (ret := (some .int)) (by decide) rfl ?_
  intro p e s m args below meth c s₁ B hml hv
  obtain ⟨hargs, hS, hK⟩ := hv
  have hx := B.exec
  have hb := B.bytes
  have hr := B.returns
  have hts := atoms_spec (ws := .code yX3_add cX3_add 2 (some .int) :: zt) B.pre
  have hown : s.vm.findClass RX3 = some m.cls := findClass_of_methodNamed B.named
  have hlocks := B.notSynchronized
  have hS0 : va_S (zA nC b) s.heap s.heap [] := va_S.rf
  have hl := lv_entry ([.ref (b + 82), .int (iI a0)]) (n := 2) (Nat.le_of_ble_eq_true rfl)
  have hent : entryFrame m args 2 = F0 m 0 ((lg_sl ([.ref (b + 82), .int (iI a0)]) ++ List.replicate (2 - (lg_sl ([.ref (b + 82), .int (iI a0)])).length) Slot.unset).toArray) [] := by rw [hargs]; exact lg_entry_eq m ([.ref (b + 82), .int (iI a0)]) 2
  rw [hent]
  generalize (lg_sl ([.ref (b + 82), .int (iI a0)]) ++ List.replicate (2 - (lg_sl ([.ref (b + 82), .int (iI a0)])).length) Slot.unset).toArray = ls at hl ⊢
  have hl : lv_has ls 2 [(0, .ref (b + 82)), (1, .int (iI a0))] := hl
  refine lv_aload_n hx hb dX3_add_0 rfl (lv_at hl 0 rfl) ?_
  refine w_geti hx hb hts (z_memU u3) hown hK.1 hS f3_1 (by decide) (zkd_of (rfl : zcd wC 82 = 34) rfl) (Or.inl (hts _ (z_mem k196))) dX3_add_1 ?_
  refine z_bipush hx hb (by decide) dX3_add_4 ?_
  refine w_icmp_lt (tgt := 11) hx hb rfl (sI_of (by decide)) dX3_add_6 (by decide) (fun c1 => ?_) (fun c1 => ?_)
  · skip
    have h := h.1 c1
    refine lv_aload_n hx hb dX3_add_11 rfl (lv_at hl 0 rfl) ?_
    refine w_getr (j2 := 83) hx hb hts (z_memU u3) hown hK.1 hS f3_0 (by decide) (zkd_of (rfl : zcd wC 82 = 34) rfl) (zrf_of (rfl : zcd wC 82 = 34) rfl) (Or.inl (hts _ (z_mem k195))) dX3_add_12 ?_
    refine lv_aload_n hx hb dX3_add_15 rfl (lv_at hl 0 rfl) ?_
    refine w_geti hx hb hts (z_memU u3) hown hK.1 hS f3_1 (by decide) (zkd_of (rfl : zcd wC 82 = 34) rfl) (Or.inl (hts _ (z_mem k196))) dX3_add_16 ?_
    refine lv_iload_n hx hb dX3_add_19 rfl (lv_at hl 1 rfl) ?_
    obtain ⟨o2, h⟩ := h
    refine w_iast (z := a0) (n := 60) (i := (sI (M 82 1))) hx hb hK.1 (t0 := 0) rfl hS hS0 (by decide) (zkd_of (rfl : zcd wC 83 = 35) rfl) (zln_of (rfl : zcd wC 83 = 35) rfl) rfl o2.1 o2.2 (by decide) dX3_add_20 (fun H locs hS hS0 => ?_)
    obtain ⟨M3, e4⟩ : ∃ M3 : zM, M3 = zup M 83 (sI (M 82 1)).toNat a0 := ⟨_, rfl⟩
    rw [← e4] at hS
    have h := h M3 e4
    refine lv_aload_n hx hb dX3_add_21 rfl (lv_at hl 0 rfl) ?_
    refine lv_dup hx hb dX3_add_22 rfl ?_
    refine w_geti hx hb hts (z_memU u3) hown hK.1 hS f3_1 (by decide) (zkd_of (rfl : zcd wC 82 = 34) rfl) (Or.inl (hts _ (z_mem k196))) dX3_add_23 ?_
    refine z_iconst hx hb dX3_add_26 ?_
    refine z_iadd hx hb dX3_add_27 ?_
    refine w_puti hx hb hts (z_memU u3) tyX3 tyX3_ok nmX3 hown hK.1 hS hS0 f3_1 (by decide) (zkd_of (rfl : zcd wC 82 = 34) rfl) (Or.inl (hts _ (z_mem k196))) rfl (z := ((M3 82 1) + 1)) (by decide +kernel) dX3_add_28 (fun H locs hS hS0 => ?_)
    obtain ⟨M5, e6⟩ : ∃ M5 : zM, M5 = zup M3 82 1 ((M3 82 1) + 1) := ⟨_, rfl⟩
    rw [← e6] at hS
    have h := h M5 e6
    refine lv_aload_n hx hb dX3_add_31 rfl (lv_at hl 0 rfl) ?_
    refine w_geti hx hb hts (z_memU u3) hown hK.1 hS f3_1 (by decide) (zkd_of (rfl : zcd wC 82 = 34) rfl) (Or.inl (hts _ (z_mem k196))) dX3_add_32 ?_
    exact w_iret hx hb hr hlocks hS hS0 rfl h dX3_add_35
  · skip
    have h := h.2 c1
    refine z_iconst hx hb dX3_add_9 ?_
    exact w_iret hx hb hr hlocks hS hS0 (sI_of (by decide)) h dX3_add_10

set_option maxRecDepth 100000 in
def wC_tape (a0 : Int) (M : zM) (Q : Int → zM → Prop) : Prop := ((sI a0) = (-1) → wC_OldTape_add a0 M (fun z3 M2 => Q z3 M2)) ∧ ((sI a0) ≠ (-1) → wC_isSounds a0 M (fun z6 => (z6 = 0 → Q (-1) M) ∧ (z6 ≠ 0 → wC_OldTape_add a0 M (fun z11 M10 => Q z11 M10))))
set_option maxHeartbeats 4000000 in
set_option maxRecDepth 100000 in
theorem cC_tape (l : Launch) (D : va_G) (dA : Nat → ClassId) (b : Nat) (M : zM) (a0 : Int)  (Q : Int → zM → Prop) (h : wC_tape a0 M Q) : Met l yX11_tape (.code yX11_tape cX11_tape 2 (some .int) :: zt) (z_rm 1) (va_Pc [.ref (b + 0), .int (iI a0)] (wPre D dA vwCl (z_tys dA) wC nC b M)) (va_Qi (wQi Q) (zB D dA vwCl wC nC b) (zA nC b)) 0 0 (zA nC b) := by
  unfold wC_tape at h
  refine Met.ofW (cc := cX11_tape) (maxL := 2) (ret := (some .int)) (by decide) rfl ?_
  intro p e s m args below meth c s₁ B hml hv
  obtain ⟨hargs, hS, hK⟩ := hv
  have hx := B.exec
  have hb := B.bytes
  have hr := B.returns
  have hts := atoms_spec (ws := .code yX11_tape cX11_tape 2 (some .int) :: zt) B.pre
  have hown : s.vm.findClass RX11 = some m.cls := findClass_of_methodNamed B.named
  have hlocks := B.notSynchronized
  have hS0 : va_S (zA nC b) s.heap s.heap [] := va_S.rf
  have hl := lv_entry ([.ref (b + 0), .int (iI a0)]) (n := 2) (Nat.le_of_ble_eq_true rfl)
  have hent : entryFrame m args 2 = F0 m 0 ((lg_sl ([.ref (b + 0), .int (iI a0)]) ++ List.replicate (2 - (lg_sl ([.ref (b + 0), .int (iI a0)])).length) Slot.unset).toArray) [] := by rw [hargs]; exact lg_entry_eq m ([.ref (b + 0), .int (iI a0)]) 2
  rw [hent]
  generalize (lg_sl ([.ref (b + 0), .int (iI a0)]) ++ List.replicate (2 - (lg_sl ([.ref (b + 0), .int (iI a0)])).length) Slot.unset).toArray = ls at hl ⊢
  have hl : lv_has ls 2 [(0, .ref (b + 0)), (1, .int (iI a0))] := hl
  refine lv_iload_n hx hb dX11_tape_0 rfl (lv_at hl 1 rfl) ?_
  refine z_iconst hx hb dX11_tape_1 ?_
  refine w_icmp_eq (tgt := 12) hx hb rfl (sI_of (by decide)) dX11_tape_2 (by decide) (fun c1 => ?_) (fun c1 => ?_)
  · skip
    have h := h.1 c1
    refine lv_aload_n hx hb dX11_tape_12 rfl (lv_at hl 0 rfl) ?_
    refine w_getr (j2 := 82) hx hb hts (z_memU u11) hown hK.1 hS f11_6 (by decide) (zkd_of (rfl : zcd wC 0 = 0) rfl) (zrf_of (rfl : zcd wC 0 = 0) rfl) (Or.inl (hts _ (z_mem k248))) dX11_tape_13 ?_
    refine lv_iload_n hx hb dX11_tape_16 rfl (lv_at hl 1 rfl) ?_
    refine w_calli (va_runV (As := [.int (iI a0)]) (rest := []) ⟨hx, hb, hml, hown, hts⟩ (cC_OldTape_add l D dA b M a0 _ h) (cwV 1 hts (z_gV k738 k739 k740 k11 k741) rfl rfl rfl dm_X3_add ⟨Nat.le_of_ble_eq_true rfl, Nat.le_of_ble_eq_true rfl⟩) ⟨wPre_blind, (w_recv hS hK.1 (by decide) (zkd_of (rfl : zcd wC 82 = 34) rfl) (by decide) (rfl : vwCl[3]? = some (RX3, TX3, 4))), w_pre hS hK⟩ rfl rfl hl.1 rfl (lv_room (Nat.le_of_ble_eq_true rfl)) dX11_tape_17 ⟨Nat.le_refl _, Nat.le_refl _⟩) hS0 (fun z3 M2 H locs r4 h hS hS0 => ?_)
    refine lv_goto (tgt := 24) hx hb dX11_tape_20 (by decide) ?_
    exact w_iret hx hb hr hlocks hS hS0 (sI_of r4) h dX11_tape_24
  · skip
    have h := h.2 c1
    refine lv_iload_n hx hb dX11_tape_5 rfl (lv_at hl 1 rfl) ?_
    refine w_callz (va_runS (As := [.int (iI a0)]) (rest := []) ⟨hx, hb, hml, hown, hts⟩ (cC_isSounds l D dA b M a0 _ h) (va_cwS 1 hts (z_gS k553 k554 k1 k555) rfl rfl rfl dm_X11_isSounds.2 ⟨Nat.le_of_ble_eq_true rfl, Nat.le_of_ble_eq_true rfl⟩) ⟨wPre_blind, w_pre hS hK⟩ rfl rfl hl.1 rfl (lv_room (Nat.le_of_ble_eq_true rfl)) dX11_tape_6 ⟨Nat.le_refl _, Nat.le_refl _⟩) hS0 (fun z6 M5 H locs r7 h hS hS0 => ?_)
    obtain ⟨e8, h⟩ := h
    rw [e8] at hS
    refine w_if_eq (tgt := 23) hx hb (sI_01 r7) dX11_tape_9 (by decide) (fun c9 => ?_) (fun c9 => ?_)
    · skip
      have h := h.1 c9
      refine z_iconst hx hb dX11_tape_23 ?_
      exact w_iret hx hb hr hlocks hS hS0 (sI_of (by decide)) h dX11_tape_24
    · skip
      have h := h.2 c9
      refine lv_aload_n hx hb dX11_tape_12 rfl (lv_at hl 0 rfl) ?_
      refine w_getr (j2 := 82) hx hb hts (z_memU u11) hown hK.1 hS f11_6 (by decide) (zkd_of (rfl : zcd wC 0 = 0) rfl) (zrf_of (rfl : zcd wC 0 = 0) rfl) (Or.inl (hts _ (z_mem k248))) dX11_tape_13 ?_
      refine lv_iload_n hx hb dX11_tape_16 rfl (lv_at hl 1 rfl) ?_
      refine w_calli (va_runV (As := [.int (iI a0)]) (rest := []) ⟨hx, hb, hml, hown, hts⟩ (cC_OldTape_add l D dA b M a0 _ h) (cwV 1 hts (z_gV k738 k739 k740 k11 k741) rfl rfl rfl dm_X3_add ⟨Nat.le_of_ble_eq_true rfl, Nat.le_of_ble_eq_true rfl⟩) ⟨wPre_blind, (w_recv hS hK.1 (by decide) (zkd_of (rfl : zcd wC 82 = 34) rfl) (by decide) (rfl : vwCl[3]? = some (RX3, TX3, 4))), w_pre hS hK⟩ rfl rfl hl.1 rfl (lv_room (Nat.le_of_ble_eq_true rfl)) dX11_tape_17 ⟨Nat.le_refl _, Nat.le_refl _⟩) hS0 (fun z11 M10 H locs r12 h hS hS0 => ?_)
      refine lv_goto (tgt := 24) hx hb dX11_tape_20 (by decide) ?_
      exact w_iret hx hb hr hlocks hS hS0 (sI_of r12) h dX11_tape_24

set_option maxRecDepth 100000 in
def wC_take (a0 : Int) (a1 : Int) (M : zM) (Q : Int → zM → Prop) : Prop := wC_within a0 0 100000 M (fun z2 => (z2 = 0 → Q 0 M) ∧ (z2 ≠ 0 → wC_within a1 0 60 M (fun z7 => (z7 ≠ 0 → (∀ M11 : zM, M11 = zup M 82 1 0 → wL1 (fun K32 x13 M14 => ((sI a1) ≤ (sI x13) → Q 1 M14) ∧ ((sI x13) < (sI a1) → wC_Studio_heardInAll (sI (a0 + x13)) M14 (fun z24 => wC_OldTape_add z24 M14 (fun z28 M27 => K32 (x13 + 1) M27)))) 0 M11)) ∧ (z7 = 0 → Q 0 M))))
set_option maxHeartbeats 4000000 in
set_option maxRecDepth 100000 in
theorem cC_take (l : Launch) (D : va_G) (dA : Nat → ClassId) (b : Nat) (M : zM) (a0 : Int) (a1 : Int)  (Q : Int → zM → Prop) (h : wC_take a0 a1 M Q) : Met l yX11_take (.code yX11_take cX11_take 4 (some .boolean) :: zt) (z_rm 4) (va_Pc [.ref (b + 0), .int (iI a0), .int (iI a1)] (wPre D dA vwCl (z_tys dA) wC nC b M)) (va_Qi (wQz Q) (zB D dA vwCl wC nC b) (zA nC b)) 0 0 (zA nC b) := by
  unfold wC_take at h
  refine Met.ofW (cc := cX11_take) (maxL := 4) (ret := (some .boolean)) (by decide) rfl ?_
  intro p e s m args below meth c s₁ B hml hv
  obtain ⟨hargs, hS, hK⟩ := hv
  have hx := B.exec
  have hb := B.bytes
  have hr := B.returns
  have hts := atoms_spec (ws := .code yX11_take cX11_take 4 (some .boolean) :: zt) B.pre
  have hown : s.vm.findClass RX11 = some m.cls := findClass_of_methodNamed B.named
  have hlocks := B.notSynchronized
  have hS0 : va_S (zA nC b) s.heap s.heap [] := va_S.rf
  have hl := lv_entry ([.ref (b + 0), .int (iI a0), .int (iI a1)]) (n := 4) (Nat.le_of_ble_eq_true rfl)
  have hent : entryFrame m args 4 = F0 m 0 ((lg_sl ([.ref (b + 0), .int (iI a0), .int (iI a1)]) ++ List.replicate (4 - (lg_sl ([.ref (b + 0), .int (iI a0), .int (iI a1)])).length) Slot.unset).toArray) [] := by rw [hargs]; exact lg_entry_eq m ([.ref (b + 0), .int (iI a0), .int (iI a1)]) 4
  rw [hent]
  generalize (lg_sl ([.ref (b + 0), .int (iI a0), .int (iI a1)]) ++ List.replicate (4 - (lg_sl ([.ref (b + 0), .int (iI a0), .int (iI a1)])).length) Slot.unset).toArray = ls at hl ⊢
  have hl : lv_has ls 4 [(0, .ref (b + 0)), (1, .int (iI a0)), (2, .int (iI a1))] := hl
  refine lv_iload_n hx hb dX11_take_0 rfl (lv_at hl 1 rfl) ?_
  refine z_iconst hx hb dX11_take_1 ?_
  refine z_ldc (n := 100000) hx hb hown (hts _ (z_mem k600)) (by decide) dX11_take_2 ?_
  refine w_callz (va_runS (As := [.int (iI a0), .int (iI 0), .int (iI 100000)]) (rest := []) ⟨hx, hb, hml, hown, hts⟩ (cC_within l D dA b M a0 0 100000 _ h) (va_cwS 3 hts (z_gS k382 k383 k1 k384) rfl rfl rfl dm_X11_within.2 ⟨Nat.le_of_ble_eq_true rfl, Nat.le_of_ble_eq_true rfl⟩) ⟨wPre_blind, w_pre hS hK⟩ rfl rfl hl.1 rfl (lv_room (Nat.le_of_ble_eq_true rfl)) dX11_take_4 ⟨Nat.le_refl _, Nat.le_refl _⟩) hS0 (fun z2 M1 H locs r3 h hS hS0 => ?_)
  obtain ⟨e4, h⟩ := h
  rw [e4] at hS
  refine w_if_eq (tgt := 20) hx hb (sI_01 r3) dX11_take_7 (by decide) (fun c5 => ?_) (fun c5 => ?_)
  · skip
    have h := h.1 c5
    refine z_iconst hx hb dX11_take_20 ?_
    exact w_zret hx hb hr hlocks hS hS0 (sI_of (by decide)) (by decide) h dX11_take_21
  · skip
    have h := h.2 c5
    refine lv_iload_n hx hb dX11_take_10 rfl (lv_at hl 2 rfl) ?_
    refine z_iconst hx hb dX11_take_11 ?_
    refine z_bipush hx hb (by decide) dX11_take_12 ?_
    refine w_callz (va_runS (As := [.int (iI a1), .int (iI 0), .int (iI 60)]) (rest := []) ⟨hx, hb, hml, hown, hts⟩ (cC_within l D dA b M a1 0 60 _ h) (va_cwS 3 hts (z_gS k382 k383 k1 k384) rfl rfl rfl dm_X11_within.2 ⟨Nat.le_of_ble_eq_true rfl, Nat.le_of_ble_eq_true rfl⟩) ⟨wPre_blind, w_pre hS hK⟩ rfl rfl hl.1 rfl (lv_room (Nat.le_of_ble_eq_true rfl)) dX11_take_14 ⟨Nat.le_refl _, Nat.le_refl _⟩) hS0 (fun z7 M6 H locs r8 h hS hS0 => ?_)
    obtain ⟨e9, h⟩ := h
    rw [e9] at hS
    refine w_if_ne (tgt := 22) hx hb (sI_01 r8) dX11_take_17 (by decide) (fun c10 => ?_) (fun c10 => ?_)
    · skip
      have h := h.1 c10
      refine lv_aload_n hx hb dX11_take_22 rfl (lv_at hl 0 rfl) ?_
      refine w_getr (j2 := 82) hx hb hts (z_memU u11) hown hK.1 hS f11_6 (by decide) (zkd_of (rfl : zcd wC 0 = 0) rfl) (zrf_of (rfl : zcd wC 0 = 0) rfl) (Or.inl (hts _ (z_mem k248))) dX11_take_23 ?_
      refine z_iconst hx hb dX11_take_26 ?_
      refine w_puti hx hb hts (z_memU u3) tyX3 tyX3_ok nmX3 hown hK.1 hS hS0 f3_1 (by decide) (zkd_of (rfl : zcd wC 82 = 34) rfl) (Or.inl (hts _ (z_mem k197))) rfl (z := 0) (by decide +kernel) dX11_take_27 (fun H locs hS hS0 => ?_)
      obtain ⟨M11, e12⟩ : ∃ M11 : zM, M11 = zup M 82 1 0 := ⟨_, rfl⟩
      rw [← e12] at hS
      have h := h M11 e12
      refine z_iconst hx hb dX11_take_30 ?_
      refine lv_istore_n (lv' := [(3, .int (iI 0)), (0, .ref (b + 0)), (1, .int (iI a0)), (2, .int (iI a1))]) hx hb dX11_take_31 rfl hl (by decide) rfl (fun ls hl => ?_)
      obtain ⟨I15, ⟨n16, h17⟩, h18⟩ := h
      have L19 : ∀ (n20 : Nat) (x13 : Int) (M14 : zM) (H : Heap) (locs : List Loc) (ls : Array Slot), I15 n20 x13 M14 → zR D dA vwCl wC nC b M14 H → va_S (zA nC b) s.heap H locs → lv_has ls 4 [(0, .ref (b + 0)), (1, .int (iI a0)), (2, .int (iI a1)), (3, .int (iI x13))] → W p l e (headSpec (.code yX11_take cX11_take 4 (some .boolean) :: zt) (z_rm 4)).room s m args below meth c H locs 0 0 (MQ below (va_Qi (wQz Q) (zB D dA vwCl wC nC b) (zA nC b)) args s 0 0 (zA nC b)) (F0 m 32 ls []) := by
        intro n20
        induction n20 using Nat.strongRecOn with
        | ind n20 i21 =>
          intro x13 M14 H locs ls h hS hS0 hl
          have h := h18 n20 x13 M14 h
          refine lv_iload_n hx hb dX11_take_32 rfl (lv_at hl 3 rfl) ?_
          refine lv_iload_n hx hb dX11_take_33 rfl (lv_at hl 2 rfl) ?_
          refine w_icmp_ge (tgt := 62) hx hb rfl rfl dX11_take_34 (by decide) (fun c22 => ?_) (fun c22 => ?_)
          · skip
            have h := h.1 c22
            refine z_iconst hx hb dX11_take_62 ?_
            exact w_zret hx hb hr hlocks hS hS0 (sI_of (by decide)) (by decide) h dX11_take_63
          · skip
            have h := h.2 c22
            refine lv_aload_n hx hb dX11_take_37 rfl (lv_at hl 0 rfl) ?_
            refine w_getr (j2 := 82) hx hb hts (z_memU u11) hown hK.1 hS f11_6 (by decide) (zkd_of (rfl : zcd wC 0 = 0) rfl) (zrf_of (rfl : zcd wC 0 = 0) rfl) (Or.inl (hts _ (z_mem k248))) dX11_take_38 ?_
            refine lv_aload_n hx hb dX11_take_41 rfl (lv_at hl 0 rfl) ?_
            refine w_getr (j2 := 32) hx hb hts (z_memU u11) hown hK.1 hS f11_2 (by decide) (zkd_of (rfl : zcd wC 0 = 0) rfl) (zrf_of (rfl : zcd wC 0 = 0) rfl) (Or.inl (hts _ (z_mem k244))) dX11_take_42 ?_
            refine lv_iload_n hx hb dX11_take_45 rfl (lv_at hl 1 rfl) ?_
            refine lv_iload_n hx hb dX11_take_46 rfl (lv_at hl 3 rfl) ?_
            refine z_iadd hx hb dX11_take_47 ?_
            refine w_i2l hx hb rfl dX11_take_48 ?_
            refine w_calli (va_runV (As := [.long (iL (sI (a0 + x13)))]) (rest := [.ref (b + 82)]) ⟨hx, hb, hml, hown, hts⟩ (cC_Studio_heardInAll l D dA b M14 (sI (a0 + x13)) _ h) (cwV 1 hts (z_gV k474 k475 k476 k4 k477) rfl rfl rfl dm_X9_heardInAll ⟨Nat.le_of_ble_eq_true rfl, Nat.le_of_ble_eq_true rfl⟩) ⟨wPre_blind, (w_recv hS hK.1 (by decide) (zkd_of (rfl : zcd wC 32 = 8) rfl) (by decide) (rfl : vwCl[9]? = some (RX9, TX9, 3))), w_pre hS hK⟩ rfl rfl hl.1 rfl (lv_room (Nat.le_of_ble_eq_true rfl)) dX11_take_49 ⟨Nat.le_refl _, Nat.le_refl _⟩) hS0 (fun z24 M23 H locs r25 h hS hS0 => ?_)
            obtain ⟨e26, h⟩ := h
            rw [e26] at hS
            refine w_calli (va_runV (As := [.int (iI z24)]) (rest := []) ⟨hx, hb, hml, hown, hts⟩ (cC_OldTape_add l D dA b M14 z24 _ h) (cwV 1 hts (z_gV k738 k739 k740 k11 k741) rfl rfl rfl dm_X3_add ⟨Nat.le_of_ble_eq_true rfl, Nat.le_of_ble_eq_true rfl⟩) ⟨wPre_blind, (w_recv hS hK.1 (by decide) (zkd_of (rfl : zcd wC 82 = 34) rfl) (by decide) (rfl : vwCl[3]? = some (RX3, TX3, 4))), w_pre hS hK⟩ rfl rfl hl.1 rfl (lv_room (Nat.le_of_ble_eq_true rfl)) dX11_take_52 ⟨Nat.le_refl _, Nat.le_refl _⟩) hS0 (fun z28 M27 H locs r29 h hS hS0 => ?_)
            refine lv_pop hx hb dX11_take_55 rfl ?_
            refine z_iinc (lv' := [(3, .int (iI (x13 + 1))), (0, .ref (b + 0)), (1, .int (iI a0)), (2, .int (iI a1))]) hx hb dX11_take_56 hl (k := 3) rfl (by decide) rfl (fun ls hl => ?_)
            refine lv_goto (tgt := 32) hx hb dX11_take_59 (by decide) ?_
            obtain ⟨n30, h31, h⟩ := h
            exact i21 n30 h31 (x13 + 1) M27 _ _ _ h hS hS0 (lv_sub hl [1, 2, 3, 0] rfl)
      exact L19 n16 0 M11 _ _ _ h17 hS hS0 (lv_sub hl [1, 2, 3, 0] rfl)
    · skip
      have h := h.2 c10
      refine z_iconst hx hb dX11_take_20 ?_
      exact w_zret hx hb hr hlocks hS hS0 (sI_of (by decide)) (by decide) h dX11_take_21

set_option maxRecDepth 100000 in
def wC_OldTape_makeGap (a0 : Int) (M : zM) (Q : Int → zM → Prop) : Prop := ((sI a0) < 0 → Q 0 M) ∧ (0 ≤ (sI a0) → ((sI a0) < (sI (M 82 1)) → ((0 ≤ (sI a0) ∧ (sI a0) < 60) ∧ (∀ M4 : zM, M4 = zup M 83 (sI a0).toNat (-1) → Q 1 M4))) ∧ ((sI (M 82 1)) ≤ (sI a0) → Q 0 M))
set_option maxHeartbeats 4000000 in
set_option maxRecDepth 100000 in
theorem cC_OldTape_makeGap (l : Launch) (D : va_G) (dA : Nat → ClassId) (b : Nat) (M : zM) (a0 : Int)  (Q : Int → zM → Prop) (h : wC_OldTape_makeGap a0 M Q) : Met l yX3_makeGap (.code yX3_makeGap cX3_makeGap 2 (some .boolean) :: zt) (z_rm 0) (va_Pc [.ref (b + 82), .int (iI a0)] (wPre D dA vwCl (z_tys dA) wC nC b M)) (va_Qi (wQz Q) (zB D dA vwCl wC nC b) (zA nC b)) 0 0 (zA nC b) := by
  unfold wC_OldTape_makeGap at h
  refine Met.ofW (cc := cX3_makeGap) (maxL := 2) (ret := (some .boolean)) (by decide) rfl ?_
  intro p e s m args below meth c s₁ B hml hv
  obtain ⟨hargs, hS, hK⟩ := hv
  have hx := B.exec
  have hb := B.bytes
  have hr := B.returns
  have hts := atoms_spec (ws := .code yX3_makeGap cX3_makeGap 2 (some .boolean) :: zt) B.pre
  have hown : s.vm.findClass RX3 = some m.cls := findClass_of_methodNamed B.named
  have hlocks := B.notSynchronized
  have hS0 : va_S (zA nC b) s.heap s.heap [] := va_S.rf
  have hl := lv_entry ([.ref (b + 82), .int (iI a0)]) (n := 2) (Nat.le_of_ble_eq_true rfl)
  have hent : entryFrame m args 2 = F0 m 0 ((lg_sl ([.ref (b + 82), .int (iI a0)]) ++ List.replicate (2 - (lg_sl ([.ref (b + 82), .int (iI a0)])).length) Slot.unset).toArray) [] := by rw [hargs]; exact lg_entry_eq m ([.ref (b + 82), .int (iI a0)]) 2
  rw [hent]
  generalize (lg_sl ([.ref (b + 82), .int (iI a0)]) ++ List.replicate (2 - (lg_sl ([.ref (b + 82), .int (iI a0)])).length) Slot.unset).toArray = ls at hl ⊢
  have hl : lv_has ls 2 [(0, .ref (b + 82)), (1, .int (iI a0))] := hl
  refine lv_iload_n hx hb dX3_makeGap_0 rfl (lv_at hl 1 rfl) ?_
  refine w_if_lt (tgt := 12) hx hb rfl dX3_makeGap_1 (by decide) (fun c1 => ?_) (fun c1 => ?_)
  · skip
    have h := h.1 c1
    refine z_iconst hx hb dX3_makeGap_12 ?_
    exact w_zret hx hb hr hlocks hS hS0 (sI_of (by decide)) (by decide) h dX3_makeGap_13
  · skip
    have h := h.2 c1
    refine lv_iload_n hx hb dX3_makeGap_4 rfl (lv_at hl 1 rfl) ?_
    refine lv_aload_n hx hb dX3_makeGap_5 rfl (lv_at hl 0 rfl) ?_
    refine w_geti hx hb hts (z_memU u3) hown hK.1 hS f3_1 (by decide) (zkd_of (rfl : zcd wC 82 = 34) rfl) (Or.inl (hts _ (z_mem k196))) dX3_makeGap_6 ?_
    refine w_icmp_lt (tgt := 14) hx hb rfl rfl dX3_makeGap_9 (by decide) (fun c2 => ?_) (fun c2 => ?_)
    · skip
      have h := h.1 c2
      refine lv_aload_n hx hb dX3_makeGap_14 rfl (lv_at hl 0 rfl) ?_
      refine w_getr (j2 := 83) hx hb hts (z_memU u3) hown hK.1 hS f3_0 (by decide) (zkd_of (rfl : zcd wC 82 = 34) rfl) (zrf_of (rfl : zcd wC 82 = 34) rfl) (Or.inl (hts _ (z_mem k195))) dX3_makeGap_15 ?_
      refine lv_iload_n hx hb dX3_makeGap_18 rfl (lv_at hl 1 rfl) ?_
      refine z_iconst hx hb dX3_makeGap_19 ?_
      obtain ⟨o3, h⟩ := h
      refine w_iast (z := (-1)) (n := 60) (i := (sI a0)) hx hb hK.1 (t0 := 0) rfl hS hS0 (by decide) (zkd_of (rfl : zcd wC 83 = 35) rfl) (zln_of (rfl : zcd wC 83 = 35) rfl) rfl o3.1 o3.2 (by decide) dX3_makeGap_20 (fun H locs hS hS0 => ?_)
      obtain ⟨M4, e5⟩ : ∃ M4 : zM, M4 = zup M 83 (sI a0).toNat (-1) := ⟨_, rfl⟩
      rw [← e5] at hS
      have h := h M4 e5
      refine z_iconst hx hb dX3_makeGap_21 ?_
      exact w_zret hx hb hr hlocks hS hS0 (sI_of (by decide)) (by decide) h dX3_makeGap_22
    · skip
      have h := h.2 c2
      refine z_iconst hx hb dX3_makeGap_12 ?_
      exact w_zret hx hb hr hlocks hS hS0 (sI_of (by decide)) (by decide) h dX3_makeGap_13

set_option maxRecDepth 100000 in
def wC_gap (a0 : Int) (M : zM) (Q : Int → zM → Prop) : Prop := wC_OldTape_makeGap a0 M (fun z2 M1 => Q z2 M1)
set_option maxHeartbeats 4000000 in
set_option maxRecDepth 100000 in
theorem cC_gap (l : Launch) (D : va_G) (dA : Nat → ClassId) (b : Nat) (M : zM) (a0 : Int)  (Q : Int → zM → Prop) (h : wC_gap a0 M Q) : Met l yX11_gap (.code yX11_gap cX11_gap 2 (some .boolean) :: zt) (z_rm 1) (va_Pc [.ref (b + 0), .int (iI a0)] (wPre D dA vwCl (z_tys dA) wC nC b M)) (va_Qi (wQz Q) (zB D dA vwCl wC nC b) (zA nC b)) 0 0 (zA nC b) := by
  unfold wC_gap at h
  refine Met.ofW (cc := cX11_gap) (maxL := 2) (ret := (some .boolean)) (by decide) rfl ?_
  intro p e s m args below meth c s₁ B hml hv
  obtain ⟨hargs, hS, hK⟩ := hv
  have hx := B.exec
  have hb := B.bytes
  have hr := B.returns
  have hts := atoms_spec (ws := .code yX11_gap cX11_gap 2 (some .boolean) :: zt) B.pre
  have hown : s.vm.findClass RX11 = some m.cls := findClass_of_methodNamed B.named
  have hlocks := B.notSynchronized
  have hS0 : va_S (zA nC b) s.heap s.heap [] := va_S.rf
  have hl := lv_entry ([.ref (b + 0), .int (iI a0)]) (n := 2) (Nat.le_of_ble_eq_true rfl)
  have hent : entryFrame m args 2 = F0 m 0 ((lg_sl ([.ref (b + 0), .int (iI a0)]) ++ List.replicate (2 - (lg_sl ([.ref (b + 0), .int (iI a0)])).length) Slot.unset).toArray) [] := by rw [hargs]; exact lg_entry_eq m ([.ref (b + 0), .int (iI a0)]) 2
  rw [hent]
  generalize (lg_sl ([.ref (b + 0), .int (iI a0)]) ++ List.replicate (2 - (lg_sl ([.ref (b + 0), .int (iI a0)])).length) Slot.unset).toArray = ls at hl ⊢
  have hl : lv_has ls 2 [(0, .ref (b + 0)), (1, .int (iI a0))] := hl
  refine lv_aload_n hx hb dX11_gap_0 rfl (lv_at hl 0 rfl) ?_
  refine w_getr (j2 := 82) hx hb hts (z_memU u11) hown hK.1 hS f11_6 (by decide) (zkd_of (rfl : zcd wC 0 = 0) rfl) (zrf_of (rfl : zcd wC 0 = 0) rfl) (Or.inl (hts _ (z_mem k248))) dX11_gap_1 ?_
  refine lv_iload_n hx hb dX11_gap_4 rfl (lv_at hl 1 rfl) ?_
  refine w_callz (va_runV (As := [.int (iI a0)]) (rest := []) ⟨hx, hb, hml, hown, hts⟩ (cC_OldTape_makeGap l D dA b M a0 _ h) (cwV 1 hts (z_gV k750 k751 k752 k11 k753) rfl rfl rfl dm_X3_makeGap ⟨Nat.le_of_ble_eq_true rfl, Nat.le_of_ble_eq_true rfl⟩) ⟨wPre_blind, (w_recv hS hK.1 (by decide) (zkd_of (rfl : zcd wC 82 = 34) rfl) (by decide) (rfl : vwCl[3]? = some (RX3, TX3, 4))), w_pre hS hK⟩ rfl rfl hl.1 rfl (lv_room (Nat.le_of_ble_eq_true rfl)) dX11_gap_5 ⟨Nat.le_refl _, Nat.le_refl _⟩) hS0 (fun z2 M1 H locs r3 h hS hS0 => ?_)
  exact w_zret hx hb hr hlocks hS hS0 (sI_01 r3) r3 h dX11_gap_8

set_option maxRecDepth 100000 in
def wC_wipe  (M : zM) (Q : Int → zM → Prop) : Prop := (∀ M1 : zM, M1 = zup M 82 1 0 → Q (sI (M 82 1)) M1)
set_option maxHeartbeats 4000000 in
set_option maxRecDepth 100000 in
theorem cC_wipe (l : Launch) (D : va_G) (dA : Nat → ClassId) (b : Nat) (M : zM)   (Q : Int → zM → Prop) (h : wC_wipe  M Q) : Met l yX11_wipe (.code yX11_wipe cX11_wipe 2 (some .int) :: zt) (z_rm 0) (va_Pc [.ref (b + 0)] (wPre D dA vwCl (z_tys dA) wC nC b M)) (va_Qi (wQi Q) (zB D dA vwCl wC nC b) (zA nC b)) 0 0 (zA nC b) := by
  unfold wC_wipe at h
  refine Met.ofW (cc := cX11_wipe) (maxL := 2) (ret := (some .int)) (by decide) rfl ?_
  intro p e s m args below meth c s₁ B hml hv
  obtain ⟨hargs, hS, hK⟩ := hv
  have hx := B.exec
  have hb := B.bytes
  have hr := B.returns
  have hts := atoms_spec (ws := .code yX11_wipe cX11_wipe 2 (some .int) :: zt) B.pre
  have hown : s.vm.findClass RX11 = some m.cls := findClass_of_methodNamed B.named
  have hlocks := B.notSynchronized
  have hS0 : va_S (zA nC b) s.heap s.heap [] := va_S.rf
  have hl := lv_entry ([.ref (b + 0)]) (n := 2) (Nat.le_of_ble_eq_true rfl)
  have hent : entryFrame m args 2 = F0 m 0 ((lg_sl ([.ref (b + 0)]) ++ List.replicate (2 - (lg_sl ([.ref (b + 0)])).length) Slot.unset).toArray) [] := by rw [hargs]; exact lg_entry_eq m ([.ref (b + 0)]) 2
  rw [hent]
  generalize (lg_sl ([.ref (b + 0)]) ++ List.replicate (2 - (lg_sl ([.ref (b + 0)])).length) Slot.unset).toArray = ls at hl ⊢
  have hl : lv_has ls 2 [(0, .ref (b + 0))] := hl
  refine lv_aload_n hx hb dX11_wipe_0 rfl (lv_at hl 0 rfl) ?_
  refine w_getr (j2 := 82) hx hb hts (z_memU u11) hown hK.1 hS f11_6 (by decide) (zkd_of (rfl : zcd wC 0 = 0) rfl) (zrf_of (rfl : zcd wC 0 = 0) rfl) (Or.inl (hts _ (z_mem k248))) dX11_wipe_1 ?_
  refine w_geti hx hb hts (z_memU u3) hown hK.1 hS f3_1 (by decide) (zkd_of (rfl : zcd wC 82 = 34) rfl) (Or.inl (hts _ (z_mem k197))) dX11_wipe_4 ?_
  refine lv_istore_n (lv' := [(1, .int (iI (M 82 1))), (0, .ref (b + 0))]) hx hb dX11_wipe_7 rfl hl (by decide) rfl (fun ls hl => ?_)
  refine lv_aload_n hx hb dX11_wipe_8 rfl (lv_at hl 1 rfl) ?_
  refine w_getr (j2 := 82) hx hb hts (z_memU u11) hown hK.1 hS f11_6 (by decide) (zkd_of (rfl : zcd wC 0 = 0) rfl) (zrf_of (rfl : zcd wC 0 = 0) rfl) (Or.inl (hts _ (z_mem k248))) dX11_wipe_9 ?_
  refine z_iconst hx hb dX11_wipe_12 ?_
  refine w_puti hx hb hts (z_memU u3) tyX3 tyX3_ok nmX3 hown hK.1 hS hS0 f3_1 (by decide) (zkd_of (rfl : zcd wC 82 = 34) rfl) (Or.inl (hts _ (z_mem k197))) rfl (z := 0) (by decide +kernel) dX11_wipe_13 (fun H locs hS hS0 => ?_)
  obtain ⟨M1, e2⟩ : ∃ M1 : zM, M1 = zup M 82 1 0 := ⟨_, rfl⟩
  rw [← e2] at hS
  have h := h M1 e2
  refine lv_iload_n hx hb dX11_wipe_16 rfl (lv_at hl 0 rfl) ?_
  exact w_iret hx hb hr hlocks hS hS0 rfl h dX11_wipe_17

set_option maxRecDepth 100000 in
def wC_OldTape_spanFits (a0 : Int) (M : zM) (Q : Int → zM → Prop) : Prop := wC_fill 84 (-1) M (fun M1 => wL1 (fun K10 x2 M3 => ((sI (M3 82 1)) ≤ (sI x2) → Q 1 M3) ∧ ((sI x2) < (sI (M3 82 1)) → wC_by (sI x2) a0 M3 (fun z13 => ((0 ≤ z13 ∧ z13 < 24) ∧ ((sI (M3 84 z13.toNat)) ≠ (-1) → ((0 ≤ (sI x2) ∧ (sI x2) < 60) ∧ ((sI (M3 83 (sI x2).toNat)) = (-1) → K10 (x2 + 1) M3) ∧ ((sI (M3 83 (sI x2).toNat)) ≠ (-1) → ((0 ≤ (sI x2) ∧ (sI x2) < 60) ∧ ((0 ≤ z13 ∧ z13 < 24) ∧ ((sI (M3 83 (sI x2).toNat)) = (sI (M3 84 z13.toNat)) → K10 (x2 + 1) M3) ∧ ((sI (M3 83 (sI x2).toNat)) ≠ (sI (M3 84 z13.toNat)) → Q 0 M3)))))) ∧ ((sI (M3 84 z13.toNat)) = (-1) → ((0 ≤ (sI x2) ∧ (sI x2) < 60) ∧ ((0 ≤ z13 ∧ z13 < 24) ∧ (∀ M29 : zM, M29 = zup M3 84 z13.toNat (M3 83 (sI x2).toNat) → K10 (x2 + 1) M29)))))))) 0 M1)
set_option maxHeartbeats 4000000 in
set_option maxRecDepth 100000 in
theorem cC_OldTape_spanFits (l : Launch) (D : va_G) (dA : Nat → ClassId) (b : Nat) (M : zM) (a0 : Int)  (Q : Int → zM → Prop) (h : wC_OldTape_spanFits a0 M Q) : Met l yX3_spanFits (.code yX3_spanFits cX3_spanFits 4 (some .boolean) :: zt) (z_rm 1) (va_Pc [.ref (b + 82), .int (iI a0)] (wPre D dA vwCl (z_tys dA) wC nC b M)) (va_Qi (wQz Q) (zB D dA vwCl wC nC b) (zA nC b)) 0 0 (zA nC b) := by
  unfold wC_OldTape_spanFits at h
  refine Met.ofW (cc := cX3_spanFits) (maxL := 4) (ret := (some .boolean)) (by decide) rfl ?_
  intro p e s m args below meth c s₁ B hml hv
  obtain ⟨hargs, hS, hK⟩ := hv
  have hx := B.exec
  have hb := B.bytes
  have hr := B.returns
  have hts := atoms_spec (ws := .code yX3_spanFits cX3_spanFits 4 (some .boolean) :: zt) B.pre
  have hown : s.vm.findClass RX3 = some m.cls := findClass_of_methodNamed B.named
  have hlocks := B.notSynchronized
  have hS0 : va_S (zA nC b) s.heap s.heap [] := va_S.rf
  have hl := lv_entry ([.ref (b + 82), .int (iI a0)]) (n := 4) (Nat.le_of_ble_eq_true rfl)
  have hent : entryFrame m args 4 = F0 m 0 ((lg_sl ([.ref (b + 82), .int (iI a0)]) ++ List.replicate (4 - (lg_sl ([.ref (b + 82), .int (iI a0)])).length) Slot.unset).toArray) [] := by rw [hargs]; exact lg_entry_eq m ([.ref (b + 82), .int (iI a0)]) 4
  rw [hent]
  generalize (lg_sl ([.ref (b + 82), .int (iI a0)]) ++ List.replicate (4 - (lg_sl ([.ref (b + 82), .int (iI a0)])).length) Slot.unset).toArray = ls at hl ⊢
  have hl : lv_has ls 4 [(0, .ref (b + 82)), (1, .int (iI a0))] := hl
  refine lv_aload_n hx hb dX3_spanFits_0 rfl (lv_at hl 0 rfl) ?_
  refine w_getr (j2 := 84) hx hb hts (z_memU u3) hown hK.1 hS f3_2 (by decide) (zkd_of (rfl : zcd wC 82 = 34) rfl) (zrf_of (rfl : zcd wC 82 = 34) rfl) (Or.inl (hts _ (z_mem k198))) dX3_spanFits_1 ?_
  refine z_iconst hx hb dX3_spanFits_4 ?_
  refine w_callv (va_runS (As := [.ref (b + 84), .int (iI (-1))]) (rest := []) ⟨hx, hb, hml, hown, hts⟩ (cC_fill l D dA b M 84 (-1) (by decide) (zkd_of (rfl : zcd wC 84 = 36) rfl) (Nat.lt_of_le_of_lt (Nat.le_of_eq (zln_of (rfl : zcd wC 84 = 36) rfl)) (by decide)) _ h) (va_cwS 2 hts (z_gS k769 k170 k10 k171) rfl rfl rfl dm_J7_fill_53178.2 ⟨Nat.le_of_ble_eq_true rfl, Nat.le_of_ble_eq_true rfl⟩) ⟨wPre_blind, w_pre hS hK⟩ rfl rfl hl.1 rfl (lv_room (Nat.le_of_ble_eq_true rfl)) dX3_spanFits_5 ⟨Nat.le_refl _, Nat.le_refl _⟩) hS0 (fun M1 H locs h hS hS0 => ?_)
  refine z_iconst hx hb dX3_spanFits_8 ?_
  refine lv_istore_n (lv' := [(2, .int (iI 0)), (0, .ref (b + 82)), (1, .int (iI a0))]) hx hb dX3_spanFits_9 rfl hl (by decide) rfl (fun ls hl => ?_)
  obtain ⟨I4, ⟨n5, h6⟩, h7⟩ := h
  have L8 : ∀ (n9 : Nat) (x2 : Int) (M3 : zM) (H : Heap) (locs : List Loc) (ls : Array Slot), I4 n9 x2 M3 → zR D dA vwCl wC nC b M3 H → va_S (zA nC b) s.heap H locs → lv_has ls 4 [(0, .ref (b + 82)), (1, .int (iI a0)), (2, .int (iI x2))] → W p l e (headSpec (.code yX3_spanFits cX3_spanFits 4 (some .boolean) :: zt) (z_rm 1)).room s m args below meth c H locs 0 0 (MQ below (va_Qi (wQz Q) (zB D dA vwCl wC nC b) (zA nC b)) args s 0 0 (zA nC b)) (F0 m 10 ls []) := by
    intro n9
    induction n9 using Nat.strongRecOn with
    | ind n9 i10 =>
      intro x2 M3 H locs ls h hS hS0 hl
      have h := h7 n9 x2 M3 h
      refine lv_iload_n hx hb dX3_spanFits_10 rfl (lv_at hl 2 rfl) ?_
      refine lv_aload_n hx hb dX3_spanFits_11 rfl (lv_at hl 0 rfl) ?_
      refine w_geti hx hb hts (z_memU u3) hown hK.1 hS f3_1 (by decide) (zkd_of (rfl : zcd wC 82 = 34) rfl) (Or.inl (hts _ (z_mem k196))) dX3_spanFits_12 ?_
      refine w_icmp_ge (tgt := 83) hx hb rfl rfl dX3_spanFits_15 (by decide) (fun c11 => ?_) (fun c11 => ?_)
      · skip
        have h := h.1 c11
        refine z_iconst hx hb dX3_spanFits_83 ?_
        exact w_zret hx hb hr hlocks hS hS0 (sI_of (by decide)) (by decide) h dX3_spanFits_84
      · skip
        have h := h.2 c11
        refine lv_iload_n hx hb dX3_spanFits_18 rfl (lv_at hl 2 rfl) ?_
        refine w_i2l hx hb rfl dX3_spanFits_19 ?_
        refine lv_iload_n hx hb dX3_spanFits_20 rfl (lv_at hl 1 rfl) ?_
        refine w_calli (va_runSN (As := [.long (iL (sI x2)), .int (iI a0)]) (rest := []) ⟨hx, hb, hml, hown, hts⟩ (cC_by l D dA b M3 (sI x2) a0 _ h) ⟨va_cnB 2 hts (z_gN k406) rfl rfl rfl (hK.2 (RX3, 35, yX11_by, RX11) (List.mem_of_getElem? (i := 17) rfl)) (hts _ (z_mem k1)) dm_X11_by.2 ⟨Nat.le_of_ble_eq_true rfl, Nat.le_of_ble_eq_true rfl⟩, (hts _ (z_mem k405)), trivial⟩ ⟨wPre_blind, w_pre hS hK⟩ rfl rfl hl.1 rfl (lv_room (Nat.le_of_ble_eq_true rfl)) dX3_spanFits_21 ⟨Nat.le_refl _, Nat.le_refl _⟩) hS0 (fun z13 M12 H locs r14 h hS hS0 => ?_)
        obtain ⟨e15, h⟩ := h
        rw [e15] at hS
        refine lv_istore_n (lv' := [(3, .int (iI z13)), (0, .ref (b + 82)), (1, .int (iI a0)), (2, .int (iI x2))]) hx hb dX3_spanFits_24 rfl hl (by decide) rfl (fun ls hl => ?_)
        refine lv_aload_n hx hb dX3_spanFits_25 rfl (lv_at hl 1 rfl) ?_
        refine w_getr (j2 := 84) hx hb hts (z_memU u3) hown hK.1 hS f3_2 (by decide) (zkd_of (rfl : zcd wC 82 = 34) rfl) (zrf_of (rfl : zcd wC 82 = 34) rfl) (Or.inl (hts _ (z_mem k198))) dX3_spanFits_26 ?_
        refine lv_iload_n hx hb dX3_spanFits_29 rfl (lv_at hl 0 rfl) ?_
        obtain ⟨o16, h⟩ := h
        refine w_iald (n := 24) (i := z13) hx hb hK.1 (t0 := 0) rfl hS (by decide) (zkd_of (rfl : zcd wC 84 = 36) rfl) (zln_of (rfl : zcd wC 84 = 36) rfl) (sI_of r14) o16.1 o16.2 (by decide) dX3_spanFits_30 ?_
        refine z_iconst hx hb dX3_spanFits_31 ?_
        refine w_icmp_ne (tgt := 50) hx hb rfl (sI_of (by decide)) dX3_spanFits_32 (by decide) (fun c17 => ?_) (fun c17 => ?_)
        · skip
          have h := h.1 c17
          refine lv_aload_n hx hb dX3_spanFits_50 rfl (lv_at hl 1 rfl) ?_
          refine w_getr (j2 := 83) hx hb hts (z_memU u3) hown hK.1 hS f3_0 (by decide) (zkd_of (rfl : zcd wC 82 = 34) rfl) (zrf_of (rfl : zcd wC 82 = 34) rfl) (Or.inl (hts _ (z_mem k195))) dX3_spanFits_51 ?_
          refine lv_iload_n hx hb dX3_spanFits_54 rfl (lv_at hl 3 rfl) ?_
          obtain ⟨o18, h⟩ := h
          refine w_iald (n := 60) (i := (sI x2)) hx hb hK.1 (t0 := 0) rfl hS (by decide) (zkd_of (rfl : zcd wC 83 = 35) rfl) (zln_of (rfl : zcd wC 83 = 35) rfl) rfl o18.1 o18.2 (by decide) dX3_spanFits_55 ?_
          refine z_iconst hx hb dX3_spanFits_56 ?_
          refine w_icmp_eq (tgt := 77) hx hb rfl (sI_of (by decide)) dX3_spanFits_57 (by decide) (fun c19 => ?_) (fun c19 => ?_)
          · skip
            have h := h.1 c19
            refine z_iinc (lv' := [(2, .int (iI (x2 + 1))), (3, .int (iI z13)), (0, .ref (b + 82)), (1, .int (iI a0))]) hx hb dX3_spanFits_77 hl (k := 3) rfl (by decide) rfl (fun ls hl => ?_)
            refine lv_goto (tgt := 10) hx hb dX3_spanFits_80 (by decide) ?_
            obtain ⟨n20, h21, h⟩ := h
            exact i10 n20 h21 (x2 + 1) M3 _ _ _ h hS hS0 (lv_sub hl [2, 3, 0] rfl)
          · skip
            have h := h.2 c19
            refine lv_aload_n hx hb dX3_spanFits_60 rfl (lv_at hl 1 rfl) ?_
            refine w_getr (j2 := 83) hx hb hts (z_memU u3) hown hK.1 hS f3_0 (by decide) (zkd_of (rfl : zcd wC 82 = 34) rfl) (zrf_of (rfl : zcd wC 82 = 34) rfl) (Or.inl (hts _ (z_mem k195))) dX3_spanFits_61 ?_
            refine lv_iload_n hx hb dX3_spanFits_64 rfl (lv_at hl 3 rfl) ?_
            obtain ⟨o22, h⟩ := h
            refine w_iald (n := 60) (i := (sI x2)) hx hb hK.1 (t0 := 0) rfl hS (by decide) (zkd_of (rfl : zcd wC 83 = 35) rfl) (zln_of (rfl : zcd wC 83 = 35) rfl) rfl o22.1 o22.2 (by decide) dX3_spanFits_65 ?_
            refine lv_aload_n hx hb dX3_spanFits_66 rfl (lv_at hl 1 rfl) ?_
            refine w_getr (j2 := 84) hx hb hts (z_memU u3) hown hK.1 hS f3_2 (by decide) (zkd_of (rfl : zcd wC 82 = 34) rfl) (zrf_of (rfl : zcd wC 82 = 34) rfl) (Or.inl (hts _ (z_mem k198))) dX3_spanFits_67 ?_
            refine lv_iload_n hx hb dX3_spanFits_70 rfl (lv_at hl 0 rfl) ?_
            obtain ⟨o23, h⟩ := h
            refine w_iald (n := 24) (i := z13) hx hb hK.1 (t0 := 0) rfl hS (by decide) (zkd_of (rfl : zcd wC 84 = 36) rfl) (zln_of (rfl : zcd wC 84 = 36) rfl) (sI_of r14) o23.1 o23.2 (by decide) dX3_spanFits_71 ?_
            refine w_icmp_eq (tgt := 77) hx hb rfl rfl dX3_spanFits_72 (by decide) (fun c24 => ?_) (fun c24 => ?_)
            · skip
              have h := h.1 c24
              refine z_iinc (lv' := [(2, .int (iI (x2 + 1))), (3, .int (iI z13)), (0, .ref (b + 82)), (1, .int (iI a0))]) hx hb dX3_spanFits_77 hl (k := 3) rfl (by decide) rfl (fun ls hl => ?_)
              refine lv_goto (tgt := 10) hx hb dX3_spanFits_80 (by decide) ?_
              obtain ⟨n25, h26, h⟩ := h
              exact i10 n25 h26 (x2 + 1) M3 _ _ _ h hS hS0 (lv_sub hl [2, 3, 0] rfl)
            · skip
              have h := h.2 c24
              refine z_iconst hx hb dX3_spanFits_75 ?_
              exact w_zret hx hb hr hlocks hS hS0 (sI_of (by decide)) (by decide) h dX3_spanFits_76
        · skip
          have h := h.2 c17
          refine lv_aload_n hx hb dX3_spanFits_35 rfl (lv_at hl 1 rfl) ?_
          refine w_getr (j2 := 84) hx hb hts (z_memU u3) hown hK.1 hS f3_2 (by decide) (zkd_of (rfl : zcd wC 82 = 34) rfl) (zrf_of (rfl : zcd wC 82 = 34) rfl) (Or.inl (hts _ (z_mem k198))) dX3_spanFits_36 ?_
          refine lv_iload_n hx hb dX3_spanFits_39 rfl (lv_at hl 0 rfl) ?_
          refine lv_aload_n hx hb dX3_spanFits_40 rfl (lv_at hl 1 rfl) ?_
          refine w_getr (j2 := 83) hx hb hts (z_memU u3) hown hK.1 hS f3_0 (by decide) (zkd_of (rfl : zcd wC 82 = 34) rfl) (zrf_of (rfl : zcd wC 82 = 34) rfl) (Or.inl (hts _ (z_mem k195))) dX3_spanFits_41 ?_
          refine lv_iload_n hx hb dX3_spanFits_44 rfl (lv_at hl 3 rfl) ?_
          obtain ⟨o27, h⟩ := h
          refine w_iald (n := 60) (i := (sI x2)) hx hb hK.1 (t0 := 0) rfl hS (by decide) (zkd_of (rfl : zcd wC 83 = 35) rfl) (zln_of (rfl : zcd wC 83 = 35) rfl) rfl o27.1 o27.2 (by decide) dX3_spanFits_45 ?_
          obtain ⟨o28, h⟩ := h
          refine w_iast (z := (M3 83 (sI x2).toNat)) (n := 24) (i := z13) hx hb hK.1 (t0 := 0) rfl hS hS0 (by decide) (zkd_of (rfl : zcd wC 84 = 36) rfl) (zln_of (rfl : zcd wC 84 = 36) rfl) (sI_of r14) o28.1 o28.2 (by decide) dX3_spanFits_46 (fun H locs hS hS0 => ?_)
          obtain ⟨M29, e30⟩ : ∃ M29 : zM, M29 = zup M3 84 z13.toNat (M3 83 (sI x2).toNat) := ⟨_, rfl⟩
          rw [← e30] at hS
          have h := h M29 e30
          refine lv_goto (tgt := 77) hx hb dX3_spanFits_47 (by decide) ?_
          refine z_iinc (lv' := [(2, .int (iI (x2 + 1))), (3, .int (iI z13)), (0, .ref (b + 82)), (1, .int (iI a0))]) hx hb dX3_spanFits_77 hl (k := 3) rfl (by decide) rfl (fun ls hl => ?_)
          refine lv_goto (tgt := 10) hx hb dX3_spanFits_80 (by decide) ?_
          obtain ⟨n31, h32, h⟩ := h
          exact i10 n31 h32 (x2 + 1) M29 _ _ _ h hS hS0 (lv_sub hl [2, 3, 0] rfl)
  exact L8 n5 0 M1 _ _ _ h6 hS hS0 (lv_sub hl [1, 2, 0] rfl)

set_option maxRecDepth 100000 in
def wC_OldTape_spanNumber (a0 : Int) (M : zM) (Q : Int → zM → Prop) : Prop := wL2 (fun K4 x1 x2 M3 => (24 < (sI x2) → Q (-1) M3) ∧ ((sI x2) ≤ 24 → wC_OldTape_spanFits x2 M3 (fun z13 M12 => (z13 = 0 → K4 x1 (x2 + 1) M12) ∧ (z13 ≠ 0 → ((sI x1) ≠ (sI a0) → K4 (x1 + 1) (x2 + 1) M12) ∧ ((sI x1) = (sI a0) → Q (sI x2) M12))))) 0 1 M
set_option maxHeartbeats 4000000 in
set_option maxRecDepth 100000 in
theorem cC_OldTape_spanNumber (l : Launch) (D : va_G) (dA : Nat → ClassId) (b : Nat) (M : zM) (a0 : Int)  (Q : Int → zM → Prop) (h : wC_OldTape_spanNumber a0 M Q) : Met l yX3_spanNumber (.code yX3_spanNumber cX3_spanNumber 4 (some .int) :: zt) (z_rm 2) (va_Pc [.ref (b + 82), .int (iI a0)] (wPre D dA vwCl (z_tys dA) wC nC b M)) (va_Qi (wQi Q) (zB D dA vwCl wC nC b) (zA nC b)) 0 0 (zA nC b) := by
  unfold wC_OldTape_spanNumber at h
  refine Met.ofW (cc := cX3_spanNumber) (maxL := 4) (ret := (some .int)) (by decide) rfl ?_
  intro p e s m args below meth c s₁ B hml hv
  obtain ⟨hargs, hS, hK⟩ := hv
  have hx := B.exec
  have hb := B.bytes
  have hr := B.returns
  have hts := atoms_spec (ws := .code yX3_spanNumber cX3_spanNumber 4 (some .int) :: zt) B.pre
  have hown : s.vm.findClass RX3 = some m.cls := findClass_of_methodNamed B.named
  have hlocks := B.notSynchronized
  have hS0 : va_S (zA nC b) s.heap s.heap [] := va_S.rf
  have hl := lv_entry ([.ref (b + 82), .int (iI a0)]) (n := 4) (Nat.le_of_ble_eq_true rfl)
  have hent : entryFrame m args 4 = F0 m 0 ((lg_sl ([.ref (b + 82), .int (iI a0)]) ++ List.replicate (4 - (lg_sl ([.ref (b + 82), .int (iI a0)])).length) Slot.unset).toArray) [] := by rw [hargs]; exact lg_entry_eq m ([.ref (b + 82), .int (iI a0)]) 4
  rw [hent]
  generalize (lg_sl ([.ref (b + 82), .int (iI a0)]) ++ List.replicate (4 - (lg_sl ([.ref (b + 82), .int (iI a0)])).length) Slot.unset).toArray = ls at hl ⊢
  have hl : lv_has ls 4 [(0, .ref (b + 82)), (1, .int (iI a0))] := hl
  refine z_iconst hx hb dX3_spanNumber_0 ?_
  refine lv_istore_n (lv' := [(2, .int (iI 0)), (0, .ref (b + 82)), (1, .int (iI a0))]) hx hb dX3_spanNumber_1 rfl hl (by decide) rfl (fun ls hl => ?_)
  refine z_iconst hx hb dX3_spanNumber_2 ?_
  refine lv_istore_n (lv' := [(3, .int (iI 1)), (2, .int (iI 0)), (0, .ref (b + 82)), (1, .int (iI a0))]) hx hb dX3_spanNumber_3 rfl hl (by decide) rfl (fun ls hl => ?_)
  obtain ⟨I4, ⟨n5, h6⟩, h7⟩ := h
  have L8 : ∀ (n9 : Nat) (x1 x2 : Int) (M3 : zM) (H : Heap) (locs : List Loc) (ls : Array Slot), I4 n9 x1 x2 M3 → zR D dA vwCl wC nC b M3 H → va_S (zA nC b) s.heap H locs → lv_has ls 4 [(0, .ref (b + 82)), (1, .int (iI a0)), (2, .int (iI x1)), (3, .int (iI x2))] → W p l e (headSpec (.code yX3_spanNumber cX3_spanNumber 4 (some .int) :: zt) (z_rm 2)).room s m args below meth c H locs 0 0 (MQ below (va_Qi (wQi Q) (zB D dA vwCl wC nC b) (zA nC b)) args s 0 0 (zA nC b)) (F0 m 4 ls []) := by
    intro n9
    induction n9 using Nat.strongRecOn with
    | ind n9 i10 =>
      intro x1 x2 M3 H locs ls h hS hS0 hl
      have h := h7 n9 x1 x2 M3 h
      refine lv_iload_n hx hb dX3_spanNumber_4 rfl (lv_at hl 3 rfl) ?_
      refine z_bipush hx hb (by decide) dX3_spanNumber_5 ?_
      refine w_icmp_gt (tgt := 34) hx hb rfl (sI_of (by decide)) dX3_spanNumber_7 (by decide) (fun c11 => ?_) (fun c11 => ?_)
      · skip
        have h := h.1 c11
        refine z_iconst hx hb dX3_spanNumber_34 ?_
        exact w_iret hx hb hr hlocks hS hS0 (sI_of (by decide)) h dX3_spanNumber_35
      · skip
        have h := h.2 c11
        refine lv_aload_n hx hb dX3_spanNumber_10 rfl (lv_at hl 0 rfl) ?_
        refine lv_iload_n hx hb dX3_spanNumber_11 rfl (lv_at hl 3 rfl) ?_
        refine w_callz (va_runV (As := [.int (iI x2)]) (rest := []) ⟨hx, hb, hml, hown, hts⟩ (cC_OldTape_spanFits l D dA b M3 x2 _ h) (cwV 1 hts (z_gV k766 k767 k1381 k11 k768) rfl rfl rfl dm_X3_spanFits ⟨Nat.le_of_ble_eq_true rfl, Nat.le_of_ble_eq_true rfl⟩) ⟨wPre_blind, (w_recv hS hK.1 (by decide) (zkd_of (rfl : zcd wC 82 = 34) rfl) (by decide) (rfl : vwCl[3]? = some (RX3, TX3, 4))), w_pre hS hK⟩ rfl rfl hl.1 rfl (lv_room (Nat.le_of_ble_eq_true rfl)) dX3_spanNumber_12 ⟨Nat.le_refl _, Nat.le_refl _⟩) hS0 (fun z13 M12 H locs r14 h hS hS0 => ?_)
        refine w_if_eq (tgt := 28) hx hb (sI_01 r14) dX3_spanNumber_15 (by decide) (fun c15 => ?_) (fun c15 => ?_)
        · skip
          have h := h.1 c15
          refine z_iinc (lv' := [(3, .int (iI (x2 + 1))), (0, .ref (b + 82)), (1, .int (iI a0)), (2, .int (iI x1))]) hx hb dX3_spanNumber_28 hl (k := 3) rfl (by decide) rfl (fun ls hl => ?_)
          refine lv_goto (tgt := 4) hx hb dX3_spanNumber_31 (by decide) ?_
          obtain ⟨n16, h17, h⟩ := h
          exact i10 n16 h17 x1 (x2 + 1) M12 _ _ _ h hS hS0 (lv_sub hl [1, 2, 3, 0] rfl)
        · skip
          have h := h.2 c15
          refine lv_iload_n hx hb dX3_spanNumber_18 rfl (lv_at hl 2 rfl) ?_
          refine lv_iload_n hx hb dX3_spanNumber_19 rfl (lv_at hl 1 rfl) ?_
          refine w_icmp_ne (tgt := 25) hx hb rfl rfl dX3_spanNumber_20 (by decide) (fun c18 => ?_) (fun c18 => ?_)
          · skip
            have h := h.1 c18
            refine z_iinc (lv' := [(2, .int (iI (x1 + 1))), (0, .ref (b + 82)), (1, .int (iI a0)), (3, .int (iI x2))]) hx hb dX3_spanNumber_25 hl (k := 2) rfl (by decide) rfl (fun ls hl => ?_)
            refine z_iinc (lv' := [(3, .int (iI (x2 + 1))), (2, .int (iI (x1 + 1))), (0, .ref (b + 82)), (1, .int (iI a0))]) hx hb dX3_spanNumber_28 hl (k := 3) rfl (by decide) rfl (fun ls hl => ?_)
            refine lv_goto (tgt := 4) hx hb dX3_spanNumber_31 (by decide) ?_
            obtain ⟨n19, h20, h⟩ := h
            exact i10 n19 h20 (x1 + 1) (x2 + 1) M12 _ _ _ h hS hS0 (lv_sub hl [2, 3, 1, 0] rfl)
          · skip
            have h := h.2 c18
            refine lv_iload_n hx hb dX3_spanNumber_23 rfl (lv_at hl 3 rfl) ?_
            exact w_iret hx hb hr hlocks hS hS0 rfl h dX3_spanNumber_24
  exact L8 n5 0 1 M _ _ _ h6 hS hS0 (lv_sub hl [2, 3, 1, 0] rfl)

set_option maxRecDepth 100000 in
def wC_span (a0 : Int) (M : zM) (Q : Int → zM → Prop) : Prop := wC_OldTape_spanNumber a0 M (fun z2 M1 => Q z2 M1)
set_option maxHeartbeats 4000000 in
set_option maxRecDepth 100000 in
theorem cC_span (l : Launch) (D : va_G) (dA : Nat → ClassId) (b : Nat) (M : zM) (a0 : Int)  (Q : Int → zM → Prop) (h : wC_span a0 M Q) : Met l yX11_span (.code yX11_span cX11_span 2 (some .int) :: zt) (z_rm 3) (va_Pc [.ref (b + 0), .int (iI a0)] (wPre D dA vwCl (z_tys dA) wC nC b M)) (va_Qi (wQi Q) (zB D dA vwCl wC nC b) (zA nC b)) 0 0 (zA nC b) := by
  unfold wC_span at h
  refine Met.ofW (cc := cX11_span) (maxL := 2) (ret := (some .int)) (by decide) rfl ?_
  intro p e s m args below meth c s₁ B hml hv
  obtain ⟨hargs, hS, hK⟩ := hv
  have hx := B.exec
  have hb := B.bytes
  have hr := B.returns
  have hts := atoms_spec (ws := .code yX11_span cX11_span 2 (some .int) :: zt) B.pre
  have hown : s.vm.findClass RX11 = some m.cls := findClass_of_methodNamed B.named
  have hlocks := B.notSynchronized
  have hS0 : va_S (zA nC b) s.heap s.heap [] := va_S.rf
  have hl := lv_entry ([.ref (b + 0), .int (iI a0)]) (n := 2) (Nat.le_of_ble_eq_true rfl)
  have hent : entryFrame m args 2 = F0 m 0 ((lg_sl ([.ref (b + 0), .int (iI a0)]) ++ List.replicate (2 - (lg_sl ([.ref (b + 0), .int (iI a0)])).length) Slot.unset).toArray) [] := by rw [hargs]; exact lg_entry_eq m ([.ref (b + 0), .int (iI a0)]) 2
  rw [hent]
  generalize (lg_sl ([.ref (b + 0), .int (iI a0)]) ++ List.replicate (2 - (lg_sl ([.ref (b + 0), .int (iI a0)])).length) Slot.unset).toArray = ls at hl ⊢
  have hl : lv_has ls 2 [(0, .ref (b + 0)), (1, .int (iI a0))] := hl
  refine lv_aload_n hx hb dX11_span_0 rfl (lv_at hl 0 rfl) ?_
  refine w_getr (j2 := 82) hx hb hts (z_memU u11) hown hK.1 hS f11_6 (by decide) (zkd_of (rfl : zcd wC 0 = 0) rfl) (zrf_of (rfl : zcd wC 0 = 0) rfl) (Or.inl (hts _ (z_mem k248))) dX11_span_1 ?_
  refine lv_iload_n hx hb dX11_span_4 rfl (lv_at hl 1 rfl) ?_
  refine w_calli (va_runV (As := [.int (iI a0)]) (rest := []) ⟨hx, hb, hml, hown, hts⟩ (cC_OldTape_spanNumber l D dA b M a0 _ h) (cwV 1 hts (z_gV k762 k763 k764 k11 k765) rfl rfl rfl dm_X3_spanNumber ⟨Nat.le_of_ble_eq_true rfl, Nat.le_of_ble_eq_true rfl⟩) ⟨wPre_blind, (w_recv hS hK.1 (by decide) (zkd_of (rfl : zcd wC 82 = 34) rfl) (by decide) (rfl : vwCl[3]? = some (RX3, TX3, 4))), w_pre hS hK⟩ rfl rfl hl.1 rfl (lv_room (Nat.le_of_ble_eq_true rfl)) dX11_span_5 ⟨Nat.le_refl _, Nat.le_refl _⟩) hS0 (fun z2 M1 H locs r3 h hS hS0 => ?_)
  exact w_iret hx hb hr hlocks hS hS0 (sI_of r3) h dX11_span_8

set_option maxRecDepth 100000 in
def wC_OldTape_makeGreatest (a0 : Nat) (a1 : Int) (M : zM) (Q : zM → Prop) : Prop := wC_fill a0 1022 M (fun M1 => wL1 (fun K9 x2 M3 => ((sI (M3 82 1)) ≤ (sI x2) → Q M3) ∧ ((sI x2) < (sI (M3 82 1)) → ((0 ≤ (sI x2) ∧ (sI x2) < 60) ∧ ((sI (M3 83 (sI x2).toNat)) = (-1) → K9 (x2 + 1) M3) ∧ ((sI (M3 83 (sI x2).toNat)) ≠ (-1) → wC_by (sI x2) a1 M3 (fun z17 => ((0 ≤ z17 ∧ z17 < (zln wC a0)) ∧ ((0 ≤ (sI x2) ∧ (sI x2) < 60) ∧ ((0 ≤ z17 ∧ z17 < (zln wC a0)) ∧ (∀ M23 : zM, M23 = zup M3 a0 z17.toNat (andI (M3 a0 z17.toNat) (M3 83 (sI x2).toNat)) → K9 (x2 + 1) M23))))))))) 0 M1)
set_option maxHeartbeats 4000000 in
set_option maxRecDepth 100000 in
theorem cC_OldTape_makeGreatest (l : Launch) (D : va_G) (dA : Nat → ClassId) (b : Nat) (M : zM) (a0 : Nat) (a1 : Int) (lt_a0 : a0 < nC) (kd_a0 : zkd wC a0 = 100) (ln_a0 : zln wC a0 < 2147483648) (Q : zM → Prop) (h : wC_OldTape_makeGreatest a0 a1 M Q) : Met l yX3_makeGreatest (.code yX3_makeGreatest cX3_makeGreatest 4 none :: zt) (z_rm 1) (va_Pc [.ref (b + 82), .ref (b + a0), .int (iI a1)] (wPre D dA vwCl (z_tys dA) wC nC b M)) (va_Qv (wQv Q) (zB D dA vwCl wC nC b) (zA nC b)) 0 0 (zA nC b) := by
  unfold wC_OldTape_makeGreatest at h
  refine Met.ofW (cc := cX3_makeGreatest) (maxL := 4) (ret := none) (by decide) rfl ?_
  intro p e s m args below meth c s₁ B hml hv
  obtain ⟨hargs, hS, hK⟩ := hv
  have hx := B.exec
  have hb := B.bytes
  have hr := B.returns
  have hts := atoms_spec (ws := .code yX3_makeGreatest cX3_makeGreatest 4 none :: zt) B.pre
  have hown : s.vm.findClass RX3 = some m.cls := findClass_of_methodNamed B.named
  have hlocks := B.notSynchronized
  have hS0 : va_S (zA nC b) s.heap s.heap [] := va_S.rf
  have hl := lv_entry ([.ref (b + 82), .ref (b + a0), .int (iI a1)]) (n := 4) (Nat.le_of_ble_eq_true rfl)
  have hent : entryFrame m args 4 = F0 m 0 ((lg_sl ([.ref (b + 82), .ref (b + a0), .int (iI a1)]) ++ List.replicate (4 - (lg_sl ([.ref (b + 82), .ref (b + a0), .int (iI a1)])).length) Slot.unset).toArray) [] := by rw [hargs]; exact lg_entry_eq m ([.ref (b + 82), .ref (b + a0), .int (iI a1)]) 4
  rw [hent]
  generalize (lg_sl ([.ref (b + 82), .ref (b + a0), .int (iI a1)]) ++ List.replicate (4 - (lg_sl ([.ref (b + 82), .ref (b + a0), .int (iI a1)])).length) Slot.unset).toArray = ls at hl ⊢
  have hl : lv_has ls 4 [(0, .ref (b + 82)), (1, .ref (b + a0)), (2, .int (iI a1))] := hl
  refine lv_aload_n hx hb dX3_makeGreatest_0 rfl (lv_at hl 1 rfl) ?_
  refine z_sipush hx hb (by decide) dX3_makeGreatest_1 ?_
  refine w_callv (va_runS (As := [.ref (b + a0), .int (iI 1022)]) (rest := []) ⟨hx, hb, hml, hown, hts⟩ (cC_fill l D dA b M a0 1022 lt_a0 kd_a0 ln_a0 _ h) (va_cwS 2 hts (z_gS k769 k170 k10 k171) rfl rfl rfl dm_J7_fill_53178.2 ⟨Nat.le_of_ble_eq_true rfl, Nat.le_of_ble_eq_true rfl⟩) ⟨wPre_blind, w_pre hS hK⟩ rfl rfl hl.1 rfl (lv_room (Nat.le_of_ble_eq_true rfl)) dX3_makeGreatest_4 ⟨Nat.le_refl _, Nat.le_refl _⟩) hS0 (fun M1 H locs h hS hS0 => ?_)
  refine z_iconst hx hb dX3_makeGreatest_7 ?_
  refine lv_istore_n (lv' := [(3, .int (iI 0)), (0, .ref (b + 82)), (1, .ref (b + a0)), (2, .int (iI a1))]) hx hb dX3_makeGreatest_8 rfl hl (by decide) rfl (fun ls hl => ?_)
  obtain ⟨I4, ⟨n5, h6⟩, h7⟩ := h
  have L8 : ∀ (n9 : Nat) (x2 : Int) (M3 : zM) (H : Heap) (locs : List Loc) (ls : Array Slot), I4 n9 x2 M3 → zR D dA vwCl wC nC b M3 H → va_S (zA nC b) s.heap H locs → lv_has ls 4 [(0, .ref (b + 82)), (1, .ref (b + a0)), (2, .int (iI a1)), (3, .int (iI x2))] → W p l e (headSpec (.code yX3_makeGreatest cX3_makeGreatest 4 none :: zt) (z_rm 1)).room s m args below meth c H locs 0 0 (MQ below (va_Qv (wQv Q) (zB D dA vwCl wC nC b) (zA nC b)) args s 0 0 (zA nC b)) (F0 m 9 ls []) := by
    intro n9
    induction n9 using Nat.strongRecOn with
    | ind n9 i10 =>
      intro x2 M3 H locs ls h hS hS0 hl
      have h := h7 n9 x2 M3 h
      refine lv_iload_n hx hb dX3_makeGreatest_9 rfl (lv_at hl 3 rfl) ?_
      refine lv_aload_n hx hb dX3_makeGreatest_10 rfl (lv_at hl 0 rfl) ?_
      refine w_geti hx hb hts (z_memU u3) hown hK.1 hS f3_1 (by decide) (zkd_of (rfl : zcd wC 82 = 34) rfl) (Or.inl (hts _ (z_mem k196))) dX3_makeGreatest_11 ?_
      refine w_icmp_ge (tgt := 50) hx hb rfl rfl dX3_makeGreatest_14 (by decide) (fun c11 => ?_) (fun c11 => ?_)
      · skip
        have h := h.1 c11
        exact w_vret hx hb hr hlocks hS hS0 h dX3_makeGreatest_50
      · skip
        have h := h.2 c11
        refine lv_aload_n hx hb dX3_makeGreatest_17 rfl (lv_at hl 0 rfl) ?_
        refine w_getr (j2 := 83) hx hb hts (z_memU u3) hown hK.1 hS f3_0 (by decide) (zkd_of (rfl : zcd wC 82 = 34) rfl) (zrf_of (rfl : zcd wC 82 = 34) rfl) (Or.inl (hts _ (z_mem k195))) dX3_makeGreatest_18 ?_
        refine lv_iload_n hx hb dX3_makeGreatest_21 rfl (lv_at hl 3 rfl) ?_
        obtain ⟨o12, h⟩ := h
        refine w_iald (n := 60) (i := (sI x2)) hx hb hK.1 (t0 := 0) rfl hS (by decide) (zkd_of (rfl : zcd wC 83 = 35) rfl) (zln_of (rfl : zcd wC 83 = 35) rfl) rfl o12.1 o12.2 (by decide) dX3_makeGreatest_22 ?_
        refine z_iconst hx hb dX3_makeGreatest_23 ?_
        refine w_icmp_eq (tgt := 44) hx hb rfl (sI_of (by decide)) dX3_makeGreatest_24 (by decide) (fun c13 => ?_) (fun c13 => ?_)
        · skip
          have h := h.1 c13
          refine z_iinc (lv' := [(3, .int (iI (x2 + 1))), (0, .ref (b + 82)), (1, .ref (b + a0)), (2, .int (iI a1))]) hx hb dX3_makeGreatest_44 hl (k := 3) rfl (by decide) rfl (fun ls hl => ?_)
          refine lv_goto (tgt := 9) hx hb dX3_makeGreatest_47 (by decide) ?_
          obtain ⟨n14, h15, h⟩ := h
          exact i10 n14 h15 (x2 + 1) M3 _ _ _ h hS hS0 (lv_sub hl [1, 2, 3, 0] rfl)
        · skip
          have h := h.2 c13
          refine lv_aload_n hx hb dX3_makeGreatest_27 rfl (lv_at hl 1 rfl) ?_
          refine lv_iload_n hx hb dX3_makeGreatest_28 rfl (lv_at hl 3 rfl) ?_
          refine w_i2l hx hb rfl dX3_makeGreatest_29 ?_
          refine lv_iload_n hx hb dX3_makeGreatest_30 rfl (lv_at hl 2 rfl) ?_
          refine w_calli (va_runSN (As := [.long (iL (sI x2)), .int (iI a1)]) (rest := [.ref (b + a0)]) ⟨hx, hb, hml, hown, hts⟩ (cC_by l D dA b M3 (sI x2) a1 _ h) ⟨va_cnB 2 hts (z_gN k406) rfl rfl rfl (hK.2 (RX3, 35, yX11_by, RX11) (List.mem_of_getElem? (i := 17) rfl)) (hts _ (z_mem k1)) dm_X11_by.2 ⟨Nat.le_of_ble_eq_true rfl, Nat.le_of_ble_eq_true rfl⟩, (hts _ (z_mem k405)), trivial⟩ ⟨wPre_blind, w_pre hS hK⟩ rfl rfl hl.1 rfl (lv_room (Nat.le_of_ble_eq_true rfl)) dX3_makeGreatest_31 ⟨Nat.le_refl _, Nat.le_refl _⟩) hS0 (fun z17 M16 H locs r18 h hS hS0 => ?_)
          obtain ⟨e19, h⟩ := h
          rw [e19] at hS
          refine lv_dup2_11 hx hb dX3_makeGreatest_34 rfl rfl ?_
          obtain ⟨o20, h⟩ := h
          refine w_iald (n := (zln wC a0)) (i := z17) hx hb hK.1 (t0 := 0) rfl hS lt_a0 kd_a0 rfl (sI_of r18) o20.1 o20.2 ln_a0 dX3_makeGreatest_35 ?_
          refine lv_aload_n hx hb dX3_makeGreatest_36 rfl (lv_at hl 0 rfl) ?_
          refine w_getr (j2 := 83) hx hb hts (z_memU u3) hown hK.1 hS f3_0 (by decide) (zkd_of (rfl : zcd wC 82 = 34) rfl) (zrf_of (rfl : zcd wC 82 = 34) rfl) (Or.inl (hts _ (z_mem k195))) dX3_makeGreatest_37 ?_
          refine lv_iload_n hx hb dX3_makeGreatest_40 rfl (lv_at hl 3 rfl) ?_
          obtain ⟨o21, h⟩ := h
          refine w_iald (n := 60) (i := (sI x2)) hx hb hK.1 (t0 := 0) rfl hS (by decide) (zkd_of (rfl : zcd wC 83 = 35) rfl) (zln_of (rfl : zcd wC 83 = 35) rfl) rfl o21.1 o21.2 (by decide) dX3_makeGreatest_41 ?_
          refine w_iand hx hb dX3_makeGreatest_42 ?_
          obtain ⟨o22, h⟩ := h
          refine w_iast (z := (andI (M3 a0 z17.toNat) (M3 83 (sI x2).toNat))) (n := (zln wC a0)) (i := z17) hx hb hK.1 (t0 := 0) rfl hS hS0 lt_a0 kd_a0 rfl (sI_of r18) o22.1 o22.2 ln_a0 dX3_makeGreatest_43 (fun H locs hS hS0 => ?_)
          obtain ⟨M23, e24⟩ : ∃ M23 : zM, M23 = zup M3 a0 z17.toNat (andI (M3 a0 z17.toNat) (M3 83 (sI x2).toNat)) := ⟨_, rfl⟩
          rw [← e24] at hS
          have h := h M23 e24
          refine z_iinc (lv' := [(3, .int (iI (x2 + 1))), (0, .ref (b + 82)), (1, .ref (b + a0)), (2, .int (iI a1))]) hx hb dX3_makeGreatest_44 hl (k := 3) rfl (by decide) rfl (fun ls hl => ?_)
          refine lv_goto (tgt := 9) hx hb dX3_makeGreatest_47 (by decide) ?_
          obtain ⟨n25, h26, h⟩ := h
          exact i10 n25 h26 (x2 + 1) M23 _ _ _ h hS hS0 (lv_sub hl [1, 2, 3, 0] rfl)
  exact L8 n5 0 M1 _ _ _ h6 hS hS0 (lv_sub hl [1, 2, 3, 0] rfl)
end zz10_w10
section zz10_w11
/-! the W layer, 11 -/
theorem q10w11_0_0 : (cX11_burn.data.toList.drop 0).take 18 = [42, 180, 0, 61, 180, 0, 153, 60, 42, 180, 0, 61, 3, 181, 0, 153, 27, 172] := by decide +kernel
theorem dX11_burn_0 : decode cX11_burn 0 = .ok (.aload_n 0, 1) := dz_42 (dz_at q10w11_0_0 0)
theorem dX11_burn_1 : decode cX11_burn 1 = .ok (.getfield 61, 3) := dz_180 (dz_at q10w11_0_0 1) rfl
theorem dX11_burn_12 : decode cX11_burn 12 = .ok (.iconst 0, 1) := dz_3 (dz_at q10w11_0_0 12)
theorem dX11_burn_13 : decode cX11_burn 13 = .ok (.putfield 153, 3) := dz_181 (dz_at q10w11_0_0 13) rfl
theorem dX11_burn_16 : decode cX11_burn 16 = .ok (.iload_n 1, 1) := dz_27 (dz_at q10w11_0_0 16)
theorem dX11_burn_17 : decode cX11_burn 17 = .ok (.ireturn, 1) := dz_172 (dz_at q10w11_0_0 17)
theorem dX11_burn_4 : decode cX11_burn 4 = .ok (.getfield 153, 3) := dz_180 (dz_at q10w11_0_0 4) rfl
theorem dX11_burn_7 : decode cX11_burn 7 = .ok (.istore_n 1, 1) := dz_60 (dz_at q10w11_0_0 7)
theorem dX11_burn_8 : decode cX11_burn 8 = .ok (.aload_n 0, 1) := dz_42 (dz_at q10w11_0_0 8)
theorem dX11_burn_9 : decode cX11_burn 9 = .ok (.getfield 61, 3) := dz_180 (dz_at q10w11_0_0 9) rfl
theorem q10w11_1_0 : (cX11_mended.data.toList.drop 0).take 9 = [42, 180, 0, 54, 27, 182, 1, 7, 172] := by decide +kernel
theorem dX11_mended_0 : decode cX11_mended 0 = .ok (.aload_n 0, 1) := dz_42 (dz_at q10w11_1_0 0)
theorem dX11_mended_1 : decode cX11_mended 1 = .ok (.getfield 54, 3) := dz_180 (dz_at q10w11_1_0 1) rfl
theorem dX11_mended_4 : decode cX11_mended 4 = .ok (.iload_n 1, 1) := dz_27 (dz_at q10w11_1_0 4)
theorem dX11_mended_5 : decode cX11_mended 5 = .ok (.invokevirtual 263, 3) := dz_182 (dz_at q10w11_1_0 5) rfl
theorem dX11_mended_8 : decode cX11_mended 8 = .ok (.ireturn, 1) := dz_172 (dz_at q10w11_1_0 8)
theorem q10w11_2_0 : (cX11_pair.data.toList.drop 0).take 9 = [42, 180, 0, 54, 27, 182, 1, 4, 172] := by decide +kernel
theorem dX11_pair_0 : decode cX11_pair 0 = .ok (.aload_n 0, 1) := dz_42 (dz_at q10w11_2_0 0)
theorem dX11_pair_1 : decode cX11_pair 1 = .ok (.getfield 54, 3) := dz_180 (dz_at q10w11_2_0 1) rfl
theorem dX11_pair_4 : decode cX11_pair 4 = .ok (.iload_n 1, 1) := dz_27 (dz_at q10w11_2_0 4)
theorem dX11_pair_5 : decode cX11_pair 5 = .ok (.invokevirtual 260, 3) := dz_182 (dz_at q10w11_2_0 5) rfl
theorem dX11_pair_8 : decode cX11_pair 8 = .ok (.ireturn, 1) := dz_172 (dz_at q10w11_2_0 8)
theorem q10w11_3_0 : (cX11_piece.data.toList.drop 0).take 24 = [28, 4, 16, 8, 184, 0, 113, 153, 0, 15, 42, 180, 0, 61, 27, 28, 182, 1, 10, 167, 0, 4, 2, 172] := by decide +kernel
theorem dX11_piece_0 : decode cX11_piece 0 = .ok (.iload_n 2, 1) := dz_28 (dz_at q10w11_3_0 0)
theorem dX11_piece_1 : decode cX11_piece 1 = .ok (.iconst 1, 1) := dz_4 (dz_at q10w11_3_0 1)
theorem dX11_piece_10 : decode cX11_piece 10 = .ok (.aload_n 0, 1) := dz_42 (dz_at q10w11_3_0 10)
theorem dX11_piece_11 : decode cX11_piece 11 = .ok (.getfield 61, 3) := dz_180 (dz_at q10w11_3_0 11) rfl
theorem dX11_piece_14 : decode cX11_piece 14 = .ok (.iload_n 1, 1) := dz_27 (dz_at q10w11_3_0 14)
theorem dX11_piece_15 : decode cX11_piece 15 = .ok (.iload_n 2, 1) := dz_28 (dz_at q10w11_3_0 15)
theorem dX11_piece_16 : decode cX11_piece 16 = .ok (.invokevirtual 266, 3) := dz_182 (dz_at q10w11_3_0 16) rfl
theorem dX11_piece_19 : decode cX11_piece 19 = .ok (.goto 4, 3) := dz_167 (dz_at q10w11_3_0 19) (by decide +kernel)
theorem dX11_piece_2 : decode cX11_piece 2 = .ok (.bipush 8, 2) := dz_16 (dz_at q10w11_3_0 2) (by decide +kernel)
theorem dX11_piece_22 : decode cX11_piece 22 = .ok (.iconst (-1), 1) := dz_2 (dz_at q10w11_3_0 22)
theorem dX11_piece_23 : decode cX11_piece 23 = .ok (.ireturn, 1) := dz_172 (dz_at q10w11_3_0 23)
theorem dX11_piece_4 : decode cX11_piece 4 = .ok (.invokestatic 113, 3) := dz_184 (dz_at q10w11_3_0 4) rfl
theorem dX11_piece_7 : decode cX11_piece 7 = .ok (.ifCond .eq 15, 3) := dz_153 (dz_at q10w11_3_0 7) (by decide +kernel)
theorem q10w11_4_0 : (cX3_mendedAt.data.toList.drop 0).take 22 = [27, 155, 0, 11, 27, 42, 180, 0, 15, 161, 0, 5, 2, 172, 42, 3, 182, 0, 52, 61, 28, 2] := by decide +kernel
theorem q10w11_4_22 : (cX3_mendedAt.data.toList.drop 22).take 24 = [160, 0, 5, 2, 172, 42, 180, 0, 19, 27, 133, 28, 16, 100, 108, 184, 0, 35, 46, 42, 180, 0, 22, 27] := by decide +kernel
theorem q10w11_4_46 : (cX3_mendedAt.data.toList.drop 46).take 11 = [133, 28, 16, 100, 112, 184, 0, 35, 46, 128, 172] := by decide +kernel
theorem dX3_mendedAt_0 : decode cX3_mendedAt 0 = .ok (.iload_n 1, 1) := dz_27 (dz_at q10w11_4_0 0)
theorem dX3_mendedAt_1 : decode cX3_mendedAt 1 = .ok (.ifCond .lt 11, 3) := dz_155 (dz_at q10w11_4_0 1) (by decide +kernel)
theorem dX3_mendedAt_12 : decode cX3_mendedAt 12 = .ok (.iconst (-1), 1) := dz_2 (dz_at q10w11_4_0 12)
theorem dX3_mendedAt_13 : decode cX3_mendedAt 13 = .ok (.ireturn, 1) := dz_172 (dz_at q10w11_4_0 13)
theorem dX3_mendedAt_14 : decode cX3_mendedAt 14 = .ok (.aload_n 0, 1) := dz_42 (dz_at q10w11_4_0 14)
theorem dX3_mendedAt_15 : decode cX3_mendedAt 15 = .ok (.iconst 0, 1) := dz_3 (dz_at q10w11_4_0 15)
theorem dX3_mendedAt_16 : decode cX3_mendedAt 16 = .ok (.invokevirtual 52, 3) := dz_182 (dz_at q10w11_4_0 16) rfl
theorem dX3_mendedAt_19 : decode cX3_mendedAt 19 = .ok (.istore_n 2, 1) := dz_61 (dz_at q10w11_4_0 19)
theorem dX3_mendedAt_20 : decode cX3_mendedAt 20 = .ok (.iload_n 2, 1) := dz_28 (dz_at q10w11_4_0 20)
theorem dX3_mendedAt_21 : decode cX3_mendedAt 21 = .ok (.iconst (-1), 1) := dz_2 (dz_at q10w11_4_0 21)
theorem dX3_mendedAt_22 : decode cX3_mendedAt 22 = .ok (.if_icmp .ne 5, 3) := dz_160 (dz_at q10w11_4_22 0) (by decide +kernel)
theorem dX3_mendedAt_25 : decode cX3_mendedAt 25 = .ok (.iconst (-1), 1) := dz_2 (dz_at q10w11_4_22 3)
theorem dX3_mendedAt_26 : decode cX3_mendedAt 26 = .ok (.ireturn, 1) := dz_172 (dz_at q10w11_4_22 4)
theorem dX3_mendedAt_27 : decode cX3_mendedAt 27 = .ok (.aload_n 0, 1) := dz_42 (dz_at q10w11_4_22 5)
theorem dX3_mendedAt_28 : decode cX3_mendedAt 28 = .ok (.getfield 19, 3) := dz_180 (dz_at q10w11_4_22 6) rfl
theorem dX3_mendedAt_31 : decode cX3_mendedAt 31 = .ok (.iload_n 1, 1) := dz_27 (dz_at q10w11_4_22 9)
theorem dX3_mendedAt_32 : decode cX3_mendedAt 32 = .ok (.i2l, 1) := dz_133 (dz_at q10w11_4_22 10)
theorem dX3_mendedAt_33 : decode cX3_mendedAt 33 = .ok (.iload_n 2, 1) := dz_28 (dz_at q10w11_4_22 11)
theorem dX3_mendedAt_34 : decode cX3_mendedAt 34 = .ok (.bipush 100, 2) := dz_16 (dz_at q10w11_4_22 12) (by decide +kernel)
theorem dX3_mendedAt_36 : decode cX3_mendedAt 36 = .ok (.idiv, 1) := dz_108 (dz_at q10w11_4_22 14)
theorem dX3_mendedAt_37 : decode cX3_mendedAt 37 = .ok (.invokestatic 35, 3) := dz_184 (dz_at q10w11_4_22 15) rfl
theorem dX3_mendedAt_4 : decode cX3_mendedAt 4 = .ok (.iload_n 1, 1) := dz_27 (dz_at q10w11_4_0 4)
theorem dX3_mendedAt_40 : decode cX3_mendedAt 40 = .ok (.iaload, 1) := dz_46 (dz_at q10w11_4_22 18)
theorem dX3_mendedAt_41 : decode cX3_mendedAt 41 = .ok (.aload_n 0, 1) := dz_42 (dz_at q10w11_4_22 19)
theorem dX3_mendedAt_42 : decode cX3_mendedAt 42 = .ok (.getfield 22, 3) := dz_180 (dz_at q10w11_4_22 20) rfl
theorem dX3_mendedAt_45 : decode cX3_mendedAt 45 = .ok (.iload_n 1, 1) := dz_27 (dz_at q10w11_4_22 23)
theorem dX3_mendedAt_46 : decode cX3_mendedAt 46 = .ok (.i2l, 1) := dz_133 (dz_at q10w11_4_46 0)
theorem dX3_mendedAt_47 : decode cX3_mendedAt 47 = .ok (.iload_n 2, 1) := dz_28 (dz_at q10w11_4_46 1)
theorem dX3_mendedAt_48 : decode cX3_mendedAt 48 = .ok (.bipush 100, 2) := dz_16 (dz_at q10w11_4_46 2) (by decide +kernel)
theorem dX3_mendedAt_5 : decode cX3_mendedAt 5 = .ok (.aload_n 0, 1) := dz_42 (dz_at q10w11_4_0 5)
theorem dX3_mendedAt_50 : decode cX3_mendedAt 50 = .ok (.irem, 1) := dz_112 (dz_at q10w11_4_46 4)
theorem dX3_mendedAt_51 : decode cX3_mendedAt 51 = .ok (.invokestatic 35, 3) := dz_184 (dz_at q10w11_4_46 5) rfl
theorem dX3_mendedAt_54 : decode cX3_mendedAt 54 = .ok (.iaload, 1) := dz_46 (dz_at q10w11_4_46 8)
theorem dX3_mendedAt_55 : decode cX3_mendedAt 55 = .ok (.ior, 1) := dz_128 (dz_at q10w11_4_46 9)
theorem dX3_mendedAt_56 : decode cX3_mendedAt 56 = .ok (.ireturn, 1) := dz_172 (dz_at q10w11_4_46 10)
theorem dX3_mendedAt_6 : decode cX3_mendedAt 6 = .ok (.getfield 15, 3) := dz_180 (dz_at q10w11_4_0 6) rfl
theorem dX3_mendedAt_9 : decode cX3_mendedAt 9 = .ok (.if_icmp .lt 5, 3) := dz_161 (dz_at q10w11_4_0 9) (by decide +kernel)
theorem q10w11_5_0 : (cX3_pairFits.data.toList.drop 0).take 22 = [42, 42, 180, 0, 19, 27, 182, 0, 49, 42, 42, 180, 0, 22, 28, 182, 0, 49, 3, 62, 29, 42] := by decide +kernel
theorem q10w11_5_22 : (cX3_pairFits.data.toList.drop 22).take 23 = [180, 0, 15, 162, 0, 53, 42, 180, 0, 9, 29, 46, 2, 159, 0, 37, 42, 180, 0, 19, 29, 133, 27] := by decide +kernel
theorem q10w11_5_45 : (cX3_pairFits.data.toList.drop 45).take 22 = [184, 0, 35, 46, 42, 180, 0, 22, 29, 133, 28, 184, 0, 35, 46, 128, 42, 180, 0, 9, 29, 46] := by decide +kernel
theorem q10w11_5_67 : (cX3_pairFits.data.toList.drop 67).take 13 = [159, 0, 5, 3, 172, 132, 3, 1, 167, 255, 201, 4, 172] := by decide +kernel
theorem dX3_pairFits_0 : decode cX3_pairFits 0 = .ok (.aload_n 0, 1) := dz_42 (dz_at q10w11_5_0 0)
theorem dX3_pairFits_1 : decode cX3_pairFits 1 = .ok (.aload_n 0, 1) := dz_42 (dz_at q10w11_5_0 1)
theorem dX3_pairFits_10 : decode cX3_pairFits 10 = .ok (.aload_n 0, 1) := dz_42 (dz_at q10w11_5_0 10)
theorem dX3_pairFits_11 : decode cX3_pairFits 11 = .ok (.getfield 22, 3) := dz_180 (dz_at q10w11_5_0 11) rfl
theorem dX3_pairFits_14 : decode cX3_pairFits 14 = .ok (.iload_n 2, 1) := dz_28 (dz_at q10w11_5_0 14)
theorem dX3_pairFits_15 : decode cX3_pairFits 15 = .ok (.invokevirtual 49, 3) := dz_182 (dz_at q10w11_5_0 15) rfl
theorem dX3_pairFits_18 : decode cX3_pairFits 18 = .ok (.iconst 0, 1) := dz_3 (dz_at q10w11_5_0 18)
theorem dX3_pairFits_19 : decode cX3_pairFits 19 = .ok (.istore_n 3, 1) := dz_62 (dz_at q10w11_5_0 19)
theorem dX3_pairFits_2 : decode cX3_pairFits 2 = .ok (.getfield 19, 3) := dz_180 (dz_at q10w11_5_0 2) rfl
theorem dX3_pairFits_20 : decode cX3_pairFits 20 = .ok (.iload_n 3, 1) := dz_29 (dz_at q10w11_5_0 20)
theorem dX3_pairFits_21 : decode cX3_pairFits 21 = .ok (.aload_n 0, 1) := dz_42 (dz_at q10w11_5_0 21)
theorem dX3_pairFits_22 : decode cX3_pairFits 22 = .ok (.getfield 15, 3) := dz_180 (dz_at q10w11_5_22 0) rfl
theorem dX3_pairFits_25 : decode cX3_pairFits 25 = .ok (.if_icmp .ge 53, 3) := dz_162 (dz_at q10w11_5_22 3) (by decide +kernel)
theorem dX3_pairFits_28 : decode cX3_pairFits 28 = .ok (.aload_n 0, 1) := dz_42 (dz_at q10w11_5_22 6)
theorem dX3_pairFits_29 : decode cX3_pairFits 29 = .ok (.getfield 9, 3) := dz_180 (dz_at q10w11_5_22 7) rfl
theorem dX3_pairFits_32 : decode cX3_pairFits 32 = .ok (.iload_n 3, 1) := dz_29 (dz_at q10w11_5_22 10)
theorem dX3_pairFits_33 : decode cX3_pairFits 33 = .ok (.iaload, 1) := dz_46 (dz_at q10w11_5_22 11)
theorem dX3_pairFits_34 : decode cX3_pairFits 34 = .ok (.iconst (-1), 1) := dz_2 (dz_at q10w11_5_22 12)
theorem dX3_pairFits_35 : decode cX3_pairFits 35 = .ok (.if_icmp .eq 37, 3) := dz_159 (dz_at q10w11_5_22 13) (by decide +kernel)
theorem dX3_pairFits_38 : decode cX3_pairFits 38 = .ok (.aload_n 0, 1) := dz_42 (dz_at q10w11_5_22 16)
theorem dX3_pairFits_39 : decode cX3_pairFits 39 = .ok (.getfield 19, 3) := dz_180 (dz_at q10w11_5_22 17) rfl
theorem dX3_pairFits_42 : decode cX3_pairFits 42 = .ok (.iload_n 3, 1) := dz_29 (dz_at q10w11_5_22 20)
theorem dX3_pairFits_43 : decode cX3_pairFits 43 = .ok (.i2l, 1) := dz_133 (dz_at q10w11_5_22 21)
theorem dX3_pairFits_44 : decode cX3_pairFits 44 = .ok (.iload_n 1, 1) := dz_27 (dz_at q10w11_5_22 22)
theorem dX3_pairFits_45 : decode cX3_pairFits 45 = .ok (.invokestatic 35, 3) := dz_184 (dz_at q10w11_5_45 0) rfl
theorem dX3_pairFits_48 : decode cX3_pairFits 48 = .ok (.iaload, 1) := dz_46 (dz_at q10w11_5_45 3)
theorem dX3_pairFits_49 : decode cX3_pairFits 49 = .ok (.aload_n 0, 1) := dz_42 (dz_at q10w11_5_45 4)
theorem dX3_pairFits_5 : decode cX3_pairFits 5 = .ok (.iload_n 1, 1) := dz_27 (dz_at q10w11_5_0 5)
theorem dX3_pairFits_50 : decode cX3_pairFits 50 = .ok (.getfield 22, 3) := dz_180 (dz_at q10w11_5_45 5) rfl
theorem dX3_pairFits_53 : decode cX3_pairFits 53 = .ok (.iload_n 3, 1) := dz_29 (dz_at q10w11_5_45 8)
theorem dX3_pairFits_54 : decode cX3_pairFits 54 = .ok (.i2l, 1) := dz_133 (dz_at q10w11_5_45 9)
theorem dX3_pairFits_55 : decode cX3_pairFits 55 = .ok (.iload_n 2, 1) := dz_28 (dz_at q10w11_5_45 10)
theorem dX3_pairFits_56 : decode cX3_pairFits 56 = .ok (.invokestatic 35, 3) := dz_184 (dz_at q10w11_5_45 11) rfl
theorem dX3_pairFits_59 : decode cX3_pairFits 59 = .ok (.iaload, 1) := dz_46 (dz_at q10w11_5_45 14)
theorem dX3_pairFits_6 : decode cX3_pairFits 6 = .ok (.invokevirtual 49, 3) := dz_182 (dz_at q10w11_5_0 6) rfl
theorem dX3_pairFits_60 : decode cX3_pairFits 60 = .ok (.ior, 1) := dz_128 (dz_at q10w11_5_45 15)
theorem dX3_pairFits_61 : decode cX3_pairFits 61 = .ok (.aload_n 0, 1) := dz_42 (dz_at q10w11_5_45 16)
theorem dX3_pairFits_62 : decode cX3_pairFits 62 = .ok (.getfield 9, 3) := dz_180 (dz_at q10w11_5_45 17) rfl
theorem dX3_pairFits_65 : decode cX3_pairFits 65 = .ok (.iload_n 3, 1) := dz_29 (dz_at q10w11_5_45 20)
theorem dX3_pairFits_66 : decode cX3_pairFits 66 = .ok (.iaload, 1) := dz_46 (dz_at q10w11_5_45 21)
theorem dX3_pairFits_67 : decode cX3_pairFits 67 = .ok (.if_icmp .eq 5, 3) := dz_159 (dz_at q10w11_5_67 0) (by decide +kernel)
theorem dX3_pairFits_70 : decode cX3_pairFits 70 = .ok (.iconst 0, 1) := dz_3 (dz_at q10w11_5_67 3)
theorem dX3_pairFits_71 : decode cX3_pairFits 71 = .ok (.ireturn, 1) := dz_172 (dz_at q10w11_5_67 4)
theorem dX3_pairFits_72 : decode cX3_pairFits 72 = .ok (.iinc 3 1, 3) := dz_132 (dz_at q10w11_5_67 5) (by decide +kernel)
theorem dX3_pairFits_75 : decode cX3_pairFits 75 = .ok (.goto (-55), 3) := dz_167 (dz_at q10w11_5_67 8) (by decide +kernel)
theorem dX3_pairFits_78 : decode cX3_pairFits 78 = .ok (.iconst 1, 1) := dz_4 (dz_at q10w11_5_67 11)
theorem dX3_pairFits_79 : decode cX3_pairFits 79 = .ok (.ireturn, 1) := dz_172 (dz_at q10w11_5_67 12)
theorem dX3_pairFits_9 : decode cX3_pairFits 9 = .ok (.aload_n 0, 1) := dz_42 (dz_at q10w11_5_0 9)
theorem q10w11_6_0 : (cX3_pairNumber.data.toList.drop 0).take 23 = [3, 61, 5, 62, 29, 16, 48, 163, 0, 66, 4, 29, 16, 24, 100, 184, 0, 39, 54, 4, 21, 4, 29] := by decide +kernel
theorem q10w11_6_23 : (cX3_pairNumber.data.toList.drop 23).take 24 = [21, 4, 100, 163, 0, 41, 42, 21, 4, 29, 21, 4, 100, 182, 0, 45, 153, 0, 22, 28, 27, 160, 0, 14] := by decide +kernel
theorem q10w11_6_47 : (cX3_pairNumber.data.toList.drop 47).take 23 = [16, 100, 21, 4, 104, 29, 96, 21, 4, 100, 172, 132, 2, 1, 132, 4, 1, 167, 255, 212, 132, 3, 1] := by decide +kernel
theorem q10w11_6_70 : (cX3_pairNumber.data.toList.drop 70).take 5 = [167, 255, 190, 2, 172] := by decide +kernel
theorem dX3_pairNumber_0 : decode cX3_pairNumber 0 = .ok (.iconst 0, 1) := dz_3 (dz_at q10w11_6_0 0)
theorem dX3_pairNumber_1 : decode cX3_pairNumber 1 = .ok (.istore_n 2, 1) := dz_61 (dz_at q10w11_6_0 1)
theorem dX3_pairNumber_10 : decode cX3_pairNumber 10 = .ok (.iconst 1, 1) := dz_4 (dz_at q10w11_6_0 10)
theorem dX3_pairNumber_11 : decode cX3_pairNumber 11 = .ok (.iload_n 3, 1) := dz_29 (dz_at q10w11_6_0 11)
theorem dX3_pairNumber_12 : decode cX3_pairNumber 12 = .ok (.bipush 24, 2) := dz_16 (dz_at q10w11_6_0 12) (by decide +kernel)
theorem dX3_pairNumber_14 : decode cX3_pairNumber 14 = .ok (.isub, 1) := dz_100 (dz_at q10w11_6_0 14)
theorem dX3_pairNumber_15 : decode cX3_pairNumber 15 = .ok (.invokestatic 39, 3) := dz_184 (dz_at q10w11_6_0 15) rfl
theorem dX3_pairNumber_18 : decode cX3_pairNumber 18 = .ok (.istore 4, 2) := dz_54 (dz_at q10w11_6_0 18)
theorem dX3_pairNumber_2 : decode cX3_pairNumber 2 = .ok (.iconst 2, 1) := dz_5 (dz_at q10w11_6_0 2)
theorem dX3_pairNumber_20 : decode cX3_pairNumber 20 = .ok (.iload 4, 2) := dz_21 (dz_at q10w11_6_0 20)
theorem dX3_pairNumber_22 : decode cX3_pairNumber 22 = .ok (.iload_n 3, 1) := dz_29 (dz_at q10w11_6_0 22)
theorem dX3_pairNumber_23 : decode cX3_pairNumber 23 = .ok (.iload 4, 2) := dz_21 (dz_at q10w11_6_23 0)
theorem dX3_pairNumber_25 : decode cX3_pairNumber 25 = .ok (.isub, 1) := dz_100 (dz_at q10w11_6_23 2)
theorem dX3_pairNumber_26 : decode cX3_pairNumber 26 = .ok (.if_icmp .gt 41, 3) := dz_163 (dz_at q10w11_6_23 3) (by decide +kernel)
theorem dX3_pairNumber_29 : decode cX3_pairNumber 29 = .ok (.aload_n 0, 1) := dz_42 (dz_at q10w11_6_23 6)
theorem dX3_pairNumber_3 : decode cX3_pairNumber 3 = .ok (.istore_n 3, 1) := dz_62 (dz_at q10w11_6_0 3)
theorem dX3_pairNumber_30 : decode cX3_pairNumber 30 = .ok (.iload 4, 2) := dz_21 (dz_at q10w11_6_23 7)
theorem dX3_pairNumber_32 : decode cX3_pairNumber 32 = .ok (.iload_n 3, 1) := dz_29 (dz_at q10w11_6_23 9)
theorem dX3_pairNumber_33 : decode cX3_pairNumber 33 = .ok (.iload 4, 2) := dz_21 (dz_at q10w11_6_23 10)
theorem dX3_pairNumber_35 : decode cX3_pairNumber 35 = .ok (.isub, 1) := dz_100 (dz_at q10w11_6_23 12)
theorem dX3_pairNumber_36 : decode cX3_pairNumber 36 = .ok (.invokevirtual 45, 3) := dz_182 (dz_at q10w11_6_23 13) rfl
theorem dX3_pairNumber_39 : decode cX3_pairNumber 39 = .ok (.ifCond .eq 22, 3) := dz_153 (dz_at q10w11_6_23 16) (by decide +kernel)
theorem dX3_pairNumber_4 : decode cX3_pairNumber 4 = .ok (.iload_n 3, 1) := dz_29 (dz_at q10w11_6_0 4)
theorem dX3_pairNumber_42 : decode cX3_pairNumber 42 = .ok (.iload_n 2, 1) := dz_28 (dz_at q10w11_6_23 19)
theorem dX3_pairNumber_43 : decode cX3_pairNumber 43 = .ok (.iload_n 1, 1) := dz_27 (dz_at q10w11_6_23 20)
theorem dX3_pairNumber_44 : decode cX3_pairNumber 44 = .ok (.if_icmp .ne 14, 3) := dz_160 (dz_at q10w11_6_23 21) (by decide +kernel)
theorem dX3_pairNumber_47 : decode cX3_pairNumber 47 = .ok (.bipush 100, 2) := dz_16 (dz_at q10w11_6_47 0) (by decide +kernel)
theorem dX3_pairNumber_49 : decode cX3_pairNumber 49 = .ok (.iload 4, 2) := dz_21 (dz_at q10w11_6_47 2)
theorem dX3_pairNumber_5 : decode cX3_pairNumber 5 = .ok (.bipush 48, 2) := dz_16 (dz_at q10w11_6_0 5) (by decide +kernel)
theorem dX3_pairNumber_51 : decode cX3_pairNumber 51 = .ok (.imul, 1) := dz_104 (dz_at q10w11_6_47 4)
theorem dX3_pairNumber_52 : decode cX3_pairNumber 52 = .ok (.iload_n 3, 1) := dz_29 (dz_at q10w11_6_47 5)
theorem dX3_pairNumber_53 : decode cX3_pairNumber 53 = .ok (.iadd, 1) := dz_96 (dz_at q10w11_6_47 6)
theorem dX3_pairNumber_54 : decode cX3_pairNumber 54 = .ok (.iload 4, 2) := dz_21 (dz_at q10w11_6_47 7)
theorem dX3_pairNumber_56 : decode cX3_pairNumber 56 = .ok (.isub, 1) := dz_100 (dz_at q10w11_6_47 9)
theorem dX3_pairNumber_57 : decode cX3_pairNumber 57 = .ok (.ireturn, 1) := dz_172 (dz_at q10w11_6_47 10)
theorem dX3_pairNumber_58 : decode cX3_pairNumber 58 = .ok (.iinc 2 1, 3) := dz_132 (dz_at q10w11_6_47 11) (by decide +kernel)
theorem dX3_pairNumber_61 : decode cX3_pairNumber 61 = .ok (.iinc 4 1, 3) := dz_132 (dz_at q10w11_6_47 14) (by decide +kernel)
theorem dX3_pairNumber_64 : decode cX3_pairNumber 64 = .ok (.goto (-44), 3) := dz_167 (dz_at q10w11_6_47 17) (by decide +kernel)
theorem dX3_pairNumber_67 : decode cX3_pairNumber 67 = .ok (.iinc 3 1, 3) := dz_132 (dz_at q10w11_6_47 20) (by decide +kernel)
theorem dX3_pairNumber_7 : decode cX3_pairNumber 7 = .ok (.if_icmp .gt 66, 3) := dz_163 (dz_at q10w11_6_0 7) (by decide +kernel)
theorem dX3_pairNumber_70 : decode cX3_pairNumber 70 = .ok (.goto (-66), 3) := dz_167 (dz_at q10w11_6_70 0) (by decide +kernel)
theorem dX3_pairNumber_73 : decode cX3_pairNumber 73 = .ok (.iconst (-1), 1) := dz_2 (dz_at q10w11_6_70 3)
theorem dX3_pairNumber_74 : decode cX3_pairNumber 74 = .ok (.ireturn, 1) := dz_172 (dz_at q10w11_6_70 4)
theorem q10w11_7_0 : (cX4_add.data.toList.drop 0).take 24 = [42, 180, 0, 9, 8, 161, 0, 5, 2, 172, 3, 62, 29, 28, 162, 0, 38, 27, 29, 184, 0, 33, 54, 4] := by decide +kernel
theorem q10w11_7_24 : (cX4_add.data.toList.drop 24).take 22 = [21, 4, 16, 9, 164, 0, 5, 2, 172, 42, 180, 0, 24, 42, 180, 0, 9, 50, 29, 21, 4, 79] := by decide +kernel
theorem q10w11_7_46 : (cX4_add.data.toList.drop 46).take 23 = [132, 3, 1, 167, 255, 219, 42, 180, 0, 27, 42, 180, 0, 9, 28, 79, 42, 89, 180, 0, 9, 4, 96] := by decide +kernel
theorem q10w11_7_69 : (cX4_add.data.toList.drop 69).take 10 = [181, 0, 9, 42, 180, 0, 9, 4, 100, 172] := by decide +kernel
theorem dX4_add_0 : decode cX4_add 0 = .ok (.aload_n 0, 1) := dz_42 (dz_at q10w11_7_0 0)
theorem dX4_add_1 : decode cX4_add 1 = .ok (.getfield 9, 3) := dz_180 (dz_at q10w11_7_0 1) rfl
theorem dX4_add_10 : decode cX4_add 10 = .ok (.iconst 0, 1) := dz_3 (dz_at q10w11_7_0 10)
theorem dX4_add_11 : decode cX4_add 11 = .ok (.istore_n 3, 1) := dz_62 (dz_at q10w11_7_0 11)
theorem dX4_add_12 : decode cX4_add 12 = .ok (.iload_n 3, 1) := dz_29 (dz_at q10w11_7_0 12)
theorem dX4_add_13 : decode cX4_add 13 = .ok (.iload_n 2, 1) := dz_28 (dz_at q10w11_7_0 13)
theorem dX4_add_14 : decode cX4_add 14 = .ok (.if_icmp .ge 38, 3) := dz_162 (dz_at q10w11_7_0 14) (by decide +kernel)
theorem dX4_add_17 : decode cX4_add 17 = .ok (.iload_n 1, 1) := dz_27 (dz_at q10w11_7_0 17)
theorem dX4_add_18 : decode cX4_add 18 = .ok (.iload_n 3, 1) := dz_29 (dz_at q10w11_7_0 18)
theorem dX4_add_19 : decode cX4_add 19 = .ok (.invokestatic 33, 3) := dz_184 (dz_at q10w11_7_0 19) rfl
theorem dX4_add_22 : decode cX4_add 22 = .ok (.istore 4, 2) := dz_54 (dz_at q10w11_7_0 22)
theorem dX4_add_24 : decode cX4_add 24 = .ok (.iload 4, 2) := dz_21 (dz_at q10w11_7_24 0)
theorem dX4_add_26 : decode cX4_add 26 = .ok (.bipush 9, 2) := dz_16 (dz_at q10w11_7_24 2) (by decide +kernel)
theorem dX4_add_28 : decode cX4_add 28 = .ok (.if_icmp .le 5, 3) := dz_164 (dz_at q10w11_7_24 4) (by decide +kernel)
theorem dX4_add_31 : decode cX4_add 31 = .ok (.iconst (-1), 1) := dz_2 (dz_at q10w11_7_24 7)
theorem dX4_add_32 : decode cX4_add 32 = .ok (.ireturn, 1) := dz_172 (dz_at q10w11_7_24 8)
theorem dX4_add_33 : decode cX4_add 33 = .ok (.aload_n 0, 1) := dz_42 (dz_at q10w11_7_24 9)
theorem dX4_add_34 : decode cX4_add 34 = .ok (.getfield 24, 3) := dz_180 (dz_at q10w11_7_24 10) rfl
theorem dX4_add_37 : decode cX4_add 37 = .ok (.aload_n 0, 1) := dz_42 (dz_at q10w11_7_24 13)
theorem dX4_add_38 : decode cX4_add 38 = .ok (.getfield 9, 3) := dz_180 (dz_at q10w11_7_24 14) rfl
theorem dX4_add_4 : decode cX4_add 4 = .ok (.iconst 5, 1) := dz_8 (dz_at q10w11_7_0 4)
theorem dX4_add_41 : decode cX4_add 41 = .ok (.aaload, 1) := dz_50 (dz_at q10w11_7_24 17)
theorem dX4_add_42 : decode cX4_add 42 = .ok (.iload_n 3, 1) := dz_29 (dz_at q10w11_7_24 18)
theorem dX4_add_43 : decode cX4_add 43 = .ok (.iload 4, 2) := dz_21 (dz_at q10w11_7_24 19)
theorem dX4_add_45 : decode cX4_add 45 = .ok (.iastore, 1) := dz_79 (dz_at q10w11_7_24 21)
theorem dX4_add_46 : decode cX4_add 46 = .ok (.iinc 3 1, 3) := dz_132 (dz_at q10w11_7_46 0) (by decide +kernel)
theorem dX4_add_49 : decode cX4_add 49 = .ok (.goto (-37), 3) := dz_167 (dz_at q10w11_7_46 3) (by decide +kernel)
theorem dX4_add_5 : decode cX4_add 5 = .ok (.if_icmp .lt 5, 3) := dz_161 (dz_at q10w11_7_0 5) (by decide +kernel)
theorem dX4_add_52 : decode cX4_add 52 = .ok (.aload_n 0, 1) := dz_42 (dz_at q10w11_7_46 6)
theorem dX4_add_53 : decode cX4_add 53 = .ok (.getfield 27, 3) := dz_180 (dz_at q10w11_7_46 7) rfl
theorem dX4_add_56 : decode cX4_add 56 = .ok (.aload_n 0, 1) := dz_42 (dz_at q10w11_7_46 10)
theorem dX4_add_57 : decode cX4_add 57 = .ok (.getfield 9, 3) := dz_180 (dz_at q10w11_7_46 11) rfl
theorem dX4_add_60 : decode cX4_add 60 = .ok (.iload_n 2, 1) := dz_28 (dz_at q10w11_7_46 14)
theorem dX4_add_61 : decode cX4_add 61 = .ok (.iastore, 1) := dz_79 (dz_at q10w11_7_46 15)
theorem dX4_add_62 : decode cX4_add 62 = .ok (.aload_n 0, 1) := dz_42 (dz_at q10w11_7_46 16)
theorem dX4_add_63 : decode cX4_add 63 = .ok (.dup, 1) := dz_89 (dz_at q10w11_7_46 17)
theorem dX4_add_64 : decode cX4_add 64 = .ok (.getfield 9, 3) := dz_180 (dz_at q10w11_7_46 18) rfl
theorem dX4_add_67 : decode cX4_add 67 = .ok (.iconst 1, 1) := dz_4 (dz_at q10w11_7_46 21)
theorem dX4_add_68 : decode cX4_add 68 = .ok (.iadd, 1) := dz_96 (dz_at q10w11_7_46 22)
theorem dX4_add_69 : decode cX4_add 69 = .ok (.putfield 9, 3) := dz_181 (dz_at q10w11_7_69 0) rfl
theorem dX4_add_72 : decode cX4_add 72 = .ok (.aload_n 0, 1) := dz_42 (dz_at q10w11_7_69 3)
theorem dX4_add_73 : decode cX4_add 73 = .ok (.getfield 9, 3) := dz_180 (dz_at q10w11_7_69 4) rfl
theorem dX4_add_76 : decode cX4_add 76 = .ok (.iconst 1, 1) := dz_4 (dz_at q10w11_7_69 7)
theorem dX4_add_77 : decode cX4_add 77 = .ok (.isub, 1) := dz_100 (dz_at q10w11_7_69 8)
theorem dX4_add_78 : decode cX4_add 78 = .ok (.ireturn, 1) := dz_172 (dz_at q10w11_7_69 9)
theorem dX4_add_8 : decode cX4_add 8 = .ok (.iconst (-1), 1) := dz_2 (dz_at q10w11_7_0 8)
theorem dX4_add_9 : decode cX4_add 9 = .ok (.ireturn, 1) := dz_172 (dz_at q10w11_7_0 9)
theorem q10w11_8_0 : (cX4_digit.data.toList.drop 0).take 12 = [26, 16, 28, 7, 27, 104, 100, 124, 16, 15, 126, 172] := by decide +kernel
theorem dX4_digit_0 : decode cX4_digit 0 = .ok (.iload_n 0, 1) := dz_26 (dz_at q10w11_8_0 0)
theorem dX4_digit_1 : decode cX4_digit 1 = .ok (.bipush 28, 2) := dz_16 (dz_at q10w11_8_0 1) (by decide +kernel)
theorem dX4_digit_10 : decode cX4_digit 10 = .ok (.iand, 1) := dz_126 (dz_at q10w11_8_0 10)
theorem dX4_digit_11 : decode cX4_digit 11 = .ok (.ireturn, 1) := dz_172 (dz_at q10w11_8_0 11)
theorem dX4_digit_3 : decode cX4_digit 3 = .ok (.iconst 4, 1) := dz_7 (dz_at q10w11_8_0 3)
theorem dX4_digit_4 : decode cX4_digit 4 = .ok (.iload_n 1, 1) := dz_27 (dz_at q10w11_8_0 4)
theorem dX4_digit_5 : decode cX4_digit 5 = .ok (.imul, 1) := dz_104 (dz_at q10w11_8_0 5)
theorem dX4_digit_6 : decode cX4_digit 6 = .ok (.isub, 1) := dz_100 (dz_at q10w11_8_0 6)
theorem dX4_digit_7 : decode cX4_digit 7 = .ok (.iushr, 1) := dz_124 (dz_at q10w11_8_0 7)
theorem dX4_digit_8 : decode cX4_digit 8 = .ok (.bipush 15, 2) := dz_16 (dz_at q10w11_8_0 8) (by decide +kernel)
theorem q10w11_9_0 : (cX4_keepBetter.data.toList.drop 0).take 24 = [27, 42, 180, 0, 19, 161, 0, 19, 27, 42, 180, 0, 19, 160, 0, 30, 42, 27, 182, 0, 61, 153, 0, 22] := by decide +kernel
theorem q10w11_9_24 : (cX4_keepBetter.data.toList.drop 24).take 20 = [42, 27, 181, 0, 19, 42, 180, 0, 30, 3, 42, 180, 0, 15, 3, 27, 184, 0, 65, 177] := by decide +kernel
theorem dX4_keepBetter_0 : decode cX4_keepBetter 0 = .ok (.iload_n 1, 1) := dz_27 (dz_at q10w11_9_0 0)
theorem dX4_keepBetter_1 : decode cX4_keepBetter 1 = .ok (.aload_n 0, 1) := dz_42 (dz_at q10w11_9_0 1)
theorem dX4_keepBetter_10 : decode cX4_keepBetter 10 = .ok (.getfield 19, 3) := dz_180 (dz_at q10w11_9_0 10) rfl
theorem dX4_keepBetter_13 : decode cX4_keepBetter 13 = .ok (.if_icmp .ne 30, 3) := dz_160 (dz_at q10w11_9_0 13) (by decide +kernel)
theorem dX4_keepBetter_16 : decode cX4_keepBetter 16 = .ok (.aload_n 0, 1) := dz_42 (dz_at q10w11_9_0 16)
theorem dX4_keepBetter_17 : decode cX4_keepBetter 17 = .ok (.iload_n 1, 1) := dz_27 (dz_at q10w11_9_0 17)
theorem dX4_keepBetter_18 : decode cX4_keepBetter 18 = .ok (.invokevirtual 61, 3) := dz_182 (dz_at q10w11_9_0 18) rfl
theorem dX4_keepBetter_2 : decode cX4_keepBetter 2 = .ok (.getfield 19, 3) := dz_180 (dz_at q10w11_9_0 2) rfl
theorem dX4_keepBetter_21 : decode cX4_keepBetter 21 = .ok (.ifCond .eq 22, 3) := dz_153 (dz_at q10w11_9_0 21) (by decide +kernel)
theorem dX4_keepBetter_24 : decode cX4_keepBetter 24 = .ok (.aload_n 0, 1) := dz_42 (dz_at q10w11_9_24 0)
theorem dX4_keepBetter_25 : decode cX4_keepBetter 25 = .ok (.iload_n 1, 1) := dz_27 (dz_at q10w11_9_24 1)
theorem dX4_keepBetter_26 : decode cX4_keepBetter 26 = .ok (.putfield 19, 3) := dz_181 (dz_at q10w11_9_24 2) rfl
theorem dX4_keepBetter_29 : decode cX4_keepBetter 29 = .ok (.aload_n 0, 1) := dz_42 (dz_at q10w11_9_24 5)
theorem dX4_keepBetter_30 : decode cX4_keepBetter 30 = .ok (.getfield 30, 3) := dz_180 (dz_at q10w11_9_24 6) rfl
theorem dX4_keepBetter_33 : decode cX4_keepBetter 33 = .ok (.iconst 0, 1) := dz_3 (dz_at q10w11_9_24 9)
theorem dX4_keepBetter_34 : decode cX4_keepBetter 34 = .ok (.aload_n 0, 1) := dz_42 (dz_at q10w11_9_24 10)
theorem dX4_keepBetter_35 : decode cX4_keepBetter 35 = .ok (.getfield 15, 3) := dz_180 (dz_at q10w11_9_24 11) rfl
theorem dX4_keepBetter_38 : decode cX4_keepBetter 38 = .ok (.iconst 0, 1) := dz_3 (dz_at q10w11_9_24 14)
theorem dX4_keepBetter_39 : decode cX4_keepBetter 39 = .ok (.iload_n 1, 1) := dz_27 (dz_at q10w11_9_24 15)
theorem dX4_keepBetter_40 : decode cX4_keepBetter 40 = .ok (.invokestatic 65, 3) := dz_184 (dz_at q10w11_9_24 16) rfl
theorem dX4_keepBetter_43 : decode cX4_keepBetter 43 = .ok (.return_, 1) := dz_177 (dz_at q10w11_9_24 19)
theorem dX4_keepBetter_5 : decode cX4_keepBetter 5 = .ok (.if_icmp .lt 19, 3) := dz_161 (dz_at q10w11_9_0 5) (by decide +kernel)
theorem dX4_keepBetter_8 : decode cX4_keepBetter 8 = .ok (.iload_n 1, 1) := dz_27 (dz_at q10w11_9_0 8)
theorem dX4_keepBetter_9 : decode cX4_keepBetter 9 = .ok (.aload_n 0, 1) := dz_42 (dz_at q10w11_9_0 9)
theorem q10w11_10_0 : (cX4_laidIsLess.data.toList.drop 0).take 23 = [3, 61, 28, 27, 162, 0, 45, 42, 180, 0, 30, 28, 46, 42, 180, 0, 15, 28, 46, 159, 0, 24, 42] := by decide +kernel
theorem q10w11_10_23 : (cX4_laidIsLess.data.toList.drop 23).take 23 = [180, 0, 30, 28, 46, 42, 180, 0, 15, 28, 46, 162, 0, 7, 4, 167, 0, 4, 3, 172, 132, 2, 1] := by decide +kernel
theorem q10w11_10_46 : (cX4_laidIsLess.data.toList.drop 46).take 5 = [167, 255, 212, 3, 172] := by decide +kernel
theorem dX4_laidIsLess_0 : decode cX4_laidIsLess 0 = .ok (.iconst 0, 1) := dz_3 (dz_at q10w11_10_0 0)
theorem dX4_laidIsLess_1 : decode cX4_laidIsLess 1 = .ok (.istore_n 2, 1) := dz_61 (dz_at q10w11_10_0 1)
theorem dX4_laidIsLess_11 : decode cX4_laidIsLess 11 = .ok (.iload_n 2, 1) := dz_28 (dz_at q10w11_10_0 11)
theorem dX4_laidIsLess_12 : decode cX4_laidIsLess 12 = .ok (.iaload, 1) := dz_46 (dz_at q10w11_10_0 12)
theorem dX4_laidIsLess_13 : decode cX4_laidIsLess 13 = .ok (.aload_n 0, 1) := dz_42 (dz_at q10w11_10_0 13)
theorem dX4_laidIsLess_14 : decode cX4_laidIsLess 14 = .ok (.getfield 15, 3) := dz_180 (dz_at q10w11_10_0 14) rfl
theorem dX4_laidIsLess_17 : decode cX4_laidIsLess 17 = .ok (.iload_n 2, 1) := dz_28 (dz_at q10w11_10_0 17)
theorem dX4_laidIsLess_18 : decode cX4_laidIsLess 18 = .ok (.iaload, 1) := dz_46 (dz_at q10w11_10_0 18)
theorem dX4_laidIsLess_19 : decode cX4_laidIsLess 19 = .ok (.if_icmp .eq 24, 3) := dz_159 (dz_at q10w11_10_0 19) (by decide +kernel)
theorem dX4_laidIsLess_2 : decode cX4_laidIsLess 2 = .ok (.iload_n 2, 1) := dz_28 (dz_at q10w11_10_0 2)
theorem dX4_laidIsLess_22 : decode cX4_laidIsLess 22 = .ok (.aload_n 0, 1) := dz_42 (dz_at q10w11_10_0 22)
theorem dX4_laidIsLess_23 : decode cX4_laidIsLess 23 = .ok (.getfield 30, 3) := dz_180 (dz_at q10w11_10_23 0) rfl
theorem dX4_laidIsLess_26 : decode cX4_laidIsLess 26 = .ok (.iload_n 2, 1) := dz_28 (dz_at q10w11_10_23 3)
theorem dX4_laidIsLess_27 : decode cX4_laidIsLess 27 = .ok (.iaload, 1) := dz_46 (dz_at q10w11_10_23 4)
theorem dX4_laidIsLess_28 : decode cX4_laidIsLess 28 = .ok (.aload_n 0, 1) := dz_42 (dz_at q10w11_10_23 5)
theorem dX4_laidIsLess_29 : decode cX4_laidIsLess 29 = .ok (.getfield 15, 3) := dz_180 (dz_at q10w11_10_23 6) rfl
theorem dX4_laidIsLess_3 : decode cX4_laidIsLess 3 = .ok (.iload_n 1, 1) := dz_27 (dz_at q10w11_10_0 3)
theorem dX4_laidIsLess_32 : decode cX4_laidIsLess 32 = .ok (.iload_n 2, 1) := dz_28 (dz_at q10w11_10_23 9)
theorem dX4_laidIsLess_33 : decode cX4_laidIsLess 33 = .ok (.iaload, 1) := dz_46 (dz_at q10w11_10_23 10)
theorem dX4_laidIsLess_34 : decode cX4_laidIsLess 34 = .ok (.if_icmp .ge 7, 3) := dz_162 (dz_at q10w11_10_23 11) (by decide +kernel)
theorem dX4_laidIsLess_37 : decode cX4_laidIsLess 37 = .ok (.iconst 1, 1) := dz_4 (dz_at q10w11_10_23 14)
theorem dX4_laidIsLess_38 : decode cX4_laidIsLess 38 = .ok (.goto 4, 3) := dz_167 (dz_at q10w11_10_23 15) (by decide +kernel)
theorem dX4_laidIsLess_4 : decode cX4_laidIsLess 4 = .ok (.if_icmp .ge 45, 3) := dz_162 (dz_at q10w11_10_0 4) (by decide +kernel)
theorem dX4_laidIsLess_41 : decode cX4_laidIsLess 41 = .ok (.iconst 0, 1) := dz_3 (dz_at q10w11_10_23 18)
theorem dX4_laidIsLess_42 : decode cX4_laidIsLess 42 = .ok (.ireturn, 1) := dz_172 (dz_at q10w11_10_23 19)
theorem dX4_laidIsLess_43 : decode cX4_laidIsLess 43 = .ok (.iinc 2 1, 3) := dz_132 (dz_at q10w11_10_23 20) (by decide +kernel)
theorem dX4_laidIsLess_46 : decode cX4_laidIsLess 46 = .ok (.goto (-44), 3) := dz_167 (dz_at q10w11_10_46 0) (by decide +kernel)
theorem dX4_laidIsLess_49 : decode cX4_laidIsLess 49 = .ok (.iconst 0, 1) := dz_3 (dz_at q10w11_10_46 3)
theorem dX4_laidIsLess_50 : decode cX4_laidIsLess 50 = .ok (.ireturn, 1) := dz_172 (dz_at q10w11_10_46 4)
theorem dX4_laidIsLess_7 : decode cX4_laidIsLess 7 = .ok (.aload_n 0, 1) := dz_42 (dz_at q10w11_10_0 7)
theorem dX4_laidIsLess_8 : decode cX4_laidIsLess 8 = .ok (.getfield 30, 3) := dz_180 (dz_at q10w11_10_0 8) rfl
theorem q10w11_11_0 : (cX4_sound.data.toList.drop 0).take 24 = [42, 180, 0, 24, 27, 50, 28, 153, 0, 16, 42, 180, 0, 27, 27, 46, 4, 100, 29, 100, 167, 0, 4, 29] := by decide +kernel
theorem q10w11_11_24 : (cX4_sound.data.toList.drop 24).take 2 = [46, 172] := by decide +kernel
theorem dX4_sound_0 : decode cX4_sound 0 = .ok (.aload_n 0, 1) := dz_42 (dz_at q10w11_11_0 0)
theorem dX4_sound_1 : decode cX4_sound 1 = .ok (.getfield 24, 3) := dz_180 (dz_at q10w11_11_0 1) rfl
theorem dX4_sound_10 : decode cX4_sound 10 = .ok (.aload_n 0, 1) := dz_42 (dz_at q10w11_11_0 10)
theorem dX4_sound_11 : decode cX4_sound 11 = .ok (.getfield 27, 3) := dz_180 (dz_at q10w11_11_0 11) rfl
theorem dX4_sound_14 : decode cX4_sound 14 = .ok (.iload_n 1, 1) := dz_27 (dz_at q10w11_11_0 14)
theorem dX4_sound_15 : decode cX4_sound 15 = .ok (.iaload, 1) := dz_46 (dz_at q10w11_11_0 15)
theorem dX4_sound_16 : decode cX4_sound 16 = .ok (.iconst 1, 1) := dz_4 (dz_at q10w11_11_0 16)
theorem dX4_sound_17 : decode cX4_sound 17 = .ok (.isub, 1) := dz_100 (dz_at q10w11_11_0 17)
theorem dX4_sound_18 : decode cX4_sound 18 = .ok (.iload_n 3, 1) := dz_29 (dz_at q10w11_11_0 18)
theorem dX4_sound_19 : decode cX4_sound 19 = .ok (.isub, 1) := dz_100 (dz_at q10w11_11_0 19)
theorem dX4_sound_20 : decode cX4_sound 20 = .ok (.goto 4, 3) := dz_167 (dz_at q10w11_11_0 20) (by decide +kernel)
theorem dX4_sound_23 : decode cX4_sound 23 = .ok (.iload_n 3, 1) := dz_29 (dz_at q10w11_11_0 23)
theorem dX4_sound_24 : decode cX4_sound 24 = .ok (.iaload, 1) := dz_46 (dz_at q10w11_11_24 0)
theorem dX4_sound_25 : decode cX4_sound 25 = .ok (.ireturn, 1) := dz_172 (dz_at q10w11_11_24 1)
theorem dX4_sound_4 : decode cX4_sound 4 = .ok (.iload_n 1, 1) := dz_27 (dz_at q10w11_11_0 4)
theorem dX4_sound_5 : decode cX4_sound 5 = .ok (.aaload, 1) := dz_50 (dz_at q10w11_11_0 5)
theorem dX4_sound_6 : decode cX4_sound 6 = .ok (.iload_n 2, 1) := dz_28 (dz_at q10w11_11_0 6)
theorem dX4_sound_7 : decode cX4_sound 7 = .ok (.ifCond .eq 16, 3) := dz_153 (dz_at q10w11_11_0 7) (by decide +kernel)
theorem dm_X3_makeGreatest : yX3_makeGreatest.cls = RX3 ∧ yX3_makeGreatest.cls ≠ "java/lang/invoke/MethodHandle" ∧ yX3_makeGreatest.cls ≠ "java/lang/invoke/VarHandle" ∧ (parseMethodDescriptor yX3_makeGreatest.desc).map (fun d => d.parameters.length) = some 2 := by decide +kernel
theorem dm_X3_pairFits : yX3_pairFits.cls = RX3 ∧ yX3_pairFits.cls ≠ "java/lang/invoke/MethodHandle" ∧ yX3_pairFits.cls ≠ "java/lang/invoke/VarHandle" ∧ (parseMethodDescriptor yX3_pairFits.desc).map (fun d => d.parameters.length) = some 2 := by decide +kernel
theorem dm_X3_pairNumber : yX3_pairNumber.cls = RX3 ∧ yX3_pairNumber.cls ≠ "java/lang/invoke/MethodHandle" ∧ yX3_pairNumber.cls ≠ "java/lang/invoke/VarHandle" ∧ (parseMethodDescriptor yX3_pairNumber.desc).map (fun d => d.parameters.length) = some 1 := by decide +kernel
theorem dm_X3_mendedAt : yX3_mendedAt.cls = RX3 ∧ yX3_mendedAt.cls ≠ "java/lang/invoke/MethodHandle" ∧ yX3_mendedAt.cls ≠ "java/lang/invoke/VarHandle" ∧ (parseMethodDescriptor yX3_mendedAt.desc).map (fun d => d.parameters.length) = some 1 := by decide +kernel
theorem dm_X4_digit : yX4_digit.cls = RX4 ∧ yX4_digit.cls ≠ "java/lang/invoke/MethodHandle" ∧ yX4_digit.cls ≠ "java/lang/invoke/VarHandle" ∧ (parseMethodDescriptor yX4_digit.desc).map (fun d => d.parameters.length) = some 2 := by decide +kernel
theorem dm_X4_add : yX4_add.cls = RX4 ∧ yX4_add.cls ≠ "java/lang/invoke/MethodHandle" ∧ yX4_add.cls ≠ "java/lang/invoke/VarHandle" ∧ (parseMethodDescriptor yX4_add.desc).map (fun d => d.parameters.length) = some 2 := by decide +kernel
theorem dm_X4_laidIsLess : yX4_laidIsLess.cls = RX4 ∧ yX4_laidIsLess.cls ≠ "java/lang/invoke/MethodHandle" ∧ yX4_laidIsLess.cls ≠ "java/lang/invoke/VarHandle" ∧ (parseMethodDescriptor yX4_laidIsLess.desc).map (fun d => d.parameters.length) = some 1 := by decide +kernel
set_option maxRecDepth 100000 in
def wC_OldTape_pairFits (a0 : Int) (a1 : Int) (M : zM) (Q : Int → zM → Prop) : Prop := wC_OldTape_makeGreatest 84 a0 M (fun M1 => wC_OldTape_makeGreatest 85 a1 M1 (fun M2 => pL1 (fun K20 x3 => ((sI (M2 82 1)) ≤ (sI x3) → Q 1 M2) ∧ ((sI x3) < (sI (M2 82 1)) → ((0 ≤ (sI x3) ∧ (sI x3) < 60) ∧ ((sI (M2 83 (sI x3).toNat)) = (-1) → K20 (x3 + 1)) ∧ ((sI (M2 83 (sI x3).toNat)) ≠ (-1) → wC_by (sI x3) a0 M2 (fun z17 => ((0 ≤ z17 ∧ z17 < 24) ∧ wC_by (sI x3) a1 M2 (fun z22 => ((0 ≤ z22 ∧ z22 < 24) ∧ ((0 ≤ (sI x3) ∧ (sI x3) < 60) ∧ ((orI (M2 84 z17.toNat) (M2 85 z22.toNat)) = (sI (M2 83 (sI x3).toNat)) → K20 (x3 + 1)) ∧ ((orI (M2 84 z17.toNat) (M2 85 z22.toNat)) ≠ (sI (M2 83 (sI x3).toNat)) → Q 0 M2)))))))))) 0))
set_option maxHeartbeats 4000000 in
set_option maxRecDepth 100000 in
theorem cC_OldTape_pairFits (l : Launch) (D : va_G) (dA : Nat → ClassId) (b : Nat) (M : zM) (a0 : Int) (a1 : Int)  (Q : Int → zM → Prop) (h : wC_OldTape_pairFits a0 a1 M Q) : Met l yX3_pairFits (.code yX3_pairFits cX3_pairFits 4 (some .boolean) :: zt) (z_rm 2) (va_Pc [.ref (b + 82), .int (iI a0), .int (iI a1)] (wPre D dA vwCl (z_tys dA) wC nC b M)) (va_Qi (wQz Q) (zB D dA vwCl wC nC b) (zA nC b)) 0 0 (zA nC b) := by
  unfold wC_OldTape_pairFits at h
  refine Met.ofW (cc := cX3_pairFits) (maxL := 4) (ret := (some .boolean)) (by decide) rfl ?_
  intro p e s m args below meth c s₁ B hml hv
  obtain ⟨hargs, hS, hK⟩ := hv
  have hx := B.exec
  have hb := B.bytes
  have hr := B.returns
  have hts := atoms_spec (ws := .code yX3_pairFits cX3_pairFits 4 (some .boolean) :: zt) B.pre
  have hown : s.vm.findClass RX3 = some m.cls := findClass_of_methodNamed B.named
  have hlocks := B.notSynchronized
  have hS0 : va_S (zA nC b) s.heap s.heap [] := va_S.rf
  have hl := lv_entry ([.ref (b + 82), .int (iI a0), .int (iI a1)]) (n := 4) (Nat.le_of_ble_eq_true rfl)
  have hent : entryFrame m args 4 = F0 m 0 ((lg_sl ([.ref (b + 82), .int (iI a0), .int (iI a1)]) ++ List.replicate (4 - (lg_sl ([.ref (b + 82), .int (iI a0), .int (iI a1)])).length) Slot.unset).toArray) [] := by rw [hargs]; exact lg_entry_eq m ([.ref (b + 82), .int (iI a0), .int (iI a1)]) 4
  rw [hent]
  generalize (lg_sl ([.ref (b + 82), .int (iI a0), .int (iI a1)]) ++ List.replicate (4 - (lg_sl ([.ref (b + 82), .int (iI a0), .int (iI a1)])).length) Slot.unset).toArray = ls at hl ⊢
  have hl : lv_has ls 4 [(0, .ref (b + 82)), (1, .int (iI a0)), (2, .int (iI a1))] := hl
  refine lv_aload_n hx hb dX3_pairFits_0 rfl (lv_at hl 0 rfl) ?_
  refine lv_aload_n hx hb dX3_pairFits_1 rfl (lv_at hl 0 rfl) ?_
  refine w_getr (j2 := 84) hx hb hts (z_memU u3) hown hK.1 hS f3_2 (by decide) (zkd_of (rfl : zcd wC 82 = 34) rfl) (zrf_of (rfl : zcd wC 82 = 34) rfl) (Or.inl (hts _ (z_mem k198))) dX3_pairFits_2 ?_
  refine lv_iload_n hx hb dX3_pairFits_5 rfl (lv_at hl 1 rfl) ?_
  refine w_callv (va_runV (As := [.ref (b + 84), .int (iI a0)]) (rest := []) ⟨hx, hb, hml, hown, hts⟩ (cC_OldTape_makeGreatest l D dA b M 84 a0 (by decide) (zkd_of (rfl : zcd wC 84 = 36) rfl) (Nat.lt_of_le_of_lt (Nat.le_of_eq (zln_of (rfl : zcd wC 84 = 36) rfl)) (by decide)) _ h) (cwV 2 hts (z_gV k782 k783 k1383 k11 k784) rfl rfl rfl dm_X3_makeGreatest ⟨Nat.le_of_ble_eq_true rfl, Nat.le_of_ble_eq_true rfl⟩) ⟨wPre_blind, (w_recv hS hK.1 (by decide) (zkd_of (rfl : zcd wC 82 = 34) rfl) (by decide) (rfl : vwCl[3]? = some (RX3, TX3, 4))), w_pre hS hK⟩ rfl rfl hl.1 rfl (lv_room (Nat.le_of_ble_eq_true rfl)) dX3_pairFits_6 ⟨Nat.le_refl _, Nat.le_refl _⟩) hS0 (fun M1 H locs h hS hS0 => ?_)
  refine lv_aload_n hx hb dX3_pairFits_9 rfl (lv_at hl 0 rfl) ?_
  refine lv_aload_n hx hb dX3_pairFits_10 rfl (lv_at hl 0 rfl) ?_
  refine w_getr (j2 := 85) hx hb hts (z_memU u3) hown hK.1 hS f3_3 (by decide) (zkd_of (rfl : zcd wC 82 = 34) rfl) (zrf_of (rfl : zcd wC 82 = 34) rfl) (Or.inl (hts _ (z_mem k199))) dX3_pairFits_11 ?_
  refine lv_iload_n hx hb dX3_pairFits_14 rfl (lv_at hl 2 rfl) ?_
  refine w_callv (va_runV (As := [.ref (b + 85), .int (iI a1)]) (rest := []) ⟨hx, hb, hml, hown, hts⟩ (cC_OldTape_makeGreatest l D dA b M1 85 a1 (by decide) (zkd_of (rfl : zcd wC 85 = 37) rfl) (Nat.lt_of_le_of_lt (Nat.le_of_eq (zln_of (rfl : zcd wC 85 = 37) rfl)) (by decide)) _ h) (cwV 2 hts (z_gV k782 k783 k1383 k11 k784) rfl rfl rfl dm_X3_makeGreatest ⟨Nat.le_of_ble_eq_true rfl, Nat.le_of_ble_eq_true rfl⟩) ⟨wPre_blind, (w_recv hS hK.1 (by decide) (zkd_of (rfl : zcd wC 82 = 34) rfl) (by decide) (rfl : vwCl[3]? = some (RX3, TX3, 4))), w_pre hS hK⟩ rfl rfl hl.1 rfl (lv_room (Nat.le_of_ble_eq_true rfl)) dX3_pairFits_15 ⟨Nat.le_refl _, Nat.le_refl _⟩) hS0 (fun M2 H locs h hS hS0 => ?_)
  refine z_iconst hx hb dX3_pairFits_18 ?_
  refine lv_istore_n (lv' := [(3, .int (iI 0)), (0, .ref (b + 82)), (1, .int (iI a0)), (2, .int (iI a1))]) hx hb dX3_pairFits_19 rfl hl (by decide) rfl (fun ls hl => ?_)
  obtain ⟨I4, ⟨n5, h6⟩, h7⟩ := h
  have L8 : ∀ (n9 : Nat) (x3 : Int) (H : Heap) (locs : List Loc) (ls : Array Slot), I4 n9 x3 → zR D dA vwCl wC nC b M2 H → va_S (zA nC b) s.heap H locs → lv_has ls 4 [(0, .ref (b + 82)), (1, .int (iI a0)), (2, .int (iI a1)), (3, .int (iI x3))] → W p l e (headSpec (.code yX3_pairFits cX3_pairFits 4 (some .boolean) :: zt) (z_rm 2)).room s m args below meth c H locs 0 0 (MQ below (va_Qi (wQz Q) (zB D dA vwCl wC nC b) (zA nC b)) args s 0 0 (zA nC b)) (F0 m 20 ls []) := by
    intro n9
    induction n9 using Nat.strongRecOn with
    | ind n9 i10 =>
      intro x3 H locs ls h hS hS0 hl
      have h := h7 n9 x3 h
      refine lv_iload_n hx hb dX3_pairFits_20 rfl (lv_at hl 3 rfl) ?_
      refine lv_aload_n hx hb dX3_pairFits_21 rfl (lv_at hl 0 rfl) ?_
      refine w_geti hx hb hts (z_memU u3) hown hK.1 hS f3_1 (by decide) (zkd_of (rfl : zcd wC 82 = 34) rfl) (Or.inl (hts _ (z_mem k196))) dX3_pairFits_22 ?_
      refine w_icmp_ge (tgt := 78) hx hb rfl rfl dX3_pairFits_25 (by decide) (fun c11 => ?_) (fun c11 => ?_)
      · skip
        have h := h.1 c11
        refine z_iconst hx hb dX3_pairFits_78 ?_
        exact w_zret hx hb hr hlocks hS hS0 (sI_of (by decide)) (by decide) h dX3_pairFits_79
      · skip
        have h := h.2 c11
        refine lv_aload_n hx hb dX3_pairFits_28 rfl (lv_at hl 0 rfl) ?_
        refine w_getr (j2 := 83) hx hb hts (z_memU u3) hown hK.1 hS f3_0 (by decide) (zkd_of (rfl : zcd wC 82 = 34) rfl) (zrf_of (rfl : zcd wC 82 = 34) rfl) (Or.inl (hts _ (z_mem k195))) dX3_pairFits_29 ?_
        refine lv_iload_n hx hb dX3_pairFits_32 rfl (lv_at hl 3 rfl) ?_
        obtain ⟨o12, h⟩ := h
        refine w_iald (n := 60) (i := (sI x3)) hx hb hK.1 (t0 := 0) rfl hS (by decide) (zkd_of (rfl : zcd wC 83 = 35) rfl) (zln_of (rfl : zcd wC 83 = 35) rfl) rfl o12.1 o12.2 (by decide) dX3_pairFits_33 ?_
        refine z_iconst hx hb dX3_pairFits_34 ?_
        refine w_icmp_eq (tgt := 72) hx hb rfl (sI_of (by decide)) dX3_pairFits_35 (by decide) (fun c13 => ?_) (fun c13 => ?_)
        · skip
          have h := h.1 c13
          refine z_iinc (lv' := [(3, .int (iI (x3 + 1))), (0, .ref (b + 82)), (1, .int (iI a0)), (2, .int (iI a1))]) hx hb dX3_pairFits_72 hl (k := 3) rfl (by decide) rfl (fun ls hl => ?_)
          refine lv_goto (tgt := 20) hx hb dX3_pairFits_75 (by decide) ?_
          obtain ⟨n14, h15, h⟩ := h
          exact i10 n14 h15 (x3 + 1) _ _ _ h hS hS0 (lv_sub hl [1, 2, 3, 0] rfl)
        · skip
          have h := h.2 c13
          refine lv_aload_n hx hb dX3_pairFits_38 rfl (lv_at hl 0 rfl) ?_
          refine w_getr (j2 := 84) hx hb hts (z_memU u3) hown hK.1 hS f3_2 (by decide) (zkd_of (rfl : zcd wC 82 = 34) rfl) (zrf_of (rfl : zcd wC 82 = 34) rfl) (Or.inl (hts _ (z_mem k198))) dX3_pairFits_39 ?_
          refine lv_iload_n hx hb dX3_pairFits_42 rfl (lv_at hl 3 rfl) ?_
          refine w_i2l hx hb rfl dX3_pairFits_43 ?_
          refine lv_iload_n hx hb dX3_pairFits_44 rfl (lv_at hl 1 rfl) ?_
          refine w_calli (va_runSN (As := [.long (iL (sI x3)), .int (iI a0)]) (rest := [.ref (b + 84)]) ⟨hx, hb, hml, hown, hts⟩ (cC_by l D dA b M2 (sI x3) a0 _ h) ⟨va_cnB 2 hts (z_gN k406) rfl rfl rfl (hK.2 (RX3, 35, yX11_by, RX11) (List.mem_of_getElem? (i := 17) rfl)) (hts _ (z_mem k1)) dm_X11_by.2 ⟨Nat.le_of_ble_eq_true rfl, Nat.le_of_ble_eq_true rfl⟩, (hts _ (z_mem k405)), trivial⟩ ⟨wPre_blind, w_pre hS hK⟩ rfl rfl hl.1 rfl (lv_room (Nat.le_of_ble_eq_true rfl)) dX3_pairFits_45 ⟨Nat.le_refl _, Nat.le_refl _⟩) hS0 (fun z17 M16 H locs r18 h hS hS0 => ?_)
          obtain ⟨e19, h⟩ := h
          rw [e19] at hS
          obtain ⟨o20, h⟩ := h
          refine w_iald (n := 24) (i := z17) hx hb hK.1 (t0 := 0) rfl hS (by decide) (zkd_of (rfl : zcd wC 84 = 36) rfl) (zln_of (rfl : zcd wC 84 = 36) rfl) (sI_of r18) o20.1 o20.2 (by decide) dX3_pairFits_48 ?_
          refine lv_aload_n hx hb dX3_pairFits_49 rfl (lv_at hl 0 rfl) ?_
          refine w_getr (j2 := 85) hx hb hts (z_memU u3) hown hK.1 hS f3_3 (by decide) (zkd_of (rfl : zcd wC 82 = 34) rfl) (zrf_of (rfl : zcd wC 82 = 34) rfl) (Or.inl (hts _ (z_mem k199))) dX3_pairFits_50 ?_
          refine lv_iload_n hx hb dX3_pairFits_53 rfl (lv_at hl 3 rfl) ?_
          refine w_i2l hx hb rfl dX3_pairFits_54 ?_
          refine lv_iload_n hx hb dX3_pairFits_55 rfl (lv_at hl 2 rfl) ?_
          refine w_calli (va_runSN (As := [.long (iL (sI x3)), .int (iI a1)]) (rest := [.ref (b + 85), .int (iI (M2 84 z17.toNat))]) ⟨hx, hb, hml, hown, hts⟩ (cC_by l D dA b M2 (sI x3) a1 _ h) ⟨va_cnB 2 hts (z_gN k406) rfl rfl rfl (hK.2 (RX3, 35, yX11_by, RX11) (List.mem_of_getElem? (i := 17) rfl)) (hts _ (z_mem k1)) dm_X11_by.2 ⟨Nat.le_of_ble_eq_true rfl, Nat.le_of_ble_eq_true rfl⟩, (hts _ (z_mem k405)), trivial⟩ ⟨wPre_blind, w_pre hS hK⟩ rfl rfl hl.1 rfl (lv_room (Nat.le_of_ble_eq_true rfl)) dX3_pairFits_56 ⟨Nat.le_refl _, Nat.le_refl _⟩) hS0 (fun z22 M21 H locs r23 h hS hS0 => ?_)
          obtain ⟨e24, h⟩ := h
          rw [e24] at hS
          obtain ⟨o25, h⟩ := h
          refine w_iald (n := 24) (i := z22) hx hb hK.1 (t0 := 0) rfl hS (by decide) (zkd_of (rfl : zcd wC 85 = 37) rfl) (zln_of (rfl : zcd wC 85 = 37) rfl) (sI_of r23) o25.1 o25.2 (by decide) dX3_pairFits_59 ?_
          refine w_ior hx hb dX3_pairFits_60 ?_
          refine lv_aload_n hx hb dX3_pairFits_61 rfl (lv_at hl 0 rfl) ?_
          refine w_getr (j2 := 83) hx hb hts (z_memU u3) hown hK.1 hS f3_0 (by decide) (zkd_of (rfl : zcd wC 82 = 34) rfl) (zrf_of (rfl : zcd wC 82 = 34) rfl) (Or.inl (hts _ (z_mem k195))) dX3_pairFits_62 ?_
          refine lv_iload_n hx hb dX3_pairFits_65 rfl (lv_at hl 3 rfl) ?_
          obtain ⟨o26, h⟩ := h
          refine w_iald (n := 60) (i := (sI x3)) hx hb hK.1 (t0 := 0) rfl hS (by decide) (zkd_of (rfl : zcd wC 83 = 35) rfl) (zln_of (rfl : zcd wC 83 = 35) rfl) rfl o26.1 o26.2 (by decide) dX3_pairFits_66 ?_
          refine w_icmp_eq (tgt := 72) hx hb (sI_of (orI_R _ _)) rfl dX3_pairFits_67 (by decide) (fun c27 => ?_) (fun c27 => ?_)
          · skip
            have h := h.1 c27
            refine z_iinc (lv' := [(3, .int (iI (x3 + 1))), (0, .ref (b + 82)), (1, .int (iI a0)), (2, .int (iI a1))]) hx hb dX3_pairFits_72 hl (k := 3) rfl (by decide) rfl (fun ls hl => ?_)
            refine lv_goto (tgt := 20) hx hb dX3_pairFits_75 (by decide) ?_
            obtain ⟨n28, h29, h⟩ := h
            exact i10 n28 h29 (x3 + 1) _ _ _ h hS hS0 (lv_sub hl [1, 2, 3, 0] rfl)
          · skip
            have h := h.2 c27
            refine z_iconst hx hb dX3_pairFits_70 ?_
            exact w_zret hx hb hr hlocks hS hS0 (sI_of (by decide)) (by decide) h dX3_pairFits_71
  exact L8 n5 0 _ _ _ h6 hS hS0 (lv_sub hl [1, 2, 3, 0] rfl)

set_option maxRecDepth 100000 in
def wC_OldTape_pairNumber (a0 : Int) (M : zM) (Q : Int → zM → Prop) : Prop := wL2 (fun K4 x1 x2 M3 => (48 < (sI x2) → Q (-1) M3) ∧ ((sI x2) ≤ 48 → wL2 (fun K20 x12 x13 M14 => ((sI (x2 - x13)) < (sI x13) → K4 x12 (x2 + 1) M14) ∧ ((sI x13) ≤ (sI (x2 - x13)) → wC_OldTape_pairFits x13 (x2 - x13) M14 (fun z26 M25 => (z26 = 0 → K20 x12 (x13 + 1) M25) ∧ (z26 ≠ 0 → ((sI x12) ≠ (sI a0) → K20 (x12 + 1) (x13 + 1) M25) ∧ ((sI x12) = (sI a0) → Q (sI (((100 * x13) + x2) - x13)) M25))))) x1 (max 1 (sI (x2 - 24))) M3)) 0 2 M
set_option maxHeartbeats 4000000 in
set_option maxRecDepth 100000 in
theorem cC_OldTape_pairNumber (l : Launch) (D : va_G) (dA : Nat → ClassId) (b : Nat) (M : zM) (a0 : Int)  (Q : Int → zM → Prop) (h : wC_OldTape_pairNumber a0 M Q) : Met l yX3_pairNumber (.code yX3_pairNumber cX3_pairNumber 5 (some .int) :: zt) (z_rm 3) (va_Pc [.ref (b + 82), .int (iI a0)] (wPre D dA vwCl (z_tys dA) wC nC b M)) (va_Qi (wQi Q) (zB D dA vwCl wC nC b) (zA nC b)) 0 0 (zA nC b) := by
  unfold wC_OldTape_pairNumber at h
  refine Met.ofW (cc := cX3_pairNumber) (maxL := 5) (ret := (some .int)) (by decide) rfl ?_
  intro p e s m args below meth c s₁ B hml hv
  obtain ⟨hargs, hS, hK⟩ := hv
  have hx := B.exec
  have hb := B.bytes
  have hr := B.returns
  have hts := atoms_spec (ws := .code yX3_pairNumber cX3_pairNumber 5 (some .int) :: zt) B.pre
  have hown : s.vm.findClass RX3 = some m.cls := findClass_of_methodNamed B.named
  have hlocks := B.notSynchronized
  have hS0 : va_S (zA nC b) s.heap s.heap [] := va_S.rf
  have hl := lv_entry ([.ref (b + 82), .int (iI a0)]) (n := 5) (Nat.le_of_ble_eq_true rfl)
  have hent : entryFrame m args 5 = F0 m 0 ((lg_sl ([.ref (b + 82), .int (iI a0)]) ++ List.replicate (5 - (lg_sl ([.ref (b + 82), .int (iI a0)])).length) Slot.unset).toArray) [] := by rw [hargs]; exact lg_entry_eq m ([.ref (b + 82), .int (iI a0)]) 5
  rw [hent]
  generalize (lg_sl ([.ref (b + 82), .int (iI a0)]) ++ List.replicate (5 - (lg_sl ([.ref (b + 82), .int (iI a0)])).length) Slot.unset).toArray = ls at hl ⊢
  have hl : lv_has ls 5 [(0, .ref (b + 82)), (1, .int (iI a0))] := hl
  refine z_iconst hx hb dX3_pairNumber_0 ?_
  refine lv_istore_n (lv' := [(2, .int (iI 0)), (0, .ref (b + 82)), (1, .int (iI a0))]) hx hb dX3_pairNumber_1 rfl hl (by decide) rfl (fun ls hl => ?_)
  refine z_iconst hx hb dX3_pairNumber_2 ?_
  refine lv_istore_n (lv' := [(3, .int (iI 2)), (2, .int (iI 0)), (0, .ref (b + 82)), (1, .int (iI a0))]) hx hb dX3_pairNumber_3 rfl hl (by decide) rfl (fun ls hl => ?_)
  obtain ⟨I4, ⟨n5, h6⟩, h7⟩ := h
  have L8 : ∀ (n9 : Nat) (x1 x2 : Int) (M3 : zM) (H : Heap) (locs : List Loc) (ls : Array Slot), I4 n9 x1 x2 M3 → zR D dA vwCl wC nC b M3 H → va_S (zA nC b) s.heap H locs → lv_has ls 5 [(0, .ref (b + 82)), (1, .int (iI a0)), (2, .int (iI x1)), (3, .int (iI x2))] → W p l e (headSpec (.code yX3_pairNumber cX3_pairNumber 5 (some .int) :: zt) (z_rm 3)).room s m args below meth c H locs 0 0 (MQ below (va_Qi (wQi Q) (zB D dA vwCl wC nC b) (zA nC b)) args s 0 0 (zA nC b)) (F0 m 4 ls []) := by
    intro n9
    induction n9 using Nat.strongRecOn with
    | ind n9 i10 =>
      intro x1 x2 M3 H locs ls h hS hS0 hl
      have h := h7 n9 x1 x2 M3 h
      refine lv_iload_n hx hb dX3_pairNumber_4 rfl (lv_at hl 3 rfl) ?_
      refine z_bipush hx hb (by decide) dX3_pairNumber_5 ?_
      refine w_icmp_gt (tgt := 73) hx hb rfl (sI_of (by decide)) dX3_pairNumber_7 (by decide) (fun c11 => ?_) (fun c11 => ?_)
      · skip
        have h := h.1 c11
        refine z_iconst hx hb dX3_pairNumber_73 ?_
        exact w_iret hx hb hr hlocks hS hS0 (sI_of (by decide)) h dX3_pairNumber_74
      · skip
        have h := h.2 c11
        refine z_iconst hx hb dX3_pairNumber_10 ?_
        refine lv_iload_n hx hb dX3_pairNumber_11 rfl (lv_at hl 3 rfl) ?_
        refine z_bipush hx hb (by decide) dX3_pairNumber_12 ?_
        refine z_isub hx hb dX3_pairNumber_14 ?_
        refine w_mmax hx hb (hml.trans hl.1.symm) hown (hts _ (z_mem k778)) (hts _ (z_mem k341)) (hts _ (z_mem k15)) (hts _ (z_mem k342)) (by exact Nat.le_of_ble_eq_true rfl) (by exact Nat.le_of_ble_eq_true rfl) (by exact Nat.le_refl _) (by exact Nat.le_refl _) (sI_of (by decide)) rfl dX3_pairNumber_15 ?_
        refine lv_istore (lv' := [(4, .int (iI (max 1 (sI (x2 - 24))))), (0, .ref (b + 82)), (1, .int (iI a0)), (2, .int (iI x1)), (3, .int (iI x2))]) hx hb dX3_pairNumber_18 hl (by decide) rfl (fun ls hl => ?_)
        obtain ⟨I15, ⟨n16, h17⟩, h18⟩ := h
        have L19 : ∀ (n20 : Nat) (x12 x13 : Int) (M14 : zM) (H : Heap) (locs : List Loc) (ls : Array Slot), I15 n20 x12 x13 M14 → zR D dA vwCl wC nC b M14 H → va_S (zA nC b) s.heap H locs → lv_has ls 5 [(0, .ref (b + 82)), (1, .int (iI a0)), (2, .int (iI x12)), (3, .int (iI x2)), (4, .int (iI x13))] → W p l e (headSpec (.code yX3_pairNumber cX3_pairNumber 5 (some .int) :: zt) (z_rm 3)).room s m args below meth c H locs 0 0 (MQ below (va_Qi (wQi Q) (zB D dA vwCl wC nC b) (zA nC b)) args s 0 0 (zA nC b)) (F0 m 20 ls []) := by
          intro n20
          induction n20 using Nat.strongRecOn with
          | ind n20 i21 =>
            intro x12 x13 M14 H locs ls h hS hS0 hl
            have h := h18 n20 x12 x13 M14 h
            refine lv_iload hx hb dX3_pairNumber_20 (lv_at hl 4 rfl) ?_
            refine lv_iload_n hx hb dX3_pairNumber_22 rfl (lv_at hl 3 rfl) ?_
            refine lv_iload hx hb dX3_pairNumber_23 (lv_at hl 4 rfl) ?_
            refine z_isub hx hb dX3_pairNumber_25 ?_
            refine w_icmp_gt (tgt := 67) hx hb rfl rfl dX3_pairNumber_26 (by decide) (fun c22 => ?_) (fun c22 => ?_)
            · skip
              have h := h.1 c22
              refine z_iinc (lv' := [(3, .int (iI (x2 + 1))), (0, .ref (b + 82)), (1, .int (iI a0)), (2, .int (iI x12)), (4, .int (iI x13))]) hx hb dX3_pairNumber_67 hl (k := 3) rfl (by decide) rfl (fun ls hl => ?_)
              refine lv_goto (tgt := 4) hx hb dX3_pairNumber_70 (by decide) ?_
              obtain ⟨n23, h24, h⟩ := h
              exact i10 n23 h24 x12 (x2 + 1) M14 _ _ _ h hS hS0 (lv_sub hl [1, 2, 3, 0] rfl)
            · skip
              have h := h.2 c22
              refine lv_aload_n hx hb dX3_pairNumber_29 rfl (lv_at hl 0 rfl) ?_
              refine lv_iload hx hb dX3_pairNumber_30 (lv_at hl 4 rfl) ?_
              refine lv_iload_n hx hb dX3_pairNumber_32 rfl (lv_at hl 3 rfl) ?_
              refine lv_iload hx hb dX3_pairNumber_33 (lv_at hl 4 rfl) ?_
              refine z_isub hx hb dX3_pairNumber_35 ?_
              refine w_callz (va_runV (As := [.int (iI x13), .int (iI (x2 - x13))]) (rest := []) ⟨hx, hb, hml, hown, hts⟩ (cC_OldTape_pairFits l D dA b M14 x13 (x2 - x13) _ h) (cwV 2 hts (z_gV k779 k780 k1382 k11 k781) rfl rfl rfl dm_X3_pairFits ⟨Nat.le_of_ble_eq_true rfl, Nat.le_of_ble_eq_true rfl⟩) ⟨wPre_blind, (w_recv hS hK.1 (by decide) (zkd_of (rfl : zcd wC 82 = 34) rfl) (by decide) (rfl : vwCl[3]? = some (RX3, TX3, 4))), w_pre hS hK⟩ rfl rfl hl.1 rfl (lv_room (Nat.le_of_ble_eq_true rfl)) dX3_pairNumber_36 ⟨Nat.le_refl _, Nat.le_refl _⟩) hS0 (fun z26 M25 H locs r27 h hS hS0 => ?_)
              refine w_if_eq (tgt := 61) hx hb (sI_01 r27) dX3_pairNumber_39 (by decide) (fun c28 => ?_) (fun c28 => ?_)
              · skip
                have h := h.1 c28
                refine z_iinc (lv' := [(4, .int (iI (x13 + 1))), (0, .ref (b + 82)), (1, .int (iI a0)), (2, .int (iI x12)), (3, .int (iI x2))]) hx hb dX3_pairNumber_61 hl (k := 4) rfl (by decide) rfl (fun ls hl => ?_)
                refine lv_goto (tgt := 20) hx hb dX3_pairNumber_64 (by decide) ?_
                obtain ⟨n29, h30, h⟩ := h
                exact i21 n29 h30 x12 (x13 + 1) M25 _ _ _ h hS hS0 (lv_sub hl [1, 2, 3, 4, 0] rfl)
              · skip
                have h := h.2 c28
                refine lv_iload_n hx hb dX3_pairNumber_42 rfl (lv_at hl 2 rfl) ?_
                refine lv_iload_n hx hb dX3_pairNumber_43 rfl (lv_at hl 1 rfl) ?_
                refine w_icmp_ne (tgt := 58) hx hb rfl rfl dX3_pairNumber_44 (by decide) (fun c31 => ?_) (fun c31 => ?_)
                · skip
                  have h := h.1 c31
                  refine z_iinc (lv' := [(2, .int (iI (x12 + 1))), (0, .ref (b + 82)), (1, .int (iI a0)), (3, .int (iI x2)), (4, .int (iI x13))]) hx hb dX3_pairNumber_58 hl (k := 2) rfl (by decide) rfl (fun ls hl => ?_)
                  refine z_iinc (lv' := [(4, .int (iI (x13 + 1))), (2, .int (iI (x12 + 1))), (0, .ref (b + 82)), (1, .int (iI a0)), (3, .int (iI x2))]) hx hb dX3_pairNumber_61 hl (k := 4) rfl (by decide) rfl (fun ls hl => ?_)
                  refine lv_goto (tgt := 20) hx hb dX3_pairNumber_64 (by decide) ?_
                  obtain ⟨n32, h33, h⟩ := h
                  exact i21 n32 h33 (x12 + 1) (x13 + 1) M25 _ _ _ h hS hS0 (lv_sub hl [2, 3, 1, 4, 0] rfl)
                · skip
                  have h := h.2 c31
                  refine z_bipush hx hb (by decide) dX3_pairNumber_47 ?_
                  refine lv_iload hx hb dX3_pairNumber_49 (lv_at hl 4 rfl) ?_
                  refine z_imul hx hb dX3_pairNumber_51 ?_
                  refine lv_iload_n hx hb dX3_pairNumber_52 rfl (lv_at hl 3 rfl) ?_
                  refine z_iadd hx hb dX3_pairNumber_53 ?_
                  refine lv_iload hx hb dX3_pairNumber_54 (lv_at hl 4 rfl) ?_
                  refine z_isub hx hb dX3_pairNumber_56 ?_
                  exact w_iret hx hb hr hlocks hS hS0 rfl h dX3_pairNumber_57
        exact L19 n16 x1 (max 1 (sI (x2 - 24))) M3 _ _ _ h17 hS hS0 (lv_sub hl [1, 2, 3, 4, 0] rfl)
  exact L8 n5 0 2 M _ _ _ h6 hS hS0 (lv_sub hl [2, 3, 1, 0] rfl)

set_option maxRecDepth 100000 in
def wC_pair (a0 : Int) (M : zM) (Q : Int → zM → Prop) : Prop := wC_OldTape_pairNumber a0 M (fun z2 M1 => Q z2 M1)
set_option maxHeartbeats 4000000 in
set_option maxRecDepth 100000 in
theorem cC_pair (l : Launch) (D : va_G) (dA : Nat → ClassId) (b : Nat) (M : zM) (a0 : Int)  (Q : Int → zM → Prop) (h : wC_pair a0 M Q) : Met l yX11_pair (.code yX11_pair cX11_pair 2 (some .int) :: zt) (z_rm 4) (va_Pc [.ref (b + 0), .int (iI a0)] (wPre D dA vwCl (z_tys dA) wC nC b M)) (va_Qi (wQi Q) (zB D dA vwCl wC nC b) (zA nC b)) 0 0 (zA nC b) := by
  unfold wC_pair at h
  refine Met.ofW (cc := cX11_pair) (maxL := 2) (ret := (some .int)) (by decide) rfl ?_
  intro p e s m args below meth c s₁ B hml hv
  obtain ⟨hargs, hS, hK⟩ := hv
  have hx := B.exec
  have hb := B.bytes
  have hr := B.returns
  have hts := atoms_spec (ws := .code yX11_pair cX11_pair 2 (some .int) :: zt) B.pre
  have hown : s.vm.findClass RX11 = some m.cls := findClass_of_methodNamed B.named
  have hlocks := B.notSynchronized
  have hS0 : va_S (zA nC b) s.heap s.heap [] := va_S.rf
  have hl := lv_entry ([.ref (b + 0), .int (iI a0)]) (n := 2) (Nat.le_of_ble_eq_true rfl)
  have hent : entryFrame m args 2 = F0 m 0 ((lg_sl ([.ref (b + 0), .int (iI a0)]) ++ List.replicate (2 - (lg_sl ([.ref (b + 0), .int (iI a0)])).length) Slot.unset).toArray) [] := by rw [hargs]; exact lg_entry_eq m ([.ref (b + 0), .int (iI a0)]) 2
  rw [hent]
  generalize (lg_sl ([.ref (b + 0), .int (iI a0)]) ++ List.replicate (2 - (lg_sl ([.ref (b + 0), .int (iI a0)])).length) Slot.unset).toArray = ls at hl ⊢
  have hl : lv_has ls 2 [(0, .ref (b + 0)), (1, .int (iI a0))] := hl
  refine lv_aload_n hx hb dX11_pair_0 rfl (lv_at hl 0 rfl) ?_
  refine w_getr (j2 := 82) hx hb hts (z_memU u11) hown hK.1 hS f11_6 (by decide) (zkd_of (rfl : zcd wC 0 = 0) rfl) (zrf_of (rfl : zcd wC 0 = 0) rfl) (Or.inl (hts _ (z_mem k248))) dX11_pair_1 ?_
  refine lv_iload_n hx hb dX11_pair_4 rfl (lv_at hl 1 rfl) ?_
  refine w_calli (va_runV (As := [.int (iI a0)]) (rest := []) ⟨hx, hb, hml, hown, hts⟩ (cC_OldTape_pairNumber l D dA b M a0 _ h) (cwV 1 hts (z_gV k774 k775 k776 k11 k777) rfl rfl rfl dm_X3_pairNumber ⟨Nat.le_of_ble_eq_true rfl, Nat.le_of_ble_eq_true rfl⟩) ⟨wPre_blind, (w_recv hS hK.1 (by decide) (zkd_of (rfl : zcd wC 82 = 34) rfl) (by decide) (rfl : vwCl[3]? = some (RX3, TX3, 4))), w_pre hS hK⟩ rfl rfl hl.1 rfl (lv_room (Nat.le_of_ble_eq_true rfl)) dX11_pair_5 ⟨Nat.le_refl _, Nat.le_refl _⟩) hS0 (fun z2 M1 H locs r3 h hS hS0 => ?_)
  exact w_iret hx hb hr hlocks hS hS0 (sI_of r3) h dX11_pair_8

set_option maxRecDepth 100000 in
def wC_OldTape_mendedAt (a0 : Int) (M : zM) (Q : Int → zM → Prop) : Prop := ((sI a0) < 0 → Q (-1) M) ∧ (0 ≤ (sI a0) → ((sI a0) < (sI (M 82 1)) → wC_OldTape_pairNumber 0 M (fun z4 M3 => (z4 ≠ (-1) → wC_by (sI a0) (z4.tdiv 100) M3 (fun z8 => ((0 ≤ z8 ∧ z8 < 24) ∧ wC_by (sI a0) (z4.tmod 100) M3 (fun z13 => ((0 ≤ z13 ∧ z13 < 24) ∧ Q (orI (M3 84 z8.toNat) (M3 85 z13.toNat)) M3))))) ∧ (z4 = (-1) → Q (-1) M3))) ∧ ((sI (M 82 1)) ≤ (sI a0) → Q (-1) M))
set_option maxHeartbeats 4000000 in
set_option maxRecDepth 100000 in
theorem cC_OldTape_mendedAt (l : Launch) (D : va_G) (dA : Nat → ClassId) (b : Nat) (M : zM) (a0 : Int)  (Q : Int → zM → Prop) (h : wC_OldTape_mendedAt a0 M Q) : Met l yX3_mendedAt (.code yX3_mendedAt cX3_mendedAt 3 (some .int) :: zt) (z_rm 4) (va_Pc [.ref (b + 82), .int (iI a0)] (wPre D dA vwCl (z_tys dA) wC nC b M)) (va_Qi (wQi Q) (zB D dA vwCl wC nC b) (zA nC b)) 0 0 (zA nC b) := by
  unfold wC_OldTape_mendedAt at h
  refine Met.ofW (cc := cX3_mendedAt) (maxL := 3) (ret := (some .int)) (by decide) rfl ?_
  intro p e s m args below meth c s₁ B hml hv
  obtain ⟨hargs, hS, hK⟩ := hv
  have hx := B.exec
  have hb := B.bytes
  have hr := B.returns
  have hts := atoms_spec (ws := .code yX3_mendedAt cX3_mendedAt 3 (some .int) :: zt) B.pre
  have hown : s.vm.findClass RX3 = some m.cls := findClass_of_methodNamed B.named
  have hlocks := B.notSynchronized
  have hS0 : va_S (zA nC b) s.heap s.heap [] := va_S.rf
  have hl := lv_entry ([.ref (b + 82), .int (iI a0)]) (n := 3) (Nat.le_of_ble_eq_true rfl)
  have hent : entryFrame m args 3 = F0 m 0 ((lg_sl ([.ref (b + 82), .int (iI a0)]) ++ List.replicate (3 - (lg_sl ([.ref (b + 82), .int (iI a0)])).length) Slot.unset).toArray) [] := by rw [hargs]; exact lg_entry_eq m ([.ref (b + 82), .int (iI a0)]) 3
  rw [hent]
  generalize (lg_sl ([.ref (b + 82), .int (iI a0)]) ++ List.replicate (3 - (lg_sl ([.ref (b + 82), .int (iI a0)])).length) Slot.unset).toArray = ls at hl ⊢
  have hl : lv_has ls 3 [(0, .ref (b + 82)), (1, .int (iI a0))] := hl
  refine lv_iload_n hx hb dX3_mendedAt_0 rfl (lv_at hl 1 rfl) ?_
  refine w_if_lt (tgt := 12) hx hb rfl dX3_mendedAt_1 (by decide) (fun c1 => ?_) (fun c1 => ?_)
  · skip
    have h := h.1 c1
    refine z_iconst hx hb dX3_mendedAt_12 ?_
    exact w_iret hx hb hr hlocks hS hS0 (sI_of (by decide)) h dX3_mendedAt_13
  · skip
    have h := h.2 c1
    refine lv_iload_n hx hb dX3_mendedAt_4 rfl (lv_at hl 1 rfl) ?_
    refine lv_aload_n hx hb dX3_mendedAt_5 rfl (lv_at hl 0 rfl) ?_
    refine w_geti hx hb hts (z_memU u3) hown hK.1 hS f3_1 (by decide) (zkd_of (rfl : zcd wC 82 = 34) rfl) (Or.inl (hts _ (z_mem k196))) dX3_mendedAt_6 ?_
    refine w_icmp_lt (tgt := 14) hx hb rfl rfl dX3_mendedAt_9 (by decide) (fun c2 => ?_) (fun c2 => ?_)
    · skip
      have h := h.1 c2
      refine lv_aload_n hx hb dX3_mendedAt_14 rfl (lv_at hl 0 rfl) ?_
      refine z_iconst hx hb dX3_mendedAt_15 ?_
      refine w_calli (va_runV (As := [.int (iI 0)]) (rest := []) ⟨hx, hb, hml, hown, hts⟩ (cC_OldTape_pairNumber l D dA b M 0 _ h) (cwV 1 hts (z_gV k793 k775 k776 k11 k777) rfl rfl rfl dm_X3_pairNumber ⟨Nat.le_of_ble_eq_true rfl, Nat.le_of_ble_eq_true rfl⟩) ⟨wPre_blind, (w_recv hS hK.1 (by decide) (zkd_of (rfl : zcd wC 82 = 34) rfl) (by decide) (rfl : vwCl[3]? = some (RX3, TX3, 4))), w_pre hS hK⟩ rfl rfl hl.1 rfl (lv_room (Nat.le_of_ble_eq_true rfl)) dX3_mendedAt_16 ⟨Nat.le_refl _, Nat.le_refl _⟩) hS0 (fun z4 M3 H locs r5 h hS hS0 => ?_)
      refine lv_istore_n (lv' := [(2, .int (iI z4)), (0, .ref (b + 82)), (1, .int (iI a0))]) hx hb dX3_mendedAt_19 rfl hl (by decide) rfl (fun ls hl => ?_)
      refine lv_iload_n hx hb dX3_mendedAt_20 rfl (lv_at hl 0 rfl) ?_
      refine z_iconst hx hb dX3_mendedAt_21 ?_
      refine w_icmp_ne (tgt := 27) hx hb (sI_of r5) (sI_of (by decide)) dX3_mendedAt_22 (by decide) (fun c6 => ?_) (fun c6 => ?_)
      · skip
        have h := h.1 c6
        refine lv_aload_n hx hb dX3_mendedAt_27 rfl (lv_at hl 1 rfl) ?_
        refine w_getr (j2 := 84) hx hb hts (z_memU u3) hown hK.1 hS f3_2 (by decide) (zkd_of (rfl : zcd wC 82 = 34) rfl) (zrf_of (rfl : zcd wC 82 = 34) rfl) (Or.inl (hts _ (z_mem k198))) dX3_mendedAt_28 ?_
        refine lv_iload_n hx hb dX3_mendedAt_31 rfl (lv_at hl 2 rfl) ?_
        refine w_i2l hx hb rfl dX3_mendedAt_32 ?_
        refine lv_iload_n hx hb dX3_mendedAt_33 rfl (lv_at hl 0 rfl) ?_
        refine z_bipush hx hb (by decide) dX3_mendedAt_34 ?_
        refine w_idiv hx hb (sI_of r5) (sI_of (by decide)) (by decide) dX3_mendedAt_36 ?_
        refine w_calli (va_runSN (As := [.long (iL (sI a0)), .int (iI (z4.tdiv 100))]) (rest := [.ref (b + 84)]) ⟨hx, hb, hml, hown, hts⟩ (cC_by l D dA b M3 (sI a0) (z4.tdiv 100) _ h) ⟨va_cnB 2 hts (z_gN k406) rfl rfl rfl (hK.2 (RX3, 35, yX11_by, RX11) (List.mem_of_getElem? (i := 17) rfl)) (hts _ (z_mem k1)) dm_X11_by.2 ⟨Nat.le_of_ble_eq_true rfl, Nat.le_of_ble_eq_true rfl⟩, (hts _ (z_mem k405)), trivial⟩ ⟨wPre_blind, w_pre hS hK⟩ rfl rfl hl.1 rfl (lv_room (Nat.le_of_ble_eq_true rfl)) dX3_mendedAt_37 ⟨Nat.le_refl _, Nat.le_refl _⟩) hS0 (fun z8 M7 H locs r9 h hS hS0 => ?_)
        obtain ⟨e10, h⟩ := h
        rw [e10] at hS
        obtain ⟨o11, h⟩ := h
        refine w_iald (n := 24) (i := z8) hx hb hK.1 (t0 := 0) rfl hS (by decide) (zkd_of (rfl : zcd wC 84 = 36) rfl) (zln_of (rfl : zcd wC 84 = 36) rfl) (sI_of r9) o11.1 o11.2 (by decide) dX3_mendedAt_40 ?_
        refine lv_aload_n hx hb dX3_mendedAt_41 rfl (lv_at hl 1 rfl) ?_
        refine w_getr (j2 := 85) hx hb hts (z_memU u3) hown hK.1 hS f3_3 (by decide) (zkd_of (rfl : zcd wC 82 = 34) rfl) (zrf_of (rfl : zcd wC 82 = 34) rfl) (Or.inl (hts _ (z_mem k199))) dX3_mendedAt_42 ?_
        refine lv_iload_n hx hb dX3_mendedAt_45 rfl (lv_at hl 2 rfl) ?_
        refine w_i2l hx hb rfl dX3_mendedAt_46 ?_
        refine lv_iload_n hx hb dX3_mendedAt_47 rfl (lv_at hl 0 rfl) ?_
        refine z_bipush hx hb (by decide) dX3_mendedAt_48 ?_
        refine w_irem hx hb (sI_of r5) (sI_of (by decide)) (by decide) dX3_mendedAt_50 ?_
        refine w_calli (va_runSN (As := [.long (iL (sI a0)), .int (iI (z4.tmod 100))]) (rest := [.ref (b + 85), .int (iI (M3 84 z8.toNat))]) ⟨hx, hb, hml, hown, hts⟩ (cC_by l D dA b M3 (sI a0) (z4.tmod 100) _ h) ⟨va_cnB 2 hts (z_gN k406) rfl rfl rfl (hK.2 (RX3, 35, yX11_by, RX11) (List.mem_of_getElem? (i := 17) rfl)) (hts _ (z_mem k1)) dm_X11_by.2 ⟨Nat.le_of_ble_eq_true rfl, Nat.le_of_ble_eq_true rfl⟩, (hts _ (z_mem k405)), trivial⟩ ⟨wPre_blind, w_pre hS hK⟩ rfl rfl hl.1 rfl (lv_room (Nat.le_of_ble_eq_true rfl)) dX3_mendedAt_51 ⟨Nat.le_refl _, Nat.le_refl _⟩) hS0 (fun z13 M12 H locs r14 h hS hS0 => ?_)
        obtain ⟨e15, h⟩ := h
        rw [e15] at hS
        obtain ⟨o16, h⟩ := h
        refine w_iald (n := 24) (i := z13) hx hb hK.1 (t0 := 0) rfl hS (by decide) (zkd_of (rfl : zcd wC 85 = 37) rfl) (zln_of (rfl : zcd wC 85 = 37) rfl) (sI_of r14) o16.1 o16.2 (by decide) dX3_mendedAt_54 ?_
        refine w_ior hx hb dX3_mendedAt_55 ?_
        exact w_iret hx hb hr hlocks hS hS0 (sI_of (orI_R _ _)) h dX3_mendedAt_56
      · skip
        have h := h.2 c6
        refine z_iconst hx hb dX3_mendedAt_25 ?_
        exact w_iret hx hb hr hlocks hS hS0 (sI_of (by decide)) h dX3_mendedAt_26
    · skip
      have h := h.2 c2
      refine z_iconst hx hb dX3_mendedAt_12 ?_
      exact w_iret hx hb hr hlocks hS hS0 (sI_of (by decide)) h dX3_mendedAt_13

set_option maxRecDepth 100000 in
def wC_mended (a0 : Int) (M : zM) (Q : Int → zM → Prop) : Prop := wC_OldTape_mendedAt a0 M (fun z2 M1 => Q z2 M1)
set_option maxHeartbeats 4000000 in
set_option maxRecDepth 100000 in
theorem cC_mended (l : Launch) (D : va_G) (dA : Nat → ClassId) (b : Nat) (M : zM) (a0 : Int)  (Q : Int → zM → Prop) (h : wC_mended a0 M Q) : Met l yX11_mended (.code yX11_mended cX11_mended 2 (some .int) :: zt) (z_rm 5) (va_Pc [.ref (b + 0), .int (iI a0)] (wPre D dA vwCl (z_tys dA) wC nC b M)) (va_Qi (wQi Q) (zB D dA vwCl wC nC b) (zA nC b)) 0 0 (zA nC b) := by
  unfold wC_mended at h
  refine Met.ofW (cc := cX11_mended) (maxL := 2) (ret := (some .int)) (by decide) rfl ?_
  intro p e s m args below meth c s₁ B hml hv
  obtain ⟨hargs, hS, hK⟩ := hv
  have hx := B.exec
  have hb := B.bytes
  have hr := B.returns
  have hts := atoms_spec (ws := .code yX11_mended cX11_mended 2 (some .int) :: zt) B.pre
  have hown : s.vm.findClass RX11 = some m.cls := findClass_of_methodNamed B.named
  have hlocks := B.notSynchronized
  have hS0 : va_S (zA nC b) s.heap s.heap [] := va_S.rf
  have hl := lv_entry ([.ref (b + 0), .int (iI a0)]) (n := 2) (Nat.le_of_ble_eq_true rfl)
  have hent : entryFrame m args 2 = F0 m 0 ((lg_sl ([.ref (b + 0), .int (iI a0)]) ++ List.replicate (2 - (lg_sl ([.ref (b + 0), .int (iI a0)])).length) Slot.unset).toArray) [] := by rw [hargs]; exact lg_entry_eq m ([.ref (b + 0), .int (iI a0)]) 2
  rw [hent]
  generalize (lg_sl ([.ref (b + 0), .int (iI a0)]) ++ List.replicate (2 - (lg_sl ([.ref (b + 0), .int (iI a0)])).length) Slot.unset).toArray = ls at hl ⊢
  have hl : lv_has ls 2 [(0, .ref (b + 0)), (1, .int (iI a0))] := hl
  refine lv_aload_n hx hb dX11_mended_0 rfl (lv_at hl 0 rfl) ?_
  refine w_getr (j2 := 82) hx hb hts (z_memU u11) hown hK.1 hS f11_6 (by decide) (zkd_of (rfl : zcd wC 0 = 0) rfl) (zrf_of (rfl : zcd wC 0 = 0) rfl) (Or.inl (hts _ (z_mem k248))) dX11_mended_1 ?_
  refine lv_iload_n hx hb dX11_mended_4 rfl (lv_at hl 1 rfl) ?_
  refine w_calli (va_runV (As := [.int (iI a0)]) (rest := []) ⟨hx, hb, hml, hown, hts⟩ (cC_OldTape_mendedAt l D dA b M a0 _ h) (cwV 1 hts (z_gV k789 k790 k791 k11 k792) rfl rfl rfl dm_X3_mendedAt ⟨Nat.le_of_ble_eq_true rfl, Nat.le_of_ble_eq_true rfl⟩) ⟨wPre_blind, (w_recv hS hK.1 (by decide) (zkd_of (rfl : zcd wC 82 = 34) rfl) (by decide) (rfl : vwCl[3]? = some (RX3, TX3, 4))), w_pre hS hK⟩ rfl rfl hl.1 rfl (lv_room (Nat.le_of_ble_eq_true rfl)) dX11_mended_5 ⟨Nat.le_refl _, Nat.le_refl _⟩) hS0 (fun z2 M1 H locs r3 h hS hS0 => ?_)
  exact w_iret hx hb hr hlocks hS hS0 (sI_of r3) h dX11_mended_8

set_option maxRecDepth 100000 in
def wC_Pieces_digit (a0 : Int) (a1 : Int) (M : zM) (Q : Int → Prop) : Prop := Q (andI (ushrI a0 (28 - (4 * a1))) 15)
set_option maxHeartbeats 4000000 in
set_option maxRecDepth 100000 in
theorem cC_Pieces_digit (l : Launch) (D : va_G) (dA : Nat → ClassId) (b : Nat) (M : zM) (a0 : Int) (a1 : Int)  (Q : Int → Prop) (h : wC_Pieces_digit a0 a1 M Q) : Met l yX4_digit (.code yX4_digit cX4_digit 2 (some .int) :: zt) (z_rm 0) (va_Pc [.int (iI a0), .int (iI a1)] (wPre D dA vwCl (z_tys dA) wC nC b M)) (va_Qi (wQi (fun z9 u9 => u9 = M ∧ Q z9)) (zB D dA vwCl wC nC b) (zA nC b)) 0 0 (zA nC b) := by
  unfold wC_Pieces_digit at h
  refine Met.ofW (cc := cX4_digit) (maxL := 2) (ret := (some .int)) (by decide) rfl ?_
  intro p e s m args below meth c s₁ B hml hv
  obtain ⟨hargs, hS, hK⟩ := hv
  have hx := B.exec
  have hb := B.bytes
  have hr := B.returns
  have hts := atoms_spec (ws := .code yX4_digit cX4_digit 2 (some .int) :: zt) B.pre
  have hown : s.vm.findClass RX4 = some m.cls := findClass_of_methodNamed B.named
  have hlocks := B.notSynchronized
  have hS0 : va_S (zA nC b) s.heap s.heap [] := va_S.rf
  have hl := lv_entry ([.int (iI a0), .int (iI a1)]) (n := 2) (Nat.le_of_ble_eq_true rfl)
  have hent : entryFrame m args 2 = F0 m 0 ((lg_sl ([.int (iI a0), .int (iI a1)]) ++ List.replicate (2 - (lg_sl ([.int (iI a0), .int (iI a1)])).length) Slot.unset).toArray) [] := by rw [hargs]; exact lg_entry_eq m ([.int (iI a0), .int (iI a1)]) 2
  rw [hent]
  generalize (lg_sl ([.int (iI a0), .int (iI a1)]) ++ List.replicate (2 - (lg_sl ([.int (iI a0), .int (iI a1)])).length) Slot.unset).toArray = ls at hl ⊢
  have hl : lv_has ls 2 [(0, .int (iI a0)), (1, .int (iI a1))] := hl
  refine lv_iload_n hx hb dX4_digit_0 rfl (lv_at hl 0 rfl) ?_
  refine z_bipush hx hb (by decide) dX4_digit_1 ?_
  refine z_iconst hx hb dX4_digit_3 ?_
  refine lv_iload_n hx hb dX4_digit_4 rfl (lv_at hl 1 rfl) ?_
  refine z_imul hx hb dX4_digit_5 ?_
  refine z_isub hx hb dX4_digit_6 ?_
  refine w_iushr hx hb dX4_digit_7 ?_
  refine z_bipush hx hb (by decide) dX4_digit_8 ?_
  refine w_iand hx hb dX4_digit_10 ?_
  exact w_iret hx hb hr hlocks hS hS0 (sI_of (andI_R _ _)) ⟨rfl, h⟩ dX4_digit_11

set_option maxRecDepth 100000 in
def wC_Pieces_add (a0 : Int) (a1 : Int) (M : zM) (Q : Int → zM → Prop) : Prop := ((sI (M 86 0)) < 5 → wL1 (fun K12 x2 M3 => ((sI a1) ≤ (sI x2) → ((0 ≤ (sI (M3 86 0)) ∧ (sI (M3 86 0)) < 5) ∧ (∀ M13 : zM, M13 = zup M3 94 (sI (M3 86 0)).toNat a1 → (∀ M15 : zM, M15 = zup M13 86 0 ((M13 86 0) + 1) → Q (sI ((M15 86 0) - 1)) M15)))) ∧ ((sI x2) < (sI a1) → wC_Pieces_digit a0 x2 M3 (fun z18 => (z18 ≤ 9 → ((0 ≤ (sI (M3 86 0)) ∧ (sI (M3 86 0)) < 5) ∧ ((0 ≤ (sI x2) ∧ (sI x2) < 8) ∧ (∀ M26 : zM, M26 = zup M3 (89 + 1 * (sI (M3 86 0)).toNat) (sI x2).toNat z18 → K12 (x2 + 1) M26)))) ∧ (9 < z18 → Q (-1) M3)))) 0 M) ∧ (5 ≤ (sI (M 86 0)) → Q (-1) M)
set_option maxHeartbeats 4000000 in
set_option maxRecDepth 100000 in
theorem cC_Pieces_add (l : Launch) (D : va_G) (dA : Nat → ClassId) (b : Nat) (M : zM) (a0 : Int) (a1 : Int)  (Q : Int → zM → Prop) (h : wC_Pieces_add a0 a1 M Q) : Met l yX4_add (.code yX4_add cX4_add 5 (some .int) :: zt) (z_rm 1) (va_Pc [.ref (b + 86), .int (iI a0), .int (iI a1)] (wPre D dA vwCl (z_tys dA) wC nC b M)) (va_Qi (wQi Q) (zB D dA vwCl wC nC b) (zA nC b)) 0 0 (zA nC b) := by
  unfold wC_Pieces_add at h
  refine Met.ofW (cc := cX4_add) (maxL := 5) (ret := (some .int)) (by decide) rfl ?_
  intro p e s m args below meth c s₁ B hml hv
  obtain ⟨hargs, hS, hK⟩ := hv
  have hx := B.exec
  have hb := B.bytes
  have hr := B.returns
  have hts := atoms_spec (ws := .code yX4_add cX4_add 5 (some .int) :: zt) B.pre
  have hown : s.vm.findClass RX4 = some m.cls := findClass_of_methodNamed B.named
  have hlocks := B.notSynchronized
  have hS0 : va_S (zA nC b) s.heap s.heap [] := va_S.rf
  have hl := lv_entry ([.ref (b + 86), .int (iI a0), .int (iI a1)]) (n := 5) (Nat.le_of_ble_eq_true rfl)
  have hent : entryFrame m args 5 = F0 m 0 ((lg_sl ([.ref (b + 86), .int (iI a0), .int (iI a1)]) ++ List.replicate (5 - (lg_sl ([.ref (b + 86), .int (iI a0), .int (iI a1)])).length) Slot.unset).toArray) [] := by rw [hargs]; exact lg_entry_eq m ([.ref (b + 86), .int (iI a0), .int (iI a1)]) 5
  rw [hent]
  generalize (lg_sl ([.ref (b + 86), .int (iI a0), .int (iI a1)]) ++ List.replicate (5 - (lg_sl ([.ref (b + 86), .int (iI a0), .int (iI a1)])).length) Slot.unset).toArray = ls at hl ⊢
  have hl : lv_has ls 5 [(0, .ref (b + 86)), (1, .int (iI a0)), (2, .int (iI a1))] := hl
  refine lv_aload_n hx hb dX4_add_0 rfl (lv_at hl 0 rfl) ?_
  refine w_geti hx hb hts (z_memU u4) hown hK.1 hS f4_0 (by decide) (zkd_of (rfl : zcd wC 86 = 38) rfl) (Or.inl (hts _ (z_mem k210))) dX4_add_1 ?_
  refine z_iconst hx hb dX4_add_4 ?_
  refine w_icmp_lt (tgt := 10) hx hb rfl (sI_of (by decide)) dX4_add_5 (by decide) (fun c1 => ?_) (fun c1 => ?_)
  · skip
    have h := h.1 c1
    refine z_iconst hx hb dX4_add_10 ?_
    refine lv_istore_n (lv' := [(3, .int (iI 0)), (0, .ref (b + 86)), (1, .int (iI a0)), (2, .int (iI a1))]) hx hb dX4_add_11 rfl hl (by decide) rfl (fun ls hl => ?_)
    obtain ⟨I4, ⟨n5, h6⟩, h7⟩ := h
    have L8 : ∀ (n9 : Nat) (x2 : Int) (M3 : zM) (H : Heap) (locs : List Loc) (ls : Array Slot), I4 n9 x2 M3 → zR D dA vwCl wC nC b M3 H → va_S (zA nC b) s.heap H locs → lv_has ls 5 [(0, .ref (b + 86)), (1, .int (iI a0)), (2, .int (iI a1)), (3, .int (iI x2))] → W p l e (headSpec (.code yX4_add cX4_add 5 (some .int) :: zt) (z_rm 1)).room s m args below meth c H locs 0 0 (MQ below (va_Qi (wQi Q) (zB D dA vwCl wC nC b) (zA nC b)) args s 0 0 (zA nC b)) (F0 m 12 ls []) := by
      intro n9
      induction n9 using Nat.strongRecOn with
      | ind n9 i10 =>
        intro x2 M3 H locs ls h hS hS0 hl
        have h := h7 n9 x2 M3 h
        refine lv_iload_n hx hb dX4_add_12 rfl (lv_at hl 3 rfl) ?_
        refine lv_iload_n hx hb dX4_add_13 rfl (lv_at hl 2 rfl) ?_
        refine w_icmp_ge (tgt := 52) hx hb rfl rfl dX4_add_14 (by decide) (fun c11 => ?_) (fun c11 => ?_)
        · skip
          have h := h.1 c11
          refine lv_aload_n hx hb dX4_add_52 rfl (lv_at hl 0 rfl) ?_
          refine w_getr (j2 := 94) hx hb hts (z_memU u4) hown hK.1 hS f4_4 (by decide) (zkd_of (rfl : zcd wC 86 = 38) rfl) (zrf_of (rfl : zcd wC 86 = 38) rfl) (Or.inl (hts _ (z_mem k216))) dX4_add_53 ?_
          refine lv_aload_n hx hb dX4_add_56 rfl (lv_at hl 0 rfl) ?_
          refine w_geti hx hb hts (z_memU u4) hown hK.1 hS f4_0 (by decide) (zkd_of (rfl : zcd wC 86 = 38) rfl) (Or.inl (hts _ (z_mem k210))) dX4_add_57 ?_
          refine lv_iload_n hx hb dX4_add_60 rfl (lv_at hl 2 rfl) ?_
          obtain ⟨o12, h⟩ := h
          refine w_iast (z := a1) (n := 5) (i := (sI (M3 86 0))) hx hb hK.1 (t0 := 0) rfl hS hS0 (by decide) (zkd_of (rfl : zcd wC 94 = 42) rfl) (zln_of (rfl : zcd wC 94 = 42) rfl) rfl o12.1 o12.2 (by decide) dX4_add_61 (fun H locs hS hS0 => ?_)
          obtain ⟨M13, e14⟩ : ∃ M13 : zM, M13 = zup M3 94 (sI (M3 86 0)).toNat a1 := ⟨_, rfl⟩
          rw [← e14] at hS
          have h := h M13 e14
          refine lv_aload_n hx hb dX4_add_62 rfl (lv_at hl 0 rfl) ?_
          refine lv_dup hx hb dX4_add_63 rfl ?_
          refine w_geti hx hb hts (z_memU u4) hown hK.1 hS f4_0 (by decide) (zkd_of (rfl : zcd wC 86 = 38) rfl) (Or.inl (hts _ (z_mem k210))) dX4_add_64 ?_
          refine z_iconst hx hb dX4_add_67 ?_
          refine z_iadd hx hb dX4_add_68 ?_
          refine w_puti hx hb hts (z_memU u4) tyX4 tyX4_ok nmX4 hown hK.1 hS hS0 f4_0 (by decide) (zkd_of (rfl : zcd wC 86 = 38) rfl) (Or.inl (hts _ (z_mem k210))) rfl (z := ((M13 86 0) + 1)) (by decide +kernel) dX4_add_69 (fun H locs hS hS0 => ?_)
          obtain ⟨M15, e16⟩ : ∃ M15 : zM, M15 = zup M13 86 0 ((M13 86 0) + 1) := ⟨_, rfl⟩
          rw [← e16] at hS
          have h := h M15 e16
          refine lv_aload_n hx hb dX4_add_72 rfl (lv_at hl 0 rfl) ?_
          refine w_geti hx hb hts (z_memU u4) hown hK.1 hS f4_0 (by decide) (zkd_of (rfl : zcd wC 86 = 38) rfl) (Or.inl (hts _ (z_mem k210))) dX4_add_73 ?_
          refine z_iconst hx hb dX4_add_76 ?_
          refine z_isub hx hb dX4_add_77 ?_
          exact w_iret hx hb hr hlocks hS hS0 rfl h dX4_add_78
        · skip
          have h := h.2 c11
          refine lv_iload_n hx hb dX4_add_17 rfl (lv_at hl 1 rfl) ?_
          refine lv_iload_n hx hb dX4_add_18 rfl (lv_at hl 3 rfl) ?_
          refine w_calli (va_runS (As := [.int (iI a0), .int (iI x2)]) (rest := []) ⟨hx, hb, hml, hown, hts⟩ (cC_Pieces_digit l D dA b M3 a0 x2 _ h) (va_cwS 2 hts (z_gS k802 k803 k12 k804) rfl rfl rfl dm_X4_digit.2 ⟨Nat.le_of_ble_eq_true rfl, Nat.le_of_ble_eq_true rfl⟩) ⟨wPre_blind, w_pre hS hK⟩ rfl rfl hl.1 rfl (lv_room (Nat.le_of_ble_eq_true rfl)) dX4_add_19 ⟨Nat.le_refl _, Nat.le_refl _⟩) hS0 (fun z18 M17 H locs r19 h hS hS0 => ?_)
          obtain ⟨e20, h⟩ := h
          rw [e20] at hS
          refine lv_istore (lv' := [(4, .int (iI z18)), (0, .ref (b + 86)), (1, .int (iI a0)), (2, .int (iI a1)), (3, .int (iI x2))]) hx hb dX4_add_22 hl (by decide) rfl (fun ls hl => ?_)
          refine lv_iload hx hb dX4_add_24 (lv_at hl 0 rfl) ?_
          refine z_bipush hx hb (by decide) dX4_add_26 ?_
          refine w_icmp_le (tgt := 33) hx hb (sI_of r19) (sI_of (by decide)) dX4_add_28 (by decide) (fun c21 => ?_) (fun c21 => ?_)
          · skip
            have h := h.1 c21
            refine lv_aload_n hx hb dX4_add_33 rfl (lv_at hl 1 rfl) ?_
            refine w_getr (j2 := 88) hx hb hts (z_memU u4) hown hK.1 hS f4_3 (by decide) (zkd_of (rfl : zcd wC 86 = 38) rfl) (zrf_of (rfl : zcd wC 86 = 38) rfl) (Or.inl (hts _ (z_mem k215))) dX4_add_34 ?_
            refine lv_aload_n hx hb dX4_add_37 rfl (lv_at hl 1 rfl) ?_
            refine w_geti hx hb hts (z_memU u4) hown hK.1 hS f4_0 (by decide) (zkd_of (rfl : zcd wC 86 = 38) rfl) (Or.inl (hts _ (z_mem k210))) dX4_add_38 ?_
            obtain ⟨o22, h⟩ := h
            refine w_aald (n := 5) (i := (sI (M3 86 0))) (j2 := (89 + 1 * (sI (M3 86 0)).toNat)) hx hb hK.1 (t0 := 7) (r := 7) (by decide) rfl rfl hS (by decide) (zkd_of (rfl : zcd wC 88 = 40) rfl) (zln_of (rfl : zcd wC 88 = 40) rfl) rfl o22.1 o22.2 (by decide) (zrf_of (rfl : zcd wC 88 = 40) rfl) dX4_add_41 ?_
            obtain ⟨lt23, cd24⟩ : (89 + 1 * (sI (M3 86 0)).toNat) < nC ∧ zcd wC (89 + 1 * (sI (M3 86 0)).toNat) = 41 := (by decide : ∀ k : Nat, k < 5 → (89 + 1 * k) < nC ∧ zcd wC (89 + 1 * k) = 41) (sI (M3 86 0)).toNat (by clear h; have h0 := o22.1; have h1 := o22.2; omega)
            refine lv_iload_n hx hb dX4_add_42 rfl (lv_at hl 4 rfl) ?_
            refine lv_iload hx hb dX4_add_43 (lv_at hl 0 rfl) ?_
            obtain ⟨o25, h⟩ := h
            refine w_iast (z := z18) (n := 8) (i := (sI x2)) hx hb hK.1 (t0 := 0) rfl hS hS0 lt23 (zkd_of cd24 rfl) (zln_of cd24 rfl) rfl o25.1 o25.2 (by decide) dX4_add_45 (fun H locs hS hS0 => ?_)
            obtain ⟨M26, e27⟩ : ∃ M26 : zM, M26 = zup M3 (89 + 1 * (sI (M3 86 0)).toNat) (sI x2).toNat z18 := ⟨_, rfl⟩
            rw [← e27] at hS
            have h := h M26 e27
            refine z_iinc (lv' := [(3, .int (iI (x2 + 1))), (4, .int (iI z18)), (0, .ref (b + 86)), (1, .int (iI a0)), (2, .int (iI a1))]) hx hb dX4_add_46 hl (k := 4) rfl (by decide) rfl (fun ls hl => ?_)
            refine lv_goto (tgt := 12) hx hb dX4_add_49 (by decide) ?_
            obtain ⟨n28, h29, h⟩ := h
            exact i10 n28 h29 (x2 + 1) M26 _ _ _ h hS hS0 (lv_sub hl [2, 3, 4, 0] rfl)
          · skip
            have h := h.2 c21
            refine z_iconst hx hb dX4_add_31 ?_
            exact w_iret hx hb hr hlocks hS hS0 (sI_of (by decide)) h dX4_add_32
    exact L8 n5 0 M _ _ _ h6 hS hS0 (lv_sub hl [1, 2, 3, 0] rfl)
  · skip
    have h := h.2 c1
    refine z_iconst hx hb dX4_add_8 ?_
    exact w_iret hx hb hr hlocks hS hS0 (sI_of (by decide)) h dX4_add_9

set_option maxRecDepth 100000 in
def wC_piece (a0 : Int) (a1 : Int) (M : zM) (Q : Int → zM → Prop) : Prop := wC_within a1 1 8 M (fun z2 => (z2 = 0 → Q (-1) M) ∧ (z2 ≠ 0 → wC_Pieces_add a0 a1 M (fun z7 M6 => Q z7 M6)))
set_option maxHeartbeats 4000000 in
set_option maxRecDepth 100000 in
theorem cC_piece (l : Launch) (D : va_G) (dA : Nat → ClassId) (b : Nat) (M : zM) (a0 : Int) (a1 : Int)  (Q : Int → zM → Prop) (h : wC_piece a0 a1 M Q) : Met l yX11_piece (.code yX11_piece cX11_piece 3 (some .int) :: zt) (z_rm 2) (va_Pc [.ref (b + 0), .int (iI a0), .int (iI a1)] (wPre D dA vwCl (z_tys dA) wC nC b M)) (va_Qi (wQi Q) (zB D dA vwCl wC nC b) (zA nC b)) 0 0 (zA nC b) := by
  unfold wC_piece at h
  refine Met.ofW (cc := cX11_piece) (maxL := 3) (ret := (some .int)) (by decide) rfl ?_
  intro p e s m args below meth c s₁ B hml hv
  obtain ⟨hargs, hS, hK⟩ := hv
  have hx := B.exec
  have hb := B.bytes
  have hr := B.returns
  have hts := atoms_spec (ws := .code yX11_piece cX11_piece 3 (some .int) :: zt) B.pre
  have hown : s.vm.findClass RX11 = some m.cls := findClass_of_methodNamed B.named
  have hlocks := B.notSynchronized
  have hS0 : va_S (zA nC b) s.heap s.heap [] := va_S.rf
  have hl := lv_entry ([.ref (b + 0), .int (iI a0), .int (iI a1)]) (n := 3) (Nat.le_of_ble_eq_true rfl)
  have hent : entryFrame m args 3 = F0 m 0 ((lg_sl ([.ref (b + 0), .int (iI a0), .int (iI a1)]) ++ List.replicate (3 - (lg_sl ([.ref (b + 0), .int (iI a0), .int (iI a1)])).length) Slot.unset).toArray) [] := by rw [hargs]; exact lg_entry_eq m ([.ref (b + 0), .int (iI a0), .int (iI a1)]) 3
  rw [hent]
  generalize (lg_sl ([.ref (b + 0), .int (iI a0), .int (iI a1)]) ++ List.replicate (3 - (lg_sl ([.ref (b + 0), .int (iI a0), .int (iI a1)])).length) Slot.unset).toArray = ls at hl ⊢
  have hl : lv_has ls 3 [(0, .ref (b + 0)), (1, .int (iI a0)), (2, .int (iI a1))] := hl
  refine lv_iload_n hx hb dX11_piece_0 rfl (lv_at hl 2 rfl) ?_
  refine z_iconst hx hb dX11_piece_1 ?_
  refine z_bipush hx hb (by decide) dX11_piece_2 ?_
  refine w_callz (va_runS (As := [.int (iI a1), .int (iI 1), .int (iI 8)]) (rest := []) ⟨hx, hb, hml, hown, hts⟩ (cC_within l D dA b M a1 1 8 _ h) (va_cwS 3 hts (z_gS k382 k383 k1 k384) rfl rfl rfl dm_X11_within.2 ⟨Nat.le_of_ble_eq_true rfl, Nat.le_of_ble_eq_true rfl⟩) ⟨wPre_blind, w_pre hS hK⟩ rfl rfl hl.1 rfl (lv_room (Nat.le_of_ble_eq_true rfl)) dX11_piece_4 ⟨Nat.le_refl _, Nat.le_refl _⟩) hS0 (fun z2 M1 H locs r3 h hS hS0 => ?_)
  obtain ⟨e4, h⟩ := h
  rw [e4] at hS
  refine w_if_eq (tgt := 22) hx hb (sI_01 r3) dX11_piece_7 (by decide) (fun c5 => ?_) (fun c5 => ?_)
  · skip
    have h := h.1 c5
    refine z_iconst hx hb dX11_piece_22 ?_
    exact w_iret hx hb hr hlocks hS hS0 (sI_of (by decide)) h dX11_piece_23
  · skip
    have h := h.2 c5
    refine lv_aload_n hx hb dX11_piece_10 rfl (lv_at hl 0 rfl) ?_
    refine w_getr (j2 := 86) hx hb hts (z_memU u11) hown hK.1 hS f11_7 (by decide) (zkd_of (rfl : zcd wC 0 = 0) rfl) (zrf_of (rfl : zcd wC 0 = 0) rfl) (Or.inl (hts _ (z_mem k249))) dX11_piece_11 ?_
    refine lv_iload_n hx hb dX11_piece_14 rfl (lv_at hl 1 rfl) ?_
    refine lv_iload_n hx hb dX11_piece_15 rfl (lv_at hl 2 rfl) ?_
    refine w_calli (va_runV (As := [.int (iI a0), .int (iI a1)]) (rest := []) ⟨hx, hb, hml, hown, hts⟩ (cC_Pieces_add l D dA b M a0 a1 _ h) (cwV 2 hts (z_gV k798 k799 k800 k12 k801) rfl rfl rfl dm_X4_add ⟨Nat.le_of_ble_eq_true rfl, Nat.le_of_ble_eq_true rfl⟩) ⟨wPre_blind, (w_recv hS hK.1 (by decide) (zkd_of (rfl : zcd wC 86 = 38) rfl) (by decide) (rfl : vwCl[4]? = some (RX4, TX4, 6))), w_pre hS hK⟩ rfl rfl hl.1 rfl (lv_room (Nat.le_of_ble_eq_true rfl)) dX11_piece_16 ⟨Nat.le_refl _, Nat.le_refl _⟩) hS0 (fun z7 M6 H locs r8 h hS hS0 => ?_)
    refine lv_goto (tgt := 23) hx hb dX11_piece_19 (by decide) ?_
    exact w_iret hx hb hr hlocks hS hS0 (sI_of r8) h dX11_piece_23

set_option maxRecDepth 100000 in
def wC_burn  (M : zM) (Q : Int → zM → Prop) : Prop := (∀ M1 : zM, M1 = zup M 86 0 0 → Q (sI (M 86 0)) M1)
set_option maxHeartbeats 4000000 in
set_option maxRecDepth 100000 in
theorem cC_burn (l : Launch) (D : va_G) (dA : Nat → ClassId) (b : Nat) (M : zM)   (Q : Int → zM → Prop) (h : wC_burn  M Q) : Met l yX11_burn (.code yX11_burn cX11_burn 2 (some .int) :: zt) (z_rm 0) (va_Pc [.ref (b + 0)] (wPre D dA vwCl (z_tys dA) wC nC b M)) (va_Qi (wQi Q) (zB D dA vwCl wC nC b) (zA nC b)) 0 0 (zA nC b) := by
  unfold wC_burn at h
  refine Met.ofW (cc := cX11_burn) (maxL := 2) (ret := (some .int)) (by decide) rfl ?_
  intro p e s m args below meth c s₁ B hml hv
  obtain ⟨hargs, hS, hK⟩ := hv
  have hx := B.exec
  have hb := B.bytes
  have hr := B.returns
  have hts := atoms_spec (ws := .code yX11_burn cX11_burn 2 (some .int) :: zt) B.pre
  have hown : s.vm.findClass RX11 = some m.cls := findClass_of_methodNamed B.named
  have hlocks := B.notSynchronized
  have hS0 : va_S (zA nC b) s.heap s.heap [] := va_S.rf
  have hl := lv_entry ([.ref (b + 0)]) (n := 2) (Nat.le_of_ble_eq_true rfl)
  have hent : entryFrame m args 2 = F0 m 0 ((lg_sl ([.ref (b + 0)]) ++ List.replicate (2 - (lg_sl ([.ref (b + 0)])).length) Slot.unset).toArray) [] := by rw [hargs]; exact lg_entry_eq m ([.ref (b + 0)]) 2
  rw [hent]
  generalize (lg_sl ([.ref (b + 0)]) ++ List.replicate (2 - (lg_sl ([.ref (b + 0)])).length) Slot.unset).toArray = ls at hl ⊢
  have hl : lv_has ls 2 [(0, .ref (b + 0))] := hl
  refine lv_aload_n hx hb dX11_burn_0 rfl (lv_at hl 0 rfl) ?_
  refine w_getr (j2 := 86) hx hb hts (z_memU u11) hown hK.1 hS f11_7 (by decide) (zkd_of (rfl : zcd wC 0 = 0) rfl) (zrf_of (rfl : zcd wC 0 = 0) rfl) (Or.inl (hts _ (z_mem k249))) dX11_burn_1 ?_
  refine w_geti hx hb hts (z_memU u4) hown hK.1 hS f4_0 (by decide) (zkd_of (rfl : zcd wC 86 = 38) rfl) (Or.inl (hts _ (z_mem k211))) dX11_burn_4 ?_
  refine lv_istore_n (lv' := [(1, .int (iI (M 86 0))), (0, .ref (b + 0))]) hx hb dX11_burn_7 rfl hl (by decide) rfl (fun ls hl => ?_)
  refine lv_aload_n hx hb dX11_burn_8 rfl (lv_at hl 1 rfl) ?_
  refine w_getr (j2 := 86) hx hb hts (z_memU u11) hown hK.1 hS f11_7 (by decide) (zkd_of (rfl : zcd wC 0 = 0) rfl) (zrf_of (rfl : zcd wC 0 = 0) rfl) (Or.inl (hts _ (z_mem k249))) dX11_burn_9 ?_
  refine z_iconst hx hb dX11_burn_12 ?_
  refine w_puti hx hb hts (z_memU u4) tyX4 tyX4_ok nmX4 hown hK.1 hS hS0 f4_0 (by decide) (zkd_of (rfl : zcd wC 86 = 38) rfl) (Or.inl (hts _ (z_mem k211))) rfl (z := 0) (by decide +kernel) dX11_burn_13 (fun H locs hS hS0 => ?_)
  obtain ⟨M1, e2⟩ : ∃ M1 : zM, M1 = zup M 86 0 0 := ⟨_, rfl⟩
  rw [← e2] at hS
  have h := h M1 e2
  refine lv_iload_n hx hb dX11_burn_16 rfl (lv_at hl 0 rfl) ?_
  exact w_iret hx hb hr hlocks hS hS0 rfl h dX11_burn_17

set_option maxRecDepth 100000 in
def wC_Pieces_laidIsLess (a0 : Int) (M : zM) (Q : Int → Prop) : Prop := pL1 (fun K2 x1 => ((sI a0) ≤ (sI x1) → Q 0) ∧ ((sI x1) < (sI a0) → ((0 ≤ (sI x1) ∧ (sI x1) < 40) ∧ ((0 ≤ (sI x1) ∧ (sI x1) < 40) ∧ ((sI (M 95 (sI x1).toNat)) = (sI (M 87 (sI x1).toNat)) → K2 (x1 + 1)) ∧ ((sI (M 95 (sI x1).toNat)) ≠ (sI (M 87 (sI x1).toNat)) → ((0 ≤ (sI x1) ∧ (sI x1) < 40) ∧ ((0 ≤ (sI x1) ∧ (sI x1) < 40) ∧ ((sI (M 87 (sI x1).toNat)) ≤ (sI (M 95 (sI x1).toNat)) → Q 0) ∧ ((sI (M 95 (sI x1).toNat)) < (sI (M 87 (sI x1).toNat)) → Q 1)))))))) 0
set_option maxHeartbeats 4000000 in
set_option maxRecDepth 100000 in
theorem cC_Pieces_laidIsLess (l : Launch) (D : va_G) (dA : Nat → ClassId) (b : Nat) (M : zM) (a0 : Int)  (Q : Int → Prop) (h : wC_Pieces_laidIsLess a0 M Q) : Met l yX4_laidIsLess (.code yX4_laidIsLess cX4_laidIsLess 3 (some .boolean) :: zt) (z_rm 0) (va_Pc [.ref (b + 86), .int (iI a0)] (wPre D dA vwCl (z_tys dA) wC nC b M)) (va_Qi (wQz (fun z9 u9 => u9 = M ∧ Q z9)) (zB D dA vwCl wC nC b) (zA nC b)) 0 0 (zA nC b) := by
  unfold wC_Pieces_laidIsLess at h
  refine Met.ofW (cc := cX4_laidIsLess) (maxL := 3) (ret := (some .boolean)) (by decide) rfl ?_
  intro p e s m args below meth c s₁ B hml hv
  obtain ⟨hargs, hS, hK⟩ := hv
  have hx := B.exec
  have hb := B.bytes
  have hr := B.returns
  have hts := atoms_spec (ws := .code yX4_laidIsLess cX4_laidIsLess 3 (some .boolean) :: zt) B.pre
  have hown : s.vm.findClass RX4 = some m.cls := findClass_of_methodNamed B.named
  have hlocks := B.notSynchronized
  have hS0 : va_S (zA nC b) s.heap s.heap [] := va_S.rf
  have hl := lv_entry ([.ref (b + 86), .int (iI a0)]) (n := 3) (Nat.le_of_ble_eq_true rfl)
  have hent : entryFrame m args 3 = F0 m 0 ((lg_sl ([.ref (b + 86), .int (iI a0)]) ++ List.replicate (3 - (lg_sl ([.ref (b + 86), .int (iI a0)])).length) Slot.unset).toArray) [] := by rw [hargs]; exact lg_entry_eq m ([.ref (b + 86), .int (iI a0)]) 3
  rw [hent]
  generalize (lg_sl ([.ref (b + 86), .int (iI a0)]) ++ List.replicate (3 - (lg_sl ([.ref (b + 86), .int (iI a0)])).length) Slot.unset).toArray = ls at hl ⊢
  have hl : lv_has ls 3 [(0, .ref (b + 86)), (1, .int (iI a0))] := hl
  refine z_iconst hx hb dX4_laidIsLess_0 ?_
  refine lv_istore_n (lv' := [(2, .int (iI 0)), (0, .ref (b + 86)), (1, .int (iI a0))]) hx hb dX4_laidIsLess_1 rfl hl (by decide) rfl (fun ls hl => ?_)
  obtain ⟨I2, ⟨n3, h4⟩, h5⟩ := h
  have L6 : ∀ (n7 : Nat) (x1 : Int) (H : Heap) (locs : List Loc) (ls : Array Slot), I2 n7 x1 → zR D dA vwCl wC nC b M H → va_S (zA nC b) s.heap H locs → lv_has ls 3 [(0, .ref (b + 86)), (1, .int (iI a0)), (2, .int (iI x1))] → W p l e (headSpec (.code yX4_laidIsLess cX4_laidIsLess 3 (some .boolean) :: zt) (z_rm 0)).room s m args below meth c H locs 0 0 (MQ below (va_Qi (wQz (fun z9 u9 => u9 = M ∧ Q z9)) (zB D dA vwCl wC nC b) (zA nC b)) args s 0 0 (zA nC b)) (F0 m 2 ls []) := by
    intro n7
    induction n7 using Nat.strongRecOn with
    | ind n7 i8 =>
      intro x1 H locs ls h hS hS0 hl
      have h := h5 n7 x1 h
      refine lv_iload_n hx hb dX4_laidIsLess_2 rfl (lv_at hl 2 rfl) ?_
      refine lv_iload_n hx hb dX4_laidIsLess_3 rfl (lv_at hl 1 rfl) ?_
      refine w_icmp_ge (tgt := 49) hx hb rfl rfl dX4_laidIsLess_4 (by decide) (fun c9 => ?_) (fun c9 => ?_)
      · skip
        have h := h.1 c9
        refine z_iconst hx hb dX4_laidIsLess_49 ?_
        exact w_zret hx hb hr hlocks hS hS0 (sI_of (by decide)) (by decide) ⟨rfl, h⟩ dX4_laidIsLess_50
      · skip
        have h := h.2 c9
        refine lv_aload_n hx hb dX4_laidIsLess_7 rfl (lv_at hl 0 rfl) ?_
        refine w_getr (j2 := 95) hx hb hts (z_memU u4) hown hK.1 hS f4_5 (by decide) (zkd_of (rfl : zcd wC 86 = 38) rfl) (zrf_of (rfl : zcd wC 86 = 38) rfl) (Or.inl (hts _ (z_mem k217))) dX4_laidIsLess_8 ?_
        refine lv_iload_n hx hb dX4_laidIsLess_11 rfl (lv_at hl 2 rfl) ?_
        obtain ⟨o10, h⟩ := h
        refine w_iald (n := 40) (i := (sI x1)) hx hb hK.1 (t0 := 0) rfl hS (by decide) (zkd_of (rfl : zcd wC 95 = 43) rfl) (zln_of (rfl : zcd wC 95 = 43) rfl) rfl o10.1 o10.2 (by decide) dX4_laidIsLess_12 ?_
        refine lv_aload_n hx hb dX4_laidIsLess_13 rfl (lv_at hl 0 rfl) ?_
        refine w_getr (j2 := 87) hx hb hts (z_memU u4) hown hK.1 hS f4_1 (by decide) (zkd_of (rfl : zcd wC 86 = 38) rfl) (zrf_of (rfl : zcd wC 86 = 38) rfl) (Or.inl (hts _ (z_mem k212))) dX4_laidIsLess_14 ?_
        refine lv_iload_n hx hb dX4_laidIsLess_17 rfl (lv_at hl 2 rfl) ?_
        obtain ⟨o11, h⟩ := h
        refine w_iald (n := 40) (i := (sI x1)) hx hb hK.1 (t0 := 0) rfl hS (by decide) (zkd_of (rfl : zcd wC 87 = 39) rfl) (zln_of (rfl : zcd wC 87 = 39) rfl) rfl o11.1 o11.2 (by decide) dX4_laidIsLess_18 ?_
        refine w_icmp_eq (tgt := 43) hx hb rfl rfl dX4_laidIsLess_19 (by decide) (fun c12 => ?_) (fun c12 => ?_)
        · skip
          have h := h.1 c12
          refine z_iinc (lv' := [(2, .int (iI (x1 + 1))), (0, .ref (b + 86)), (1, .int (iI a0))]) hx hb dX4_laidIsLess_43 hl (k := 2) rfl (by decide) rfl (fun ls hl => ?_)
          refine lv_goto (tgt := 2) hx hb dX4_laidIsLess_46 (by decide) ?_
          obtain ⟨n13, h14, h⟩ := h
          exact i8 n13 h14 (x1 + 1) _ _ _ h hS hS0 (lv_sub hl [1, 2, 0] rfl)
        · skip
          have h := h.2 c12
          refine lv_aload_n hx hb dX4_laidIsLess_22 rfl (lv_at hl 0 rfl) ?_
          refine w_getr (j2 := 95) hx hb hts (z_memU u4) hown hK.1 hS f4_5 (by decide) (zkd_of (rfl : zcd wC 86 = 38) rfl) (zrf_of (rfl : zcd wC 86 = 38) rfl) (Or.inl (hts _ (z_mem k217))) dX4_laidIsLess_23 ?_
          refine lv_iload_n hx hb dX4_laidIsLess_26 rfl (lv_at hl 2 rfl) ?_
          obtain ⟨o15, h⟩ := h
          refine w_iald (n := 40) (i := (sI x1)) hx hb hK.1 (t0 := 0) rfl hS (by decide) (zkd_of (rfl : zcd wC 95 = 43) rfl) (zln_of (rfl : zcd wC 95 = 43) rfl) rfl o15.1 o15.2 (by decide) dX4_laidIsLess_27 ?_
          refine lv_aload_n hx hb dX4_laidIsLess_28 rfl (lv_at hl 0 rfl) ?_
          refine w_getr (j2 := 87) hx hb hts (z_memU u4) hown hK.1 hS f4_1 (by decide) (zkd_of (rfl : zcd wC 86 = 38) rfl) (zrf_of (rfl : zcd wC 86 = 38) rfl) (Or.inl (hts _ (z_mem k212))) dX4_laidIsLess_29 ?_
          refine lv_iload_n hx hb dX4_laidIsLess_32 rfl (lv_at hl 2 rfl) ?_
          obtain ⟨o16, h⟩ := h
          refine w_iald (n := 40) (i := (sI x1)) hx hb hK.1 (t0 := 0) rfl hS (by decide) (zkd_of (rfl : zcd wC 87 = 39) rfl) (zln_of (rfl : zcd wC 87 = 39) rfl) rfl o16.1 o16.2 (by decide) dX4_laidIsLess_33 ?_
          refine w_icmp_ge (tgt := 41) hx hb rfl rfl dX4_laidIsLess_34 (by decide) (fun c17 => ?_) (fun c17 => ?_)
          · skip
            have h := h.1 c17
            refine z_iconst hx hb dX4_laidIsLess_41 ?_
            exact w_zret hx hb hr hlocks hS hS0 (sI_of (by decide)) (by decide) ⟨rfl, h⟩ dX4_laidIsLess_42
          · skip
            have h := h.2 c17
            refine z_iconst hx hb dX4_laidIsLess_37 ?_
            refine lv_goto (tgt := 42) hx hb dX4_laidIsLess_38 (by decide) ?_
            exact w_zret hx hb hr hlocks hS hS0 (sI_of (by decide)) (by decide) ⟨rfl, h⟩ dX4_laidIsLess_42
  exact L6 n3 0 _ _ _ h4 hS hS0 (lv_sub hl [1, 2, 0] rfl)

set_option maxRecDepth 100000 in
def wC_Pieces_keepBetter (a0 : Int) (M : zM) (Q : zM → Prop) : Prop := pJ0 (fun J24 => ((sI a0) < (sI (M 86 2)) → J24) ∧ ((sI (M 86 2)) ≤ (sI a0) → ((sI a0) ≠ (sI (M 86 2)) → Q M) ∧ ((sI a0) = (sI (M 86 2)) → wC_Pieces_laidIsLess a0 M (fun z20 => (z20 = 0 → Q M) ∧ (z20 ≠ 0 → J24))))) ((∀ M10 : zM, M10 = zup M 86 2 a0 → ((0 ≤ (sI a0)) ∧ ((0 + (sI a0) ≤ 40) ∧ ((0 + (sI a0) ≤ 40) ∧ (∀ M15 : zM, M15 = zcp M10 95 87 (0 : Int).toNat (0 : Int).toNat ((sI a0) : Int).toNat → Q M15))))))
set_option maxHeartbeats 4000000 in
set_option maxRecDepth 100000 in
theorem cC_Pieces_keepBetter (l : Launch) (D : va_G) (dA : Nat → ClassId) (b : Nat) (M : zM) (a0 : Int)  (Q : zM → Prop) (h : wC_Pieces_keepBetter a0 M Q) : Met l yX4_keepBetter (.code yX4_keepBetter cX4_keepBetter 2 none :: zt) (z_rm 1) (va_Pc [.ref (b + 86), .int (iI a0)] (wPre D dA vwCl (z_tys dA) wC nC b M)) (va_Qv (wQv Q) (zB D dA vwCl wC nC b) (zA nC b)) 0 0 (zA nC b) := by
  unfold wC_Pieces_keepBetter at h
  refine Met.ofW (cc := cX4_keepBetter) (maxL := 2) (ret := none) (by decide) rfl ?_
  intro p e s m args below meth c s₁ B hml hv
  obtain ⟨hargs, hS, hK⟩ := hv
  have hx := B.exec
  have hb := B.bytes
  have hr := B.returns
  have hts := atoms_spec (ws := .code yX4_keepBetter cX4_keepBetter 2 none :: zt) B.pre
  have hown : s.vm.findClass RX4 = some m.cls := findClass_of_methodNamed B.named
  have hlocks := B.notSynchronized
  have hS0 : va_S (zA nC b) s.heap s.heap [] := va_S.rf
  have hl := lv_entry ([.ref (b + 86), .int (iI a0)]) (n := 2) (Nat.le_of_ble_eq_true rfl)
  have hent : entryFrame m args 2 = F0 m 0 ((lg_sl ([.ref (b + 86), .int (iI a0)]) ++ List.replicate (2 - (lg_sl ([.ref (b + 86), .int (iI a0)])).length) Slot.unset).toArray) [] := by rw [hargs]; exact lg_entry_eq m ([.ref (b + 86), .int (iI a0)]) 2
  rw [hent]
  generalize (lg_sl ([.ref (b + 86), .int (iI a0)]) ++ List.replicate (2 - (lg_sl ([.ref (b + 86), .int (iI a0)])).length) Slot.unset).toArray = ls at hl ⊢
  have hl : lv_has ls 2 [(0, .ref (b + 86)), (1, .int (iI a0))] := hl
  refine lv_iload_n hx hb dX4_keepBetter_0 rfl (lv_at hl 1 rfl) ?_
  refine lv_aload_n hx hb dX4_keepBetter_1 rfl (lv_at hl 0 rfl) ?_
  refine w_geti hx hb hts (z_memU u4) hown hK.1 hS f4_2 (by decide) (zkd_of (rfl : zcd wC 86 = 38) rfl) (Or.inl (hts _ (z_mem k214))) dX4_keepBetter_2 ?_
  obtain ⟨J24, B9, h⟩ := h
  have L8 : ∀ (H : Heap) (locs : List Loc) (ls : Array Slot), J24 → zR D dA vwCl wC nC b M H → va_S (zA nC b) s.heap H locs → lv_has ls 2 [(0, .ref (b + 86)), (1, .int (iI a0))] → W p l e (headSpec (.code yX4_keepBetter cX4_keepBetter 2 none :: zt) (z_rm 1)).room s m args below meth c H locs 0 0 (MQ below (va_Qv (wQv Q) (zB D dA vwCl wC nC b) (zA nC b)) args s 0 0 (zA nC b)) (F0 m 24 ls []) := by
    intro  H locs ls h hS hS0 hl
    have h := B9 h
    refine lv_aload_n hx hb dX4_keepBetter_24 rfl (lv_at hl 0 rfl) ?_
    refine lv_iload_n hx hb dX4_keepBetter_25 rfl (lv_at hl 1 rfl) ?_
    refine w_puti hx hb hts (z_memU u4) tyX4 tyX4_ok nmX4 hown hK.1 hS hS0 f4_2 (by decide) (zkd_of (rfl : zcd wC 86 = 38) rfl) (Or.inl (hts _ (z_mem k214))) rfl (z := a0) (by decide +kernel) dX4_keepBetter_26 (fun H locs hS hS0 => ?_)
    obtain ⟨M10, e11⟩ : ∃ M10 : zM, M10 = zup M 86 2 a0 := ⟨_, rfl⟩
    rw [← e11] at hS
    have h := h M10 e11
    refine lv_aload_n hx hb dX4_keepBetter_29 rfl (lv_at hl 0 rfl) ?_
    refine w_getr (j2 := 95) hx hb hts (z_memU u4) hown hK.1 hS f4_5 (by decide) (zkd_of (rfl : zcd wC 86 = 38) rfl) (zrf_of (rfl : zcd wC 86 = 38) rfl) (Or.inl (hts _ (z_mem k217))) dX4_keepBetter_30 ?_
    refine z_iconst hx hb dX4_keepBetter_33 ?_
    refine lv_aload_n hx hb dX4_keepBetter_34 rfl (lv_at hl 0 rfl) ?_
    refine w_getr (j2 := 87) hx hb hts (z_memU u4) hown hK.1 hS f4_1 (by decide) (zkd_of (rfl : zcd wC 86 = 38) rfl) (zrf_of (rfl : zcd wC 86 = 38) rfl) (Or.inl (hts _ (z_mem k212))) dX4_keepBetter_35 ?_
    refine z_iconst hx hb dX4_keepBetter_38 ?_
    refine lv_iload_n hx hb dX4_keepBetter_39 rfl (lv_at hl 1 rfl) ?_
    obtain ⟨o12, h⟩ := h
    obtain ⟨o13, h⟩ := h
    obtain ⟨o14, h⟩ := h
    refine w_acopy (n0 := 40) (n1 := 40) (sp := 0) (dp := 0) (n := (sI a0)) hx hb (hml.trans hl.1.symm) hown (hts _ (z_mem k826)) (hts _ (z_mem k366)) (hts _ (z_mem k365)) (hts _ (z_mem k16)) hK.1 (t0 := 0) rfl hS hS0 (by decide) (by decide) (by decide) (zkd_of (rfl : zcd wC 95 = 43) rfl) (zkd_of (rfl : zcd wC 87 = 39) rfl) (zln_of (rfl : zcd wC 95 = 43) rfl) (zln_of (rfl : zcd wC 87 = 39) rfl) (by decide) (by decide) (sI_of (by decide)) (sI_of (by decide)) rfl (by decide) (by decide) o12 o13 o14 (by exact Nat.le_of_ble_eq_true rfl) (by exact Nat.le_of_ble_eq_true rfl) dX4_keepBetter_40 (fun H locs hS hS0 => ?_)
    obtain ⟨M15, e16⟩ : ∃ M15 : zM, M15 = zcp M10 95 87 (0 : Int).toNat (0 : Int).toNat ((sI a0) : Int).toNat := ⟨_, rfl⟩
    rw [← e16] at hS
    have h := h M15 e16
    exact w_vret hx hb hr hlocks hS hS0 h dX4_keepBetter_43
  refine w_icmp_lt (tgt := 24) hx hb rfl rfl dX4_keepBetter_5 (by decide) (fun c17 => ?_) (fun c17 => ?_)
  · skip
    have h := h.1 c17
    exact L8 _ _ _ h hS hS0 (lv_sub hl [0, 1] rfl)
  · skip
    have h := h.2 c17
    refine lv_iload_n hx hb dX4_keepBetter_8 rfl (lv_at hl 1 rfl) ?_
    refine lv_aload_n hx hb dX4_keepBetter_9 rfl (lv_at hl 0 rfl) ?_
    refine w_geti hx hb hts (z_memU u4) hown hK.1 hS f4_2 (by decide) (zkd_of (rfl : zcd wC 86 = 38) rfl) (Or.inl (hts _ (z_mem k214))) dX4_keepBetter_10 ?_
    refine w_icmp_ne (tgt := 43) hx hb rfl rfl dX4_keepBetter_13 (by decide) (fun c18 => ?_) (fun c18 => ?_)
    · skip
      have h := h.1 c18
      exact w_vret hx hb hr hlocks hS hS0 h dX4_keepBetter_43
    · skip
      have h := h.2 c18
      refine lv_aload_n hx hb dX4_keepBetter_16 rfl (lv_at hl 0 rfl) ?_
      refine lv_iload_n hx hb dX4_keepBetter_17 rfl (lv_at hl 1 rfl) ?_
      refine w_callz (va_runV (As := [.int (iI a0)]) (rest := []) ⟨hx, hb, hml, hown, hts⟩ (cC_Pieces_laidIsLess l D dA b M a0 _ h) (cwV 1 hts (z_gV k823 k824 k1385 k12 k825) rfl rfl rfl dm_X4_laidIsLess ⟨Nat.le_of_ble_eq_true rfl, Nat.le_of_ble_eq_true rfl⟩) ⟨wPre_blind, (w_recv hS hK.1 (by decide) (zkd_of (rfl : zcd wC 86 = 38) rfl) (by decide) (rfl : vwCl[4]? = some (RX4, TX4, 6))), w_pre hS hK⟩ rfl rfl hl.1 rfl (lv_room (Nat.le_of_ble_eq_true rfl)) dX4_keepBetter_18 ⟨Nat.le_refl _, Nat.le_refl _⟩) hS0 (fun z20 M19 H locs r21 h hS hS0 => ?_)
      obtain ⟨e22, h⟩ := h
      rw [e22] at hS
      refine w_if_eq (tgt := 43) hx hb (sI_01 r21) dX4_keepBetter_21 (by decide) (fun c23 => ?_) (fun c23 => ?_)
      · skip
        have h := h.1 c23
        exact w_vret hx hb hr hlocks hS hS0 h dX4_keepBetter_43
      · skip
        have h := h.2 c23
        exact L8 _ _ _ h hS hS0 (lv_sub hl [0, 1] rfl)

set_option maxRecDepth 100000 in
def wC_Pieces_sound (a0 : Int) (a1 : Int) (a2 : Int) (M : zM) (Q : Int → Prop) : Prop := ((0 ≤ (sI a0) ∧ (sI a0) < 5) ∧ ((sI a1) = 0 → ((0 ≤ (sI a2) ∧ (sI a2) < 8) ∧ Q (sI (M (89 + 1 * (sI a0).toNat) (sI a2).toNat)))) ∧ ((sI a1) ≠ 0 → ((0 ≤ (sI a0) ∧ (sI a0) < 5) ∧ ((0 ≤ (sI (((M 94 (sI a0).toNat) - 1) - a2)) ∧ (sI (((M 94 (sI a0).toNat) - 1) - a2)) < 8) ∧ Q (sI (M (89 + 1 * (sI a0).toNat) (sI (((M 94 (sI a0).toNat) - 1) - a2)).toNat))))))
set_option maxHeartbeats 4000000 in
set_option maxRecDepth 100000 in
theorem cC_Pieces_sound (l : Launch) (D : va_G) (dA : Nat → ClassId) (b : Nat) (M : zM) (a0 : Int) (a1 : Int) (a2 : Int)  (Q : Int → Prop) (h : wC_Pieces_sound a0 a1 a2 M Q) : Met l yX4_sound (.code yX4_sound cX4_sound 4 (some .int) :: zt) (z_rm 0) (va_Pc [.ref (b + 86), .int (iI a0), .int (iI a1), .int (iI a2)] (wPre D dA vwCl (z_tys dA) wC nC b M)) (va_Qi (wQi (fun z9 u9 => u9 = M ∧ Q z9)) (zB D dA vwCl wC nC b) (zA nC b)) 0 0 (zA nC b) := by
  unfold wC_Pieces_sound at h
  refine Met.ofW (cc := cX4_sound) (maxL := 4) (ret := (some .int)) (by decide) rfl ?_
  intro p e s m args below meth c s₁ B hml hv
  obtain ⟨hargs, hS, hK⟩ := hv
  have hx := B.exec
  have hb := B.bytes
  have hr := B.returns
  have hts := atoms_spec (ws := .code yX4_sound cX4_sound 4 (some .int) :: zt) B.pre
  have hown : s.vm.findClass RX4 = some m.cls := findClass_of_methodNamed B.named
  have hlocks := B.notSynchronized
  have hS0 : va_S (zA nC b) s.heap s.heap [] := va_S.rf
  have hl := lv_entry ([.ref (b + 86), .int (iI a0), .int (iI a1), .int (iI a2)]) (n := 4) (Nat.le_of_ble_eq_true rfl)
  have hent : entryFrame m args 4 = F0 m 0 ((lg_sl ([.ref (b + 86), .int (iI a0), .int (iI a1), .int (iI a2)]) ++ List.replicate (4 - (lg_sl ([.ref (b + 86), .int (iI a0), .int (iI a1), .int (iI a2)])).length) Slot.unset).toArray) [] := by rw [hargs]; exact lg_entry_eq m ([.ref (b + 86), .int (iI a0), .int (iI a1), .int (iI a2)]) 4
  rw [hent]
  generalize (lg_sl ([.ref (b + 86), .int (iI a0), .int (iI a1), .int (iI a2)]) ++ List.replicate (4 - (lg_sl ([.ref (b + 86), .int (iI a0), .int (iI a1), .int (iI a2)])).length) Slot.unset).toArray = ls at hl ⊢
  have hl : lv_has ls 4 [(0, .ref (b + 86)), (1, .int (iI a0)), (2, .int (iI a1)), (3, .int (iI a2))] := hl
  refine lv_aload_n hx hb dX4_sound_0 rfl (lv_at hl 0 rfl) ?_
  refine w_getr (j2 := 88) hx hb hts (z_memU u4) hown hK.1 hS f4_3 (by decide) (zkd_of (rfl : zcd wC 86 = 38) rfl) (zrf_of (rfl : zcd wC 86 = 38) rfl) (Or.inl (hts _ (z_mem k215))) dX4_sound_1 ?_
  refine lv_iload_n hx hb dX4_sound_4 rfl (lv_at hl 1 rfl) ?_
  obtain ⟨o1, h⟩ := h
  refine w_aald (n := 5) (i := (sI a0)) (j2 := (89 + 1 * (sI a0).toNat)) hx hb hK.1 (t0 := 7) (r := 7) (by decide) rfl rfl hS (by decide) (zkd_of (rfl : zcd wC 88 = 40) rfl) (zln_of (rfl : zcd wC 88 = 40) rfl) rfl o1.1 o1.2 (by decide) (zrf_of (rfl : zcd wC 88 = 40) rfl) dX4_sound_5 ?_
  obtain ⟨lt2, cd3⟩ : (89 + 1 * (sI a0).toNat) < nC ∧ zcd wC (89 + 1 * (sI a0).toNat) = 41 := (by decide : ∀ k : Nat, k < 5 → (89 + 1 * k) < nC ∧ zcd wC (89 + 1 * k) = 41) (sI a0).toNat (by clear h; have h0 := o1.1; have h1 := o1.2; omega)
  refine lv_iload_n hx hb dX4_sound_6 rfl (lv_at hl 2 rfl) ?_
  refine w_if_eq (tgt := 23) hx hb rfl dX4_sound_7 (by decide) (fun c4 => ?_) (fun c4 => ?_)
  · skip
    have h := h.1 c4
    refine lv_iload_n hx hb dX4_sound_23 rfl (lv_at hl 3 rfl) ?_
    obtain ⟨o5, h⟩ := h
    refine w_iald (n := 8) (i := (sI a2)) hx hb hK.1 (t0 := 0) rfl hS lt2 (zkd_of cd3 rfl) (zln_of cd3 rfl) rfl o5.1 o5.2 (by decide) dX4_sound_24 ?_
    exact w_iret hx hb hr hlocks hS hS0 rfl ⟨rfl, h⟩ dX4_sound_25
  · skip
    have h := h.2 c4
    refine lv_aload_n hx hb dX4_sound_10 rfl (lv_at hl 0 rfl) ?_
    refine w_getr (j2 := 94) hx hb hts (z_memU u4) hown hK.1 hS f4_4 (by decide) (zkd_of (rfl : zcd wC 86 = 38) rfl) (zrf_of (rfl : zcd wC 86 = 38) rfl) (Or.inl (hts _ (z_mem k216))) dX4_sound_11 ?_
    refine lv_iload_n hx hb dX4_sound_14 rfl (lv_at hl 1 rfl) ?_
    obtain ⟨o6, h⟩ := h
    refine w_iald (n := 5) (i := (sI a0)) hx hb hK.1 (t0 := 0) rfl hS (by decide) (zkd_of (rfl : zcd wC 94 = 42) rfl) (zln_of (rfl : zcd wC 94 = 42) rfl) rfl o6.1 o6.2 (by decide) dX4_sound_15 ?_
    refine z_iconst hx hb dX4_sound_16 ?_
    refine z_isub hx hb dX4_sound_17 ?_
    refine lv_iload_n hx hb dX4_sound_18 rfl (lv_at hl 3 rfl) ?_
    refine z_isub hx hb dX4_sound_19 ?_
    refine lv_goto (tgt := 24) hx hb dX4_sound_20 (by decide) ?_
    obtain ⟨o7, h⟩ := h
    refine w_iald (n := 8) (i := (sI (((M 94 (sI a0).toNat) - 1) - a2))) hx hb hK.1 (t0 := 0) rfl hS lt2 (zkd_of cd3 rfl) (zln_of cd3 rfl) rfl o7.1 o7.2 (by decide) dX4_sound_24 ?_
    exact w_iret hx hb hr hlocks hS hS0 rfl ⟨rfl, h⟩ dX4_sound_25
end zz10_w11
section zz10_w12
/-! the W layer, 12 -/
theorem q10w12_0_0 : (cX10_add.data.toList.drop 0).take 22 = [42, 180, 0, 9, 16, 16, 162, 0, 25, 42, 180, 0, 9, 158, 0, 20, 29, 42, 180, 0, 25, 42] := by decide +kernel
theorem q10w12_0_22 : (cX10_add.data.toList.drop 22).take 24 = [180, 0, 9, 4, 100, 46, 162, 0, 5, 2, 172, 42, 180, 0, 17, 42, 180, 0, 9, 50, 43, 182, 0, 32] := by decide +kernel
theorem q10w12_0_46 : (cX10_add.data.toList.drop 46).take 22 = [42, 180, 0, 21, 42, 180, 0, 9, 28, 79, 42, 180, 0, 25, 42, 180, 0, 9, 29, 79, 42, 89] := by decide +kernel
theorem q10w12_0_68 : (cX10_add.data.toList.drop 68).take 15 = [180, 0, 9, 4, 96, 181, 0, 9, 42, 180, 0, 9, 4, 100, 172] := by decide +kernel
theorem dX10_add_0 : decode cX10_add 0 = .ok (.aload_n 0, 1) := dz_42 (dz_at q10w12_0_0 0)
theorem dX10_add_1 : decode cX10_add 1 = .ok (.getfield 9, 3) := dz_180 (dz_at q10w12_0_0 1) rfl
theorem dX10_add_10 : decode cX10_add 10 = .ok (.getfield 9, 3) := dz_180 (dz_at q10w12_0_0 10) rfl
theorem dX10_add_13 : decode cX10_add 13 = .ok (.ifCond .le 20, 3) := dz_158 (dz_at q10w12_0_0 13) (by decide +kernel)
theorem dX10_add_16 : decode cX10_add 16 = .ok (.iload_n 3, 1) := dz_29 (dz_at q10w12_0_0 16)
theorem dX10_add_17 : decode cX10_add 17 = .ok (.aload_n 0, 1) := dz_42 (dz_at q10w12_0_0 17)
theorem dX10_add_18 : decode cX10_add 18 = .ok (.getfield 25, 3) := dz_180 (dz_at q10w12_0_0 18) rfl
theorem dX10_add_21 : decode cX10_add 21 = .ok (.aload_n 0, 1) := dz_42 (dz_at q10w12_0_0 21)
theorem dX10_add_22 : decode cX10_add 22 = .ok (.getfield 9, 3) := dz_180 (dz_at q10w12_0_22 0) rfl
theorem dX10_add_25 : decode cX10_add 25 = .ok (.iconst 1, 1) := dz_4 (dz_at q10w12_0_22 3)
theorem dX10_add_26 : decode cX10_add 26 = .ok (.isub, 1) := dz_100 (dz_at q10w12_0_22 4)
theorem dX10_add_27 : decode cX10_add 27 = .ok (.iaload, 1) := dz_46 (dz_at q10w12_0_22 5)
theorem dX10_add_28 : decode cX10_add 28 = .ok (.if_icmp .ge 5, 3) := dz_162 (dz_at q10w12_0_22 6) (by decide +kernel)
theorem dX10_add_31 : decode cX10_add 31 = .ok (.iconst (-1), 1) := dz_2 (dz_at q10w12_0_22 9)
theorem dX10_add_32 : decode cX10_add 32 = .ok (.ireturn, 1) := dz_172 (dz_at q10w12_0_22 10)
theorem dX10_add_33 : decode cX10_add 33 = .ok (.aload_n 0, 1) := dz_42 (dz_at q10w12_0_22 11)
theorem dX10_add_34 : decode cX10_add 34 = .ok (.getfield 17, 3) := dz_180 (dz_at q10w12_0_22 12) rfl
theorem dX10_add_37 : decode cX10_add 37 = .ok (.aload_n 0, 1) := dz_42 (dz_at q10w12_0_22 15)
theorem dX10_add_38 : decode cX10_add 38 = .ok (.getfield 9, 3) := dz_180 (dz_at q10w12_0_22 16) rfl
theorem dX10_add_4 : decode cX10_add 4 = .ok (.bipush 16, 2) := dz_16 (dz_at q10w12_0_0 4) (by decide +kernel)
theorem dX10_add_41 : decode cX10_add 41 = .ok (.aaload, 1) := dz_50 (dz_at q10w12_0_22 19)
theorem dX10_add_42 : decode cX10_add 42 = .ok (.aload_n 1, 1) := dz_43 (dz_at q10w12_0_22 20)
theorem dX10_add_43 : decode cX10_add 43 = .ok (.invokevirtual 32, 3) := dz_182 (dz_at q10w12_0_22 21) rfl
theorem dX10_add_46 : decode cX10_add 46 = .ok (.aload_n 0, 1) := dz_42 (dz_at q10w12_0_46 0)
theorem dX10_add_47 : decode cX10_add 47 = .ok (.getfield 21, 3) := dz_180 (dz_at q10w12_0_46 1) rfl
theorem dX10_add_50 : decode cX10_add 50 = .ok (.aload_n 0, 1) := dz_42 (dz_at q10w12_0_46 4)
theorem dX10_add_51 : decode cX10_add 51 = .ok (.getfield 9, 3) := dz_180 (dz_at q10w12_0_46 5) rfl
theorem dX10_add_54 : decode cX10_add 54 = .ok (.iload_n 2, 1) := dz_28 (dz_at q10w12_0_46 8)
theorem dX10_add_55 : decode cX10_add 55 = .ok (.iastore, 1) := dz_79 (dz_at q10w12_0_46 9)
theorem dX10_add_56 : decode cX10_add 56 = .ok (.aload_n 0, 1) := dz_42 (dz_at q10w12_0_46 10)
theorem dX10_add_57 : decode cX10_add 57 = .ok (.getfield 25, 3) := dz_180 (dz_at q10w12_0_46 11) rfl
theorem dX10_add_6 : decode cX10_add 6 = .ok (.if_icmp .ge 25, 3) := dz_162 (dz_at q10w12_0_0 6) (by decide +kernel)
theorem dX10_add_60 : decode cX10_add 60 = .ok (.aload_n 0, 1) := dz_42 (dz_at q10w12_0_46 14)
theorem dX10_add_61 : decode cX10_add 61 = .ok (.getfield 9, 3) := dz_180 (dz_at q10w12_0_46 15) rfl
theorem dX10_add_64 : decode cX10_add 64 = .ok (.iload_n 3, 1) := dz_29 (dz_at q10w12_0_46 18)
theorem dX10_add_65 : decode cX10_add 65 = .ok (.iastore, 1) := dz_79 (dz_at q10w12_0_46 19)
theorem dX10_add_66 : decode cX10_add 66 = .ok (.aload_n 0, 1) := dz_42 (dz_at q10w12_0_46 20)
theorem dX10_add_67 : decode cX10_add 67 = .ok (.dup, 1) := dz_89 (dz_at q10w12_0_46 21)
theorem dX10_add_68 : decode cX10_add 68 = .ok (.getfield 9, 3) := dz_180 (dz_at q10w12_0_68 0) rfl
theorem dX10_add_71 : decode cX10_add 71 = .ok (.iconst 1, 1) := dz_4 (dz_at q10w12_0_68 3)
theorem dX10_add_72 : decode cX10_add 72 = .ok (.iadd, 1) := dz_96 (dz_at q10w12_0_68 4)
theorem dX10_add_73 : decode cX10_add 73 = .ok (.putfield 9, 3) := dz_181 (dz_at q10w12_0_68 5) rfl
theorem dX10_add_76 : decode cX10_add 76 = .ok (.aload_n 0, 1) := dz_42 (dz_at q10w12_0_68 8)
theorem dX10_add_77 : decode cX10_add 77 = .ok (.getfield 9, 3) := dz_180 (dz_at q10w12_0_68 9) rfl
theorem dX10_add_80 : decode cX10_add 80 = .ok (.iconst 1, 1) := dz_4 (dz_at q10w12_0_68 12)
theorem dX10_add_81 : decode cX10_add 81 = .ok (.isub, 1) := dz_100 (dz_at q10w12_0_68 13)
theorem dX10_add_82 : decode cX10_add 82 = .ok (.ireturn, 1) := dz_172 (dz_at q10w12_0_68 14)
theorem dX10_add_9 : decode cX10_add 9 = .ok (.aload_n 0, 1) := dz_42 (dz_at q10w12_0_0 9)
theorem q10w12_1_0 : (cX10_find.data.toList.drop 0).take 24 = [27, 155, 0, 26, 27, 42, 180, 0, 9, 162, 0, 18, 27, 16, 16, 162, 0, 12, 42, 180, 0, 17, 27, 50] := by decide +kernel
theorem q10w12_1_24 : (cX10_find.data.toList.drop 24).take 5 = [167, 0, 4, 1, 176] := by decide +kernel
theorem dX10_find_0 : decode cX10_find 0 = .ok (.iload_n 1, 1) := dz_27 (dz_at q10w12_1_0 0)
theorem dX10_find_1 : decode cX10_find 1 = .ok (.ifCond .lt 26, 3) := dz_155 (dz_at q10w12_1_0 1) (by decide +kernel)
theorem dX10_find_12 : decode cX10_find 12 = .ok (.iload_n 1, 1) := dz_27 (dz_at q10w12_1_0 12)
theorem dX10_find_13 : decode cX10_find 13 = .ok (.bipush 16, 2) := dz_16 (dz_at q10w12_1_0 13) (by decide +kernel)
theorem dX10_find_15 : decode cX10_find 15 = .ok (.if_icmp .ge 12, 3) := dz_162 (dz_at q10w12_1_0 15) (by decide +kernel)
theorem dX10_find_18 : decode cX10_find 18 = .ok (.aload_n 0, 1) := dz_42 (dz_at q10w12_1_0 18)
theorem dX10_find_19 : decode cX10_find 19 = .ok (.getfield 17, 3) := dz_180 (dz_at q10w12_1_0 19) rfl
theorem dX10_find_22 : decode cX10_find 22 = .ok (.iload_n 1, 1) := dz_27 (dz_at q10w12_1_0 22)
theorem dX10_find_23 : decode cX10_find 23 = .ok (.aaload, 1) := dz_50 (dz_at q10w12_1_0 23)
theorem dX10_find_24 : decode cX10_find 24 = .ok (.goto 4, 3) := dz_167 (dz_at q10w12_1_24 0) (by decide +kernel)
theorem dX10_find_27 : decode cX10_find 27 = .ok (.aconst_null, 1) := dz_1 (dz_at q10w12_1_24 3)
theorem dX10_find_28 : decode cX10_find 28 = .ok (.areturn, 1) := dz_176 (dz_at q10w12_1_24 4)
theorem dX10_find_4 : decode cX10_find 4 = .ok (.iload_n 1, 1) := dz_27 (dz_at q10w12_1_0 4)
theorem dX10_find_5 : decode cX10_find 5 = .ok (.aload_n 0, 1) := dz_42 (dz_at q10w12_1_0 5)
theorem dX10_find_6 : decode cX10_find 6 = .ok (.getfield 9, 3) := dz_180 (dz_at q10w12_1_0 6) rfl
theorem dX10_find_9 : decode cX10_find 9 = .ok (.if_icmp .ge 18, 3) := dz_162 (dz_at q10w12_1_0 9) (by decide +kernel)
theorem q10w12_2_0 : (cX10_latest.data.toList.drop 0).take 22 = [42, 180, 0, 9, 4, 100, 62, 29, 155, 0, 31, 42, 180, 0, 21, 29, 46, 27, 160, 0, 15, 42] := by decide +kernel
theorem q10w12_2_22 : (cX10_latest.data.toList.drop 22).take 19 = [180, 0, 25, 29, 46, 28, 163, 0, 5, 29, 172, 132, 3, 255, 167, 255, 227, 2, 172] := by decide +kernel
theorem dX10_latest_0 : decode cX10_latest 0 = .ok (.aload_n 0, 1) := dz_42 (dz_at q10w12_2_0 0)
theorem dX10_latest_1 : decode cX10_latest 1 = .ok (.getfield 9, 3) := dz_180 (dz_at q10w12_2_0 1) rfl
theorem dX10_latest_11 : decode cX10_latest 11 = .ok (.aload_n 0, 1) := dz_42 (dz_at q10w12_2_0 11)
theorem dX10_latest_12 : decode cX10_latest 12 = .ok (.getfield 21, 3) := dz_180 (dz_at q10w12_2_0 12) rfl
theorem dX10_latest_15 : decode cX10_latest 15 = .ok (.iload_n 3, 1) := dz_29 (dz_at q10w12_2_0 15)
theorem dX10_latest_16 : decode cX10_latest 16 = .ok (.iaload, 1) := dz_46 (dz_at q10w12_2_0 16)
theorem dX10_latest_17 : decode cX10_latest 17 = .ok (.iload_n 1, 1) := dz_27 (dz_at q10w12_2_0 17)
theorem dX10_latest_18 : decode cX10_latest 18 = .ok (.if_icmp .ne 15, 3) := dz_160 (dz_at q10w12_2_0 18) (by decide +kernel)
theorem dX10_latest_21 : decode cX10_latest 21 = .ok (.aload_n 0, 1) := dz_42 (dz_at q10w12_2_0 21)
theorem dX10_latest_22 : decode cX10_latest 22 = .ok (.getfield 25, 3) := dz_180 (dz_at q10w12_2_22 0) rfl
theorem dX10_latest_25 : decode cX10_latest 25 = .ok (.iload_n 3, 1) := dz_29 (dz_at q10w12_2_22 3)
theorem dX10_latest_26 : decode cX10_latest 26 = .ok (.iaload, 1) := dz_46 (dz_at q10w12_2_22 4)
theorem dX10_latest_27 : decode cX10_latest 27 = .ok (.iload_n 2, 1) := dz_28 (dz_at q10w12_2_22 5)
theorem dX10_latest_28 : decode cX10_latest 28 = .ok (.if_icmp .gt 5, 3) := dz_163 (dz_at q10w12_2_22 6) (by decide +kernel)
theorem dX10_latest_31 : decode cX10_latest 31 = .ok (.iload_n 3, 1) := dz_29 (dz_at q10w12_2_22 9)
theorem dX10_latest_32 : decode cX10_latest 32 = .ok (.ireturn, 1) := dz_172 (dz_at q10w12_2_22 10)
theorem dX10_latest_33 : decode cX10_latest 33 = .ok (.iinc 3 (-1), 3) := dz_132 (dz_at q10w12_2_22 11) (by decide +kernel)
theorem dX10_latest_36 : decode cX10_latest 36 = .ok (.goto (-29), 3) := dz_167 (dz_at q10w12_2_22 14) (by decide +kernel)
theorem dX10_latest_39 : decode cX10_latest 39 = .ok (.iconst (-1), 1) := dz_2 (dz_at q10w12_2_22 17)
theorem dX10_latest_4 : decode cX10_latest 4 = .ok (.iconst 1, 1) := dz_4 (dz_at q10w12_2_0 4)
theorem dX10_latest_40 : decode cX10_latest 40 = .ok (.ireturn, 1) := dz_172 (dz_at q10w12_2_22 18)
theorem dX10_latest_5 : decode cX10_latest 5 = .ok (.isub, 1) := dz_100 (dz_at q10w12_2_0 5)
theorem dX10_latest_6 : decode cX10_latest 6 = .ok (.istore_n 3, 1) := dz_62 (dz_at q10w12_2_0 6)
theorem dX10_latest_7 : decode cX10_latest 7 = .ok (.iload_n 3, 1) := dz_29 (dz_at q10w12_2_0 7)
theorem dX10_latest_8 : decode cX10_latest 8 = .ok (.ifCond .lt 31, 3) := dz_155 (dz_at q10w12_2_0 8) (by decide +kernel)
theorem q10w12_3_0 : (cX11_fetch.data.toList.drop 0).take 24 = [42, 180, 0, 68, 27, 182, 1, 21, 77, 44, 199, 0, 5, 2, 172, 42, 180, 0, 19, 44, 182, 1, 24, 42] := by decide +kernel
theorem q10w12_3_24 : (cX11_fetch.data.toList.drop 24).take 7 = [180, 0, 19, 180, 0, 117, 172] := by decide +kernel
theorem dX11_fetch_0 : decode cX11_fetch 0 = .ok (.aload_n 0, 1) := dz_42 (dz_at q10w12_3_0 0)
theorem dX11_fetch_1 : decode cX11_fetch 1 = .ok (.getfield 68, 3) := dz_180 (dz_at q10w12_3_0 1) rfl
theorem dX11_fetch_10 : decode cX11_fetch 10 = .ok (.ifnonnull 5, 3) := dz_199 (dz_at q10w12_3_0 10) (by decide +kernel)
theorem dX11_fetch_13 : decode cX11_fetch 13 = .ok (.iconst (-1), 1) := dz_2 (dz_at q10w12_3_0 13)
theorem dX11_fetch_14 : decode cX11_fetch 14 = .ok (.ireturn, 1) := dz_172 (dz_at q10w12_3_0 14)
theorem dX11_fetch_15 : decode cX11_fetch 15 = .ok (.aload_n 0, 1) := dz_42 (dz_at q10w12_3_0 15)
theorem dX11_fetch_16 : decode cX11_fetch 16 = .ok (.getfield 19, 3) := dz_180 (dz_at q10w12_3_0 16) rfl
theorem dX11_fetch_19 : decode cX11_fetch 19 = .ok (.aload_n 2, 1) := dz_44 (dz_at q10w12_3_0 19)
theorem dX11_fetch_20 : decode cX11_fetch 20 = .ok (.invokevirtual 280, 3) := dz_182 (dz_at q10w12_3_0 20) rfl
theorem dX11_fetch_23 : decode cX11_fetch 23 = .ok (.aload_n 0, 1) := dz_42 (dz_at q10w12_3_0 23)
theorem dX11_fetch_24 : decode cX11_fetch 24 = .ok (.getfield 19, 3) := dz_180 (dz_at q10w12_3_24 0) rfl
theorem dX11_fetch_27 : decode cX11_fetch 27 = .ok (.getfield 117, 3) := dz_180 (dz_at q10w12_3_24 3) rfl
theorem dX11_fetch_30 : decode cX11_fetch 30 = .ok (.ireturn, 1) := dz_172 (dz_at q10w12_3_24 6)
theorem dX11_fetch_4 : decode cX11_fetch 4 = .ok (.iload_n 1, 1) := dz_27 (dz_at q10w12_3_0 4)
theorem dX11_fetch_5 : decode cX11_fetch 5 = .ok (.invokevirtual 277, 3) := dz_182 (dz_at q10w12_3_0 5) rfl
theorem dX11_fetch_8 : decode cX11_fetch 8 = .ok (.astore_n 2, 1) := dz_77 (dz_at q10w12_3_0 8)
theorem dX11_fetch_9 : decode cX11_fetch 9 = .ok (.aload_n 2, 1) := dz_44 (dz_at q10w12_3_0 9)
theorem q10w12_4_0 : (cX11_join.data.toList.drop 0).take 22 = [42, 180, 0, 61, 182, 1, 11, 60, 42, 42, 180, 0, 61, 180, 1, 14, 27, 182, 0, 220, 27, 172] := by decide +kernel
theorem dX11_join_0 : decode cX11_join 0 = .ok (.aload_n 0, 1) := dz_42 (dz_at q10w12_4_0 0)
theorem dX11_join_1 : decode cX11_join 1 = .ok (.getfield 61, 3) := dz_180 (dz_at q10w12_4_0 1) rfl
theorem dX11_join_10 : decode cX11_join 10 = .ok (.getfield 61, 3) := dz_180 (dz_at q10w12_4_0 10) rfl
theorem dX11_join_13 : decode cX11_join 13 = .ok (.getfield 270, 3) := dz_180 (dz_at q10w12_4_0 13) rfl
theorem dX11_join_16 : decode cX11_join 16 = .ok (.iload_n 1, 1) := dz_27 (dz_at q10w12_4_0 16)
theorem dX11_join_17 : decode cX11_join 17 = .ok (.invokevirtual 220, 3) := dz_182 (dz_at q10w12_4_0 17) rfl
theorem dX11_join_20 : decode cX11_join 20 = .ok (.iload_n 1, 1) := dz_27 (dz_at q10w12_4_0 20)
theorem dX11_join_21 : decode cX11_join 21 = .ok (.ireturn, 1) := dz_172 (dz_at q10w12_4_0 21)
theorem dX11_join_4 : decode cX11_join 4 = .ok (.invokevirtual 267, 3) := dz_182 (dz_at q10w12_4_0 4) rfl
theorem dX11_join_7 : decode cX11_join 7 = .ok (.istore_n 1, 1) := dz_60 (dz_at q10w12_4_0 7)
theorem dX11_join_8 : decode cX11_join 8 = .ok (.aload_n 0, 1) := dz_42 (dz_at q10w12_4_0 8)
theorem dX11_join_9 : decode cX11_join 9 = .ok (.aload_n 0, 1) := dz_42 (dz_at q10w12_4_0 9)
theorem q10w12_5_0 : (cX11_keep.data.toList.drop 0).take 24 = [42, 180, 0, 26, 27, 182, 0, 104, 78, 45, 198, 0, 14, 28, 3, 17, 3, 231, 184, 0, 113, 154, 0, 5] := by decide +kernel
theorem q10w12_5_24 : (cX11_keep.data.toList.drop 24).take 16 = [2, 172, 42, 180, 0, 68, 45, 180, 0, 108, 27, 28, 182, 1, 17, 172] := by decide +kernel
theorem dX11_keep_0 : decode cX11_keep 0 = .ok (.aload_n 0, 1) := dz_42 (dz_at q10w12_5_0 0)
theorem dX11_keep_1 : decode cX11_keep 1 = .ok (.getfield 26, 3) := dz_180 (dz_at q10w12_5_0 1) rfl
theorem dX11_keep_10 : decode cX11_keep 10 = .ok (.ifnull 14, 3) := dz_198 (dz_at q10w12_5_0 10) (by decide +kernel)
theorem dX11_keep_13 : decode cX11_keep 13 = .ok (.iload_n 2, 1) := dz_28 (dz_at q10w12_5_0 13)
theorem dX11_keep_14 : decode cX11_keep 14 = .ok (.iconst 0, 1) := dz_3 (dz_at q10w12_5_0 14)
theorem dX11_keep_15 : decode cX11_keep 15 = .ok (.sipush 999, 3) := dz_17 (dz_at q10w12_5_0 15) (by decide +kernel)
theorem dX11_keep_18 : decode cX11_keep 18 = .ok (.invokestatic 113, 3) := dz_184 (dz_at q10w12_5_0 18) rfl
theorem dX11_keep_21 : decode cX11_keep 21 = .ok (.ifCond .ne 5, 3) := dz_154 (dz_at q10w12_5_0 21) (by decide +kernel)
theorem dX11_keep_24 : decode cX11_keep 24 = .ok (.iconst (-1), 1) := dz_2 (dz_at q10w12_5_24 0)
theorem dX11_keep_25 : decode cX11_keep 25 = .ok (.ireturn, 1) := dz_172 (dz_at q10w12_5_24 1)
theorem dX11_keep_26 : decode cX11_keep 26 = .ok (.aload_n 0, 1) := dz_42 (dz_at q10w12_5_24 2)
theorem dX11_keep_27 : decode cX11_keep 27 = .ok (.getfield 68, 3) := dz_180 (dz_at q10w12_5_24 3) rfl
theorem dX11_keep_30 : decode cX11_keep 30 = .ok (.aload_n 3, 1) := dz_45 (dz_at q10w12_5_24 6)
theorem dX11_keep_31 : decode cX11_keep 31 = .ok (.getfield 108, 3) := dz_180 (dz_at q10w12_5_24 7) rfl
theorem dX11_keep_34 : decode cX11_keep 34 = .ok (.iload_n 1, 1) := dz_27 (dz_at q10w12_5_24 10)
theorem dX11_keep_35 : decode cX11_keep 35 = .ok (.iload_n 2, 1) := dz_28 (dz_at q10w12_5_24 11)
theorem dX11_keep_36 : decode cX11_keep 36 = .ok (.invokevirtual 273, 3) := dz_182 (dz_at q10w12_5_24 12) rfl
theorem dX11_keep_39 : decode cX11_keep 39 = .ok (.ireturn, 1) := dz_172 (dz_at q10w12_5_24 15)
theorem dX11_keep_4 : decode cX11_keep 4 = .ok (.iload_n 1, 1) := dz_27 (dz_at q10w12_5_0 4)
theorem dX11_keep_5 : decode cX11_keep 5 = .ok (.invokevirtual 104, 3) := dz_182 (dz_at q10w12_5_0 5) rfl
theorem dX11_keep_8 : decode cX11_keep 8 = .ok (.astore_n 3, 1) := dz_78 (dz_at q10w12_5_0 8)
theorem dX11_keep_9 : decode cX11_keep 9 = .ok (.aload_n 3, 1) := dz_45 (dz_at q10w12_5_0 9)
theorem q10w12_6_0 : (cX11_known.data.toList.drop 0).take 10 = [42, 180, 0, 68, 27, 28, 182, 1, 18, 172] := by decide +kernel
theorem dX11_known_0 : decode cX11_known 0 = .ok (.aload_n 0, 1) := dz_42 (dz_at q10w12_6_0 0)
theorem dX11_known_1 : decode cX11_known 1 = .ok (.getfield 68, 3) := dz_180 (dz_at q10w12_6_0 1) rfl
theorem dX11_known_4 : decode cX11_known 4 = .ok (.iload_n 1, 1) := dz_27 (dz_at q10w12_6_0 4)
theorem dX11_known_5 : decode cX11_known 5 = .ok (.iload_n 2, 1) := dz_28 (dz_at q10w12_6_0 5)
theorem dX11_known_6 : decode cX11_known 6 = .ok (.invokevirtual 274, 3) := dz_182 (dz_at q10w12_6_0 6) rfl
theorem dX11_known_9 : decode cX11_known 9 = .ok (.ireturn, 1) := dz_172 (dz_at q10w12_6_0 9)
theorem q10w12_7_0 : (cX4_alike.data.toList.drop 0).take 24 = [3, 54, 5, 21, 5, 21, 4, 162, 0, 34, 42, 180, 0, 30, 29, 21, 4, 100, 21, 5, 96, 46, 42, 27] := by decide +kernel
theorem q10w12_7_24 : (cX4_alike.data.toList.drop 24).take 19 = [28, 21, 5, 182, 0, 58, 159, 0, 5, 3, 172, 132, 5, 1, 167, 255, 221, 4, 172] := by decide +kernel
theorem dX4_alike_0 : decode cX4_alike 0 = .ok (.iconst 0, 1) := dz_3 (dz_at q10w12_7_0 0)
theorem dX4_alike_1 : decode cX4_alike 1 = .ok (.istore 5, 2) := dz_54 (dz_at q10w12_7_0 1)
theorem dX4_alike_10 : decode cX4_alike 10 = .ok (.aload_n 0, 1) := dz_42 (dz_at q10w12_7_0 10)
theorem dX4_alike_11 : decode cX4_alike 11 = .ok (.getfield 30, 3) := dz_180 (dz_at q10w12_7_0 11) rfl
theorem dX4_alike_14 : decode cX4_alike 14 = .ok (.iload_n 3, 1) := dz_29 (dz_at q10w12_7_0 14)
theorem dX4_alike_15 : decode cX4_alike 15 = .ok (.iload 4, 2) := dz_21 (dz_at q10w12_7_0 15)
theorem dX4_alike_17 : decode cX4_alike 17 = .ok (.isub, 1) := dz_100 (dz_at q10w12_7_0 17)
theorem dX4_alike_18 : decode cX4_alike 18 = .ok (.iload 5, 2) := dz_21 (dz_at q10w12_7_0 18)
theorem dX4_alike_20 : decode cX4_alike 20 = .ok (.iadd, 1) := dz_96 (dz_at q10w12_7_0 20)
theorem dX4_alike_21 : decode cX4_alike 21 = .ok (.iaload, 1) := dz_46 (dz_at q10w12_7_0 21)
theorem dX4_alike_22 : decode cX4_alike 22 = .ok (.aload_n 0, 1) := dz_42 (dz_at q10w12_7_0 22)
theorem dX4_alike_23 : decode cX4_alike 23 = .ok (.iload_n 1, 1) := dz_27 (dz_at q10w12_7_0 23)
theorem dX4_alike_24 : decode cX4_alike 24 = .ok (.iload_n 2, 1) := dz_28 (dz_at q10w12_7_24 0)
theorem dX4_alike_25 : decode cX4_alike 25 = .ok (.iload 5, 2) := dz_21 (dz_at q10w12_7_24 1)
theorem dX4_alike_27 : decode cX4_alike 27 = .ok (.invokevirtual 58, 3) := dz_182 (dz_at q10w12_7_24 3) rfl
theorem dX4_alike_3 : decode cX4_alike 3 = .ok (.iload 5, 2) := dz_21 (dz_at q10w12_7_0 3)
theorem dX4_alike_30 : decode cX4_alike 30 = .ok (.if_icmp .eq 5, 3) := dz_159 (dz_at q10w12_7_24 6) (by decide +kernel)
theorem dX4_alike_33 : decode cX4_alike 33 = .ok (.iconst 0, 1) := dz_3 (dz_at q10w12_7_24 9)
theorem dX4_alike_34 : decode cX4_alike 34 = .ok (.ireturn, 1) := dz_172 (dz_at q10w12_7_24 10)
theorem dX4_alike_35 : decode cX4_alike 35 = .ok (.iinc 5 1, 3) := dz_132 (dz_at q10w12_7_24 11) (by decide +kernel)
theorem dX4_alike_38 : decode cX4_alike 38 = .ok (.goto (-35), 3) := dz_167 (dz_at q10w12_7_24 14) (by decide +kernel)
theorem dX4_alike_41 : decode cX4_alike 41 = .ok (.iconst 1, 1) := dz_4 (dz_at q10w12_7_24 17)
theorem dX4_alike_42 : decode cX4_alike 42 = .ok (.ireturn, 1) := dz_172 (dz_at q10w12_7_24 18)
theorem dX4_alike_5 : decode cX4_alike 5 = .ok (.iload 4, 2) := dz_21 (dz_at q10w12_7_0 5)
theorem dX4_alike_7 : decode cX4_alike 7 = .ok (.if_icmp .ge 34, 3) := dz_162 (dz_at q10w12_7_0 7) (by decide +kernel)
theorem q10w12_8_0 : (cX4_joinAll.data.toList.drop 0).take 18 = [42, 16, 41, 181, 0, 19, 42, 3, 3, 3, 184, 0, 37, 42, 180, 0, 19, 172] := by decide +kernel
theorem dX4_joinAll_0 : decode cX4_joinAll 0 = .ok (.aload_n 0, 1) := dz_42 (dz_at q10w12_8_0 0)
theorem dX4_joinAll_1 : decode cX4_joinAll 1 = .ok (.bipush 41, 2) := dz_16 (dz_at q10w12_8_0 1) (by decide +kernel)
theorem dX4_joinAll_10 : decode cX4_joinAll 10 = .ok (.invokestatic 37, 3) := dz_184 (dz_at q10w12_8_0 10) rfl
theorem dX4_joinAll_13 : decode cX4_joinAll 13 = .ok (.aload_n 0, 1) := dz_42 (dz_at q10w12_8_0 13)
theorem dX4_joinAll_14 : decode cX4_joinAll 14 = .ok (.getfield 19, 3) := dz_180 (dz_at q10w12_8_0 14) rfl
theorem dX4_joinAll_17 : decode cX4_joinAll 17 = .ok (.ireturn, 1) := dz_172 (dz_at q10w12_8_0 17)
theorem dX4_joinAll_3 : decode cX4_joinAll 3 = .ok (.putfield 19, 3) := dz_181 (dz_at q10w12_8_0 3) rfl
theorem dX4_joinAll_6 : decode cX4_joinAll 6 = .ok (.aload_n 0, 1) := dz_42 (dz_at q10w12_8_0 6)
theorem dX4_joinAll_7 : decode cX4_joinAll 7 = .ok (.iconst 0, 1) := dz_3 (dz_at q10w12_8_0 7)
theorem dX4_joinAll_8 : decode cX4_joinAll 8 = .ok (.iconst 0, 1) := dz_3 (dz_at q10w12_8_0 8)
theorem dX4_joinAll_9 : decode cX4_joinAll 9 = .ok (.iconst 0, 1) := dz_3 (dz_at q10w12_8_0 9)
theorem q10w12_9_0 : (cX4_layPiece.data.toList.drop 0).take 23 = [29, 42, 180, 0, 27, 27, 46, 184, 0, 49, 54, 4, 21, 4, 158, 0, 21, 42, 27, 28, 29, 21, 4] := by decide +kernel
theorem q10w12_9_23 : (cX4_layPiece.data.toList.drop 23).take 24 = [182, 0, 54, 154, 0, 9, 132, 4, 255, 167, 255, 236, 29, 21, 4, 100, 54, 5, 21, 4, 54, 6, 21, 6] := by decide +kernel
theorem q10w12_9_47 : (cX4_layPiece.data.toList.drop 47).take 23 = [42, 180, 0, 27, 27, 46, 162, 0, 27, 42, 180, 0, 30, 21, 5, 21, 6, 96, 42, 27, 28, 21, 6] := by decide +kernel
theorem q10w12_9_70 : (cX4_layPiece.data.toList.drop 70).take 20 = [182, 0, 58, 79, 132, 6, 1, 167, 255, 224, 21, 5, 42, 180, 0, 27, 27, 46, 96, 172] := by decide +kernel
theorem dX4_layPiece_0 : decode cX4_layPiece 0 = .ok (.iload_n 3, 1) := dz_29 (dz_at q10w12_9_0 0)
theorem dX4_layPiece_1 : decode cX4_layPiece 1 = .ok (.aload_n 0, 1) := dz_42 (dz_at q10w12_9_0 1)
theorem dX4_layPiece_10 : decode cX4_layPiece 10 = .ok (.istore 4, 2) := dz_54 (dz_at q10w12_9_0 10)
theorem dX4_layPiece_12 : decode cX4_layPiece 12 = .ok (.iload 4, 2) := dz_21 (dz_at q10w12_9_0 12)
theorem dX4_layPiece_14 : decode cX4_layPiece 14 = .ok (.ifCond .le 21, 3) := dz_158 (dz_at q10w12_9_0 14) (by decide +kernel)
theorem dX4_layPiece_17 : decode cX4_layPiece 17 = .ok (.aload_n 0, 1) := dz_42 (dz_at q10w12_9_0 17)
theorem dX4_layPiece_18 : decode cX4_layPiece 18 = .ok (.iload_n 1, 1) := dz_27 (dz_at q10w12_9_0 18)
theorem dX4_layPiece_19 : decode cX4_layPiece 19 = .ok (.iload_n 2, 1) := dz_28 (dz_at q10w12_9_0 19)
theorem dX4_layPiece_2 : decode cX4_layPiece 2 = .ok (.getfield 27, 3) := dz_180 (dz_at q10w12_9_0 2) rfl
theorem dX4_layPiece_20 : decode cX4_layPiece 20 = .ok (.iload_n 3, 1) := dz_29 (dz_at q10w12_9_0 20)
theorem dX4_layPiece_21 : decode cX4_layPiece 21 = .ok (.iload 4, 2) := dz_21 (dz_at q10w12_9_0 21)
theorem dX4_layPiece_23 : decode cX4_layPiece 23 = .ok (.invokevirtual 54, 3) := dz_182 (dz_at q10w12_9_23 0) rfl
theorem dX4_layPiece_26 : decode cX4_layPiece 26 = .ok (.ifCond .ne 9, 3) := dz_154 (dz_at q10w12_9_23 3) (by decide +kernel)
theorem dX4_layPiece_29 : decode cX4_layPiece 29 = .ok (.iinc 4 (-1), 3) := dz_132 (dz_at q10w12_9_23 6) (by decide +kernel)
theorem dX4_layPiece_32 : decode cX4_layPiece 32 = .ok (.goto (-20), 3) := dz_167 (dz_at q10w12_9_23 9) (by decide +kernel)
theorem dX4_layPiece_35 : decode cX4_layPiece 35 = .ok (.iload_n 3, 1) := dz_29 (dz_at q10w12_9_23 12)
theorem dX4_layPiece_36 : decode cX4_layPiece 36 = .ok (.iload 4, 2) := dz_21 (dz_at q10w12_9_23 13)
theorem dX4_layPiece_38 : decode cX4_layPiece 38 = .ok (.isub, 1) := dz_100 (dz_at q10w12_9_23 15)
theorem dX4_layPiece_39 : decode cX4_layPiece 39 = .ok (.istore 5, 2) := dz_54 (dz_at q10w12_9_23 16)
theorem dX4_layPiece_41 : decode cX4_layPiece 41 = .ok (.iload 4, 2) := dz_21 (dz_at q10w12_9_23 18)
theorem dX4_layPiece_43 : decode cX4_layPiece 43 = .ok (.istore 6, 2) := dz_54 (dz_at q10w12_9_23 20)
theorem dX4_layPiece_45 : decode cX4_layPiece 45 = .ok (.iload 6, 2) := dz_21 (dz_at q10w12_9_23 22)
theorem dX4_layPiece_47 : decode cX4_layPiece 47 = .ok (.aload_n 0, 1) := dz_42 (dz_at q10w12_9_47 0)
theorem dX4_layPiece_48 : decode cX4_layPiece 48 = .ok (.getfield 27, 3) := dz_180 (dz_at q10w12_9_47 1) rfl
theorem dX4_layPiece_5 : decode cX4_layPiece 5 = .ok (.iload_n 1, 1) := dz_27 (dz_at q10w12_9_0 5)
theorem dX4_layPiece_51 : decode cX4_layPiece 51 = .ok (.iload_n 1, 1) := dz_27 (dz_at q10w12_9_47 4)
theorem dX4_layPiece_52 : decode cX4_layPiece 52 = .ok (.iaload, 1) := dz_46 (dz_at q10w12_9_47 5)
theorem dX4_layPiece_53 : decode cX4_layPiece 53 = .ok (.if_icmp .ge 27, 3) := dz_162 (dz_at q10w12_9_47 6) (by decide +kernel)
theorem dX4_layPiece_56 : decode cX4_layPiece 56 = .ok (.aload_n 0, 1) := dz_42 (dz_at q10w12_9_47 9)
theorem dX4_layPiece_57 : decode cX4_layPiece 57 = .ok (.getfield 30, 3) := dz_180 (dz_at q10w12_9_47 10) rfl
theorem dX4_layPiece_6 : decode cX4_layPiece 6 = .ok (.iaload, 1) := dz_46 (dz_at q10w12_9_0 6)
theorem dX4_layPiece_60 : decode cX4_layPiece 60 = .ok (.iload 5, 2) := dz_21 (dz_at q10w12_9_47 13)
theorem dX4_layPiece_62 : decode cX4_layPiece 62 = .ok (.iload 6, 2) := dz_21 (dz_at q10w12_9_47 15)
theorem dX4_layPiece_64 : decode cX4_layPiece 64 = .ok (.iadd, 1) := dz_96 (dz_at q10w12_9_47 17)
theorem dX4_layPiece_65 : decode cX4_layPiece 65 = .ok (.aload_n 0, 1) := dz_42 (dz_at q10w12_9_47 18)
theorem dX4_layPiece_66 : decode cX4_layPiece 66 = .ok (.iload_n 1, 1) := dz_27 (dz_at q10w12_9_47 19)
theorem dX4_layPiece_67 : decode cX4_layPiece 67 = .ok (.iload_n 2, 1) := dz_28 (dz_at q10w12_9_47 20)
theorem dX4_layPiece_68 : decode cX4_layPiece 68 = .ok (.iload 6, 2) := dz_21 (dz_at q10w12_9_47 21)
theorem dX4_layPiece_7 : decode cX4_layPiece 7 = .ok (.invokestatic 49, 3) := dz_184 (dz_at q10w12_9_0 7) rfl
theorem dX4_layPiece_70 : decode cX4_layPiece 70 = .ok (.invokevirtual 58, 3) := dz_182 (dz_at q10w12_9_70 0) rfl
theorem dX4_layPiece_73 : decode cX4_layPiece 73 = .ok (.iastore, 1) := dz_79 (dz_at q10w12_9_70 3)
theorem dX4_layPiece_74 : decode cX4_layPiece 74 = .ok (.iinc 6 1, 3) := dz_132 (dz_at q10w12_9_70 4) (by decide +kernel)
theorem dX4_layPiece_77 : decode cX4_layPiece 77 = .ok (.goto (-32), 3) := dz_167 (dz_at q10w12_9_70 7) (by decide +kernel)
theorem dX4_layPiece_80 : decode cX4_layPiece 80 = .ok (.iload 5, 2) := dz_21 (dz_at q10w12_9_70 10)
theorem dX4_layPiece_82 : decode cX4_layPiece 82 = .ok (.aload_n 0, 1) := dz_42 (dz_at q10w12_9_70 12)
theorem dX4_layPiece_83 : decode cX4_layPiece 83 = .ok (.getfield 27, 3) := dz_180 (dz_at q10w12_9_70 13) rfl
theorem dX4_layPiece_86 : decode cX4_layPiece 86 = .ok (.iload_n 1, 1) := dz_27 (dz_at q10w12_9_70 16)
theorem dX4_layPiece_87 : decode cX4_layPiece 87 = .ok (.iaload, 1) := dz_46 (dz_at q10w12_9_70 17)
theorem dX4_layPiece_88 : decode cX4_layPiece 88 = .ok (.iadd, 1) := dz_96 (dz_at q10w12_9_70 18)
theorem dX4_layPiece_89 : decode cX4_layPiece 89 = .ok (.ireturn, 1) := dz_172 (dz_at q10w12_9_70 19)
theorem q10w12_10_0 : (cX4_layRest.data.toList.drop 0).take 24 = [29, 42, 180, 0, 19, 164, 0, 4, 177, 27, 42, 180, 0, 9, 162, 0, 8, 27, 8, 161, 0, 9, 42, 29] := by decide +kernel
theorem q10w12_10_24 : (cX4_layRest.data.toList.drop 24).take 22 = [182, 0, 41, 177, 3, 54, 4, 21, 4, 42, 180, 0, 9, 162, 0, 60, 28, 21, 4, 122, 4, 126] := by decide +kernel
theorem q10w12_10_46 : (cX4_layRest.data.toList.drop 46).take 22 = [154, 0, 45, 28, 4, 21, 4, 120, 128, 54, 5, 42, 27, 4, 96, 21, 5, 42, 21, 4, 3, 29] := by decide +kernel
theorem q10w12_10_68 : (cX4_layRest.data.toList.drop 68).take 23 = [182, 0, 45, 184, 0, 37, 42, 27, 4, 96, 21, 5, 42, 21, 4, 4, 29, 182, 0, 45, 184, 0, 37] := by decide +kernel
theorem q10w12_10_91 : (cX4_layRest.data.toList.drop 91).take 7 = [132, 4, 1, 167, 255, 193, 177] := by decide +kernel
theorem dX4_layRest_0 : decode cX4_layRest 0 = .ok (.iload_n 3, 1) := dz_29 (dz_at q10w12_10_0 0)
theorem dX4_layRest_1 : decode cX4_layRest 1 = .ok (.aload_n 0, 1) := dz_42 (dz_at q10w12_10_0 1)
theorem dX4_layRest_10 : decode cX4_layRest 10 = .ok (.aload_n 0, 1) := dz_42 (dz_at q10w12_10_0 10)
theorem dX4_layRest_11 : decode cX4_layRest 11 = .ok (.getfield 9, 3) := dz_180 (dz_at q10w12_10_0 11) rfl
theorem dX4_layRest_14 : decode cX4_layRest 14 = .ok (.if_icmp .ge 8, 3) := dz_162 (dz_at q10w12_10_0 14) (by decide +kernel)
theorem dX4_layRest_17 : decode cX4_layRest 17 = .ok (.iload_n 1, 1) := dz_27 (dz_at q10w12_10_0 17)
theorem dX4_layRest_18 : decode cX4_layRest 18 = .ok (.iconst 5, 1) := dz_8 (dz_at q10w12_10_0 18)
theorem dX4_layRest_19 : decode cX4_layRest 19 = .ok (.if_icmp .lt 9, 3) := dz_161 (dz_at q10w12_10_0 19) (by decide +kernel)
theorem dX4_layRest_2 : decode cX4_layRest 2 = .ok (.getfield 19, 3) := dz_180 (dz_at q10w12_10_0 2) rfl
theorem dX4_layRest_22 : decode cX4_layRest 22 = .ok (.aload_n 0, 1) := dz_42 (dz_at q10w12_10_0 22)
theorem dX4_layRest_23 : decode cX4_layRest 23 = .ok (.iload_n 3, 1) := dz_29 (dz_at q10w12_10_0 23)
theorem dX4_layRest_24 : decode cX4_layRest 24 = .ok (.invokevirtual 41, 3) := dz_182 (dz_at q10w12_10_24 0) rfl
theorem dX4_layRest_27 : decode cX4_layRest 27 = .ok (.return_, 1) := dz_177 (dz_at q10w12_10_24 3)
theorem dX4_layRest_28 : decode cX4_layRest 28 = .ok (.iconst 0, 1) := dz_3 (dz_at q10w12_10_24 4)
theorem dX4_layRest_29 : decode cX4_layRest 29 = .ok (.istore 4, 2) := dz_54 (dz_at q10w12_10_24 5)
theorem dX4_layRest_31 : decode cX4_layRest 31 = .ok (.iload 4, 2) := dz_21 (dz_at q10w12_10_24 7)
theorem dX4_layRest_33 : decode cX4_layRest 33 = .ok (.aload_n 0, 1) := dz_42 (dz_at q10w12_10_24 9)
theorem dX4_layRest_34 : decode cX4_layRest 34 = .ok (.getfield 9, 3) := dz_180 (dz_at q10w12_10_24 10) rfl
theorem dX4_layRest_37 : decode cX4_layRest 37 = .ok (.if_icmp .ge 60, 3) := dz_162 (dz_at q10w12_10_24 13) (by decide +kernel)
theorem dX4_layRest_40 : decode cX4_layRest 40 = .ok (.iload_n 2, 1) := dz_28 (dz_at q10w12_10_24 16)
theorem dX4_layRest_41 : decode cX4_layRest 41 = .ok (.iload 4, 2) := dz_21 (dz_at q10w12_10_24 17)
theorem dX4_layRest_43 : decode cX4_layRest 43 = .ok (.ishr, 1) := dz_122 (dz_at q10w12_10_24 19)
theorem dX4_layRest_44 : decode cX4_layRest 44 = .ok (.iconst 1, 1) := dz_4 (dz_at q10w12_10_24 20)
theorem dX4_layRest_45 : decode cX4_layRest 45 = .ok (.iand, 1) := dz_126 (dz_at q10w12_10_24 21)
theorem dX4_layRest_46 : decode cX4_layRest 46 = .ok (.ifCond .ne 45, 3) := dz_154 (dz_at q10w12_10_46 0) (by decide +kernel)
theorem dX4_layRest_49 : decode cX4_layRest 49 = .ok (.iload_n 2, 1) := dz_28 (dz_at q10w12_10_46 3)
theorem dX4_layRest_5 : decode cX4_layRest 5 = .ok (.if_icmp .le 4, 3) := dz_164 (dz_at q10w12_10_0 5) (by decide +kernel)
theorem dX4_layRest_50 : decode cX4_layRest 50 = .ok (.iconst 1, 1) := dz_4 (dz_at q10w12_10_46 4)
theorem dX4_layRest_51 : decode cX4_layRest 51 = .ok (.iload 4, 2) := dz_21 (dz_at q10w12_10_46 5)
theorem dX4_layRest_53 : decode cX4_layRest 53 = .ok (.ishl, 1) := dz_120 (dz_at q10w12_10_46 7)
theorem dX4_layRest_54 : decode cX4_layRest 54 = .ok (.ior, 1) := dz_128 (dz_at q10w12_10_46 8)
theorem dX4_layRest_55 : decode cX4_layRest 55 = .ok (.istore 5, 2) := dz_54 (dz_at q10w12_10_46 9)
theorem dX4_layRest_57 : decode cX4_layRest 57 = .ok (.aload_n 0, 1) := dz_42 (dz_at q10w12_10_46 11)
theorem dX4_layRest_58 : decode cX4_layRest 58 = .ok (.iload_n 1, 1) := dz_27 (dz_at q10w12_10_46 12)
theorem dX4_layRest_59 : decode cX4_layRest 59 = .ok (.iconst 1, 1) := dz_4 (dz_at q10w12_10_46 13)
theorem dX4_layRest_60 : decode cX4_layRest 60 = .ok (.iadd, 1) := dz_96 (dz_at q10w12_10_46 14)
theorem dX4_layRest_61 : decode cX4_layRest 61 = .ok (.iload 5, 2) := dz_21 (dz_at q10w12_10_46 15)
theorem dX4_layRest_63 : decode cX4_layRest 63 = .ok (.aload_n 0, 1) := dz_42 (dz_at q10w12_10_46 17)
theorem dX4_layRest_64 : decode cX4_layRest 64 = .ok (.iload 4, 2) := dz_21 (dz_at q10w12_10_46 18)
theorem dX4_layRest_66 : decode cX4_layRest 66 = .ok (.iconst 0, 1) := dz_3 (dz_at q10w12_10_46 20)
theorem dX4_layRest_67 : decode cX4_layRest 67 = .ok (.iload_n 3, 1) := dz_29 (dz_at q10w12_10_46 21)
theorem dX4_layRest_68 : decode cX4_layRest 68 = .ok (.invokevirtual 45, 3) := dz_182 (dz_at q10w12_10_68 0) rfl
theorem dX4_layRest_71 : decode cX4_layRest 71 = .ok (.invokestatic 37, 3) := dz_184 (dz_at q10w12_10_68 3) rfl
theorem dX4_layRest_74 : decode cX4_layRest 74 = .ok (.aload_n 0, 1) := dz_42 (dz_at q10w12_10_68 6)
theorem dX4_layRest_75 : decode cX4_layRest 75 = .ok (.iload_n 1, 1) := dz_27 (dz_at q10w12_10_68 7)
theorem dX4_layRest_76 : decode cX4_layRest 76 = .ok (.iconst 1, 1) := dz_4 (dz_at q10w12_10_68 8)
theorem dX4_layRest_77 : decode cX4_layRest 77 = .ok (.iadd, 1) := dz_96 (dz_at q10w12_10_68 9)
theorem dX4_layRest_78 : decode cX4_layRest 78 = .ok (.iload 5, 2) := dz_21 (dz_at q10w12_10_68 10)
theorem dX4_layRest_8 : decode cX4_layRest 8 = .ok (.return_, 1) := dz_177 (dz_at q10w12_10_0 8)
theorem dX4_layRest_80 : decode cX4_layRest 80 = .ok (.aload_n 0, 1) := dz_42 (dz_at q10w12_10_68 12)
theorem dX4_layRest_81 : decode cX4_layRest 81 = .ok (.iload 4, 2) := dz_21 (dz_at q10w12_10_68 13)
theorem dX4_layRest_83 : decode cX4_layRest 83 = .ok (.iconst 1, 1) := dz_4 (dz_at q10w12_10_68 15)
theorem dX4_layRest_84 : decode cX4_layRest 84 = .ok (.iload_n 3, 1) := dz_29 (dz_at q10w12_10_68 16)
theorem dX4_layRest_85 : decode cX4_layRest 85 = .ok (.invokevirtual 45, 3) := dz_182 (dz_at q10w12_10_68 17) rfl
theorem dX4_layRest_88 : decode cX4_layRest 88 = .ok (.invokestatic 37, 3) := dz_184 (dz_at q10w12_10_68 20) rfl
theorem dX4_layRest_9 : decode cX4_layRest 9 = .ok (.iload_n 1, 1) := dz_27 (dz_at q10w12_10_0 9)
theorem dX4_layRest_91 : decode cX4_layRest 91 = .ok (.iinc 4 1, 3) := dz_132 (dz_at q10w12_10_91 0) (by decide +kernel)
theorem dX4_layRest_94 : decode cX4_layRest 94 = .ok (.goto (-63), 3) := dz_167 (dz_at q10w12_10_91 3) (by decide +kernel)
theorem dX4_layRest_97 : decode cX4_layRest 97 = .ok (.return_, 1) := dz_177 (dz_at q10w12_10_91 6)
theorem dm_X4_sound : yX4_sound.cls = RX4 ∧ yX4_sound.cls ≠ "java/lang/invoke/MethodHandle" ∧ yX4_sound.cls ≠ "java/lang/invoke/VarHandle" ∧ (parseMethodDescriptor yX4_sound.desc).map (fun d => d.parameters.length) = some 3 := by decide +kernel
theorem dm_X4_alike : yX4_alike.cls = RX4 ∧ yX4_alike.cls ≠ "java/lang/invoke/MethodHandle" ∧ yX4_alike.cls ≠ "java/lang/invoke/VarHandle" ∧ (parseMethodDescriptor yX4_alike.desc).map (fun d => d.parameters.length) = some 4 := by decide +kernel
theorem dm_X4_keepBetter : yX4_keepBetter.cls = RX4 ∧ yX4_keepBetter.cls ≠ "java/lang/invoke/MethodHandle" ∧ yX4_keepBetter.cls ≠ "java/lang/invoke/VarHandle" ∧ (parseMethodDescriptor yX4_keepBetter.desc).map (fun d => d.parameters.length) = some 1 := by decide +kernel
theorem dm_X4_layPiece : yX4_layPiece.cls = RX4 ∧ yX4_layPiece.cls ≠ "java/lang/invoke/MethodHandle" ∧ yX4_layPiece.cls ≠ "java/lang/invoke/VarHandle" ∧ (parseMethodDescriptor yX4_layPiece.desc).map (fun d => d.parameters.length) = some 3 := by decide +kernel
theorem dm_X4_layRest : yX4_layRest.cls = RX4 ∧ yX4_layRest.cls ≠ "java/lang/invoke/MethodHandle" ∧ yX4_layRest.cls ≠ "java/lang/invoke/VarHandle" ∧ (parseMethodDescriptor yX4_layRest.desc).map (fun d => d.parameters.length) = some 4 := by decide +kernel
theorem dm_X4_joinAll : yX4_joinAll.cls = RX4 ∧ yX4_joinAll.cls ≠ "java/lang/invoke/MethodHandle" ∧ yX4_joinAll.cls ≠ "java/lang/invoke/VarHandle" ∧ (parseMethodDescriptor yX4_joinAll.desc).map (fun d => d.parameters.length) = some 0 := by decide +kernel
theorem dm_X10_add : yX10_add.cls = RX10 ∧ yX10_add.cls ≠ "java/lang/invoke/MethodHandle" ∧ yX10_add.cls ≠ "java/lang/invoke/VarHandle" ∧ (parseMethodDescriptor yX10_add.desc).map (fun d => d.parameters.length) = some 3 := by decide +kernel
theorem dm_X10_latest : yX10_latest.cls = RX10 ∧ yX10_latest.cls ≠ "java/lang/invoke/MethodHandle" ∧ yX10_latest.cls ≠ "java/lang/invoke/VarHandle" ∧ (parseMethodDescriptor yX10_latest.desc).map (fun d => d.parameters.length) = some 2 := by decide +kernel
theorem dm_X10_find : yX10_find.cls = RX10 ∧ yX10_find.cls ≠ "java/lang/invoke/MethodHandle" ∧ yX10_find.cls ≠ "java/lang/invoke/VarHandle" ∧ (parseMethodDescriptor yX10_find.desc).map (fun d => d.parameters.length) = some 1 := by decide +kernel
set_option maxRecDepth 100000 in
def wC_Pieces_alike (a0 : Int) (a1 : Int) (a2 : Int) (a3 : Int) (M : zM) (Q : Int → Prop) : Prop := pL1 (fun K3 x1 => ((sI a3) ≤ (sI x1) → Q 1) ∧ ((sI x1) < (sI a3) → ((0 ≤ (sI ((a2 - a3) + x1)) ∧ (sI ((a2 - a3) + x1)) < 40) ∧ wC_Pieces_sound a0 a1 x1 M (fun z12 => ((sI (M 95 (sI ((a2 - a3) + x1)).toNat)) = z12 → K3 (x1 + 1)) ∧ ((sI (M 95 (sI ((a2 - a3) + x1)).toNat)) ≠ z12 → Q 0))))) 0
set_option maxHeartbeats 4000000 in
set_option maxRecDepth 100000 in
theorem cC_Pieces_alike (l : Launch) (D : va_G) (dA : Nat → ClassId) (b : Nat) (M : zM) (a0 : Int) (a1 : Int) (a2 : Int) (a3 : Int)  (Q : Int → Prop) (h : wC_Pieces_alike a0 a1 a2 a3 M Q) : Met l yX4_alike (.code yX4_alike cX4_alike 6 (some .boolean) :: zt) (z_rm 1) (va_Pc [.ref (b + 86), .int (iI a0), .int (iI a1), .int (iI a2), .int (iI a3)] (wPre D dA vwCl (z_tys dA) wC nC b M)) (va_Qi (wQz (fun z9 u9 => u9 = M ∧ Q z9)) (zB D dA vwCl wC nC b) (zA nC b)) 0 0 (zA nC b) := by
  unfold wC_Pieces_alike at h
  refine Met.ofW (cc := cX4_alike) (maxL := 6) (ret := (some .boolean)) (by decide) rfl ?_
  intro p e s m args below meth c s₁ B hml hv
  obtain ⟨hargs, hS, hK⟩ := hv
  have hx := B.exec
  have hb := B.bytes
  have hr := B.returns
  have hts := atoms_spec (ws := .code yX4_alike cX4_alike 6 (some .boolean) :: zt) B.pre
  have hown : s.vm.findClass RX4 = some m.cls := findClass_of_methodNamed B.named
  have hlocks := B.notSynchronized
  have hS0 : va_S (zA nC b) s.heap s.heap [] := va_S.rf
  have hl := lv_entry ([.ref (b + 86), .int (iI a0), .int (iI a1), .int (iI a2), .int (iI a3)]) (n := 6) (Nat.le_of_ble_eq_true rfl)
  have hent : entryFrame m args 6 = F0 m 0 ((lg_sl ([.ref (b + 86), .int (iI a0), .int (iI a1), .int (iI a2), .int (iI a3)]) ++ List.replicate (6 - (lg_sl ([.ref (b + 86), .int (iI a0), .int (iI a1), .int (iI a2), .int (iI a3)])).length) Slot.unset).toArray) [] := by rw [hargs]; exact lg_entry_eq m ([.ref (b + 86), .int (iI a0), .int (iI a1), .int (iI a2), .int (iI a3)]) 6
  rw [hent]
  generalize (lg_sl ([.ref (b + 86), .int (iI a0), .int (iI a1), .int (iI a2), .int (iI a3)]) ++ List.replicate (6 - (lg_sl ([.ref (b + 86), .int (iI a0), .int (iI a1), .int (iI a2), .int (iI a3)])).length) Slot.unset).toArray = ls at hl ⊢
  have hl : lv_has ls 6 [(0, .ref (b + 86)), (1, .int (iI a0)), (2, .int (iI a1)), (3, .int (iI a2)), (4, .int (iI a3))] := hl
  refine z_iconst hx hb dX4_alike_0 ?_
  refine lv_istore (lv' := [(5, .int (iI 0)), (0, .ref (b + 86)), (1, .int (iI a0)), (2, .int (iI a1)), (3, .int (iI a2)), (4, .int (iI a3))]) hx hb dX4_alike_1 hl (by decide) rfl (fun ls hl => ?_)
  obtain ⟨I2, ⟨n3, h4⟩, h5⟩ := h
  have L6 : ∀ (n7 : Nat) (x1 : Int) (H : Heap) (locs : List Loc) (ls : Array Slot), I2 n7 x1 → zR D dA vwCl wC nC b M H → va_S (zA nC b) s.heap H locs → lv_has ls 6 [(0, .ref (b + 86)), (1, .int (iI a0)), (2, .int (iI a1)), (3, .int (iI a2)), (4, .int (iI a3)), (5, .int (iI x1))] → W p l e (headSpec (.code yX4_alike cX4_alike 6 (some .boolean) :: zt) (z_rm 1)).room s m args below meth c H locs 0 0 (MQ below (va_Qi (wQz (fun z9 u9 => u9 = M ∧ Q z9)) (zB D dA vwCl wC nC b) (zA nC b)) args s 0 0 (zA nC b)) (F0 m 3 ls []) := by
    intro n7
    induction n7 using Nat.strongRecOn with
    | ind n7 i8 =>
      intro x1 H locs ls h hS hS0 hl
      have h := h5 n7 x1 h
      refine lv_iload hx hb dX4_alike_3 (lv_at hl 5 rfl) ?_
      refine lv_iload hx hb dX4_alike_5 (lv_at hl 4 rfl) ?_
      refine w_icmp_ge (tgt := 41) hx hb rfl rfl dX4_alike_7 (by decide) (fun c9 => ?_) (fun c9 => ?_)
      · skip
        have h := h.1 c9
        refine z_iconst hx hb dX4_alike_41 ?_
        exact w_zret hx hb hr hlocks hS hS0 (sI_of (by decide)) (by decide) ⟨rfl, h⟩ dX4_alike_42
      · skip
        have h := h.2 c9
        refine lv_aload_n hx hb dX4_alike_10 rfl (lv_at hl 0 rfl) ?_
        refine w_getr (j2 := 95) hx hb hts (z_memU u4) hown hK.1 hS f4_5 (by decide) (zkd_of (rfl : zcd wC 86 = 38) rfl) (zrf_of (rfl : zcd wC 86 = 38) rfl) (Or.inl (hts _ (z_mem k217))) dX4_alike_11 ?_
        refine lv_iload_n hx hb dX4_alike_14 rfl (lv_at hl 3 rfl) ?_
        refine lv_iload hx hb dX4_alike_15 (lv_at hl 4 rfl) ?_
        refine z_isub hx hb dX4_alike_17 ?_
        refine lv_iload hx hb dX4_alike_18 (lv_at hl 5 rfl) ?_
        refine z_iadd hx hb dX4_alike_20 ?_
        obtain ⟨o10, h⟩ := h
        refine w_iald (n := 40) (i := (sI ((a2 - a3) + x1))) hx hb hK.1 (t0 := 0) rfl hS (by decide) (zkd_of (rfl : zcd wC 95 = 43) rfl) (zln_of (rfl : zcd wC 95 = 43) rfl) rfl o10.1 o10.2 (by decide) dX4_alike_21 ?_
        refine lv_aload_n hx hb dX4_alike_22 rfl (lv_at hl 0 rfl) ?_
        refine lv_iload_n hx hb dX4_alike_23 rfl (lv_at hl 1 rfl) ?_
        refine lv_iload_n hx hb dX4_alike_24 rfl (lv_at hl 2 rfl) ?_
        refine lv_iload hx hb dX4_alike_25 (lv_at hl 5 rfl) ?_
        refine w_calli (va_runV (As := [.int (iI a0), .int (iI a1), .int (iI x1)]) (rest := [.int (iI (M 95 (sI ((a2 - a3) + x1)).toNat))]) ⟨hx, hb, hml, hown, hts⟩ (cC_Pieces_sound l D dA b M a0 a1 x1 _ h) (cwV 3 hts (z_gV k834 k835 k1388 k12 k836) rfl rfl rfl dm_X4_sound ⟨Nat.le_of_ble_eq_true rfl, Nat.le_of_ble_eq_true rfl⟩) ⟨wPre_blind, (w_recv hS hK.1 (by decide) (zkd_of (rfl : zcd wC 86 = 38) rfl) (by decide) (rfl : vwCl[4]? = some (RX4, TX4, 6))), w_pre hS hK⟩ rfl rfl hl.1 rfl (lv_room (Nat.le_of_ble_eq_true rfl)) dX4_alike_27 ⟨Nat.le_refl _, Nat.le_refl _⟩) hS0 (fun z12 M11 H locs r13 h hS hS0 => ?_)
        obtain ⟨e14, h⟩ := h
        rw [e14] at hS
        refine w_icmp_eq (tgt := 35) hx hb rfl (sI_of r13) dX4_alike_30 (by decide) (fun c15 => ?_) (fun c15 => ?_)
        · skip
          have h := h.1 c15
          refine z_iinc (lv' := [(5, .int (iI (x1 + 1))), (0, .ref (b + 86)), (1, .int (iI a0)), (2, .int (iI a1)), (3, .int (iI a2)), (4, .int (iI a3))]) hx hb dX4_alike_35 hl (k := 5) rfl (by decide) rfl (fun ls hl => ?_)
          refine lv_goto (tgt := 3) hx hb dX4_alike_38 (by decide) ?_
          obtain ⟨n16, h17, h⟩ := h
          exact i8 n16 h17 (x1 + 1) _ _ _ h hS hS0 (lv_sub hl [1, 2, 3, 4, 5, 0] rfl)
        · skip
          have h := h.2 c15
          refine z_iconst hx hb dX4_alike_33 ?_
          exact w_zret hx hb hr hlocks hS hS0 (sI_of (by decide)) (by decide) ⟨rfl, h⟩ dX4_alike_34
  exact L6 n3 0 _ _ _ h4 hS hS0 (lv_sub hl [1, 2, 3, 4, 5, 0] rfl)

set_option maxRecDepth 100000 in
def wC_Pieces_layPiece (a0 : Int) (a1 : Int) (a2 : Int) (M : zM) (Q : Int → zM → Prop) : Prop := ((0 ≤ (sI a0) ∧ (sI a0) < 5) ∧ pL1 (fun K12 x2 => pJ0 (fun J35 => ((sI x2) ≤ 0 → J35) ∧ (0 < (sI x2) → wC_Pieces_alike a0 a1 a2 x2 M (fun z43 => (z43 ≠ 0 → J35) ∧ (z43 = 0 → K12 (x2 + (-1)))))) (wL1 (fun K45 x20 M21 => ((0 ≤ (sI a0) ∧ (sI a0) < 5) ∧ ((sI (M21 94 (sI a0).toNat)) ≤ (sI x20) → ((0 ≤ (sI a0) ∧ (sI a0) < 5) ∧ Q (sI ((a2 - x2) + (M21 94 (sI a0).toNat))) M21)) ∧ ((sI x20) < (sI (M21 94 (sI a0).toNat)) → wC_Pieces_sound a0 a1 x20 M21 (fun z33 => ((0 ≤ (sI ((a2 - x2) + x20)) ∧ (sI ((a2 - x2) + x20)) < 40) ∧ (∀ M37 : zM, M37 = zup M21 95 (sI ((a2 - x2) + x20)).toNat z33 → K45 (x20 + 1) M37)))))) x2 M)) (min (sI a2) (sI (M 94 (sI a0).toNat))))
set_option maxHeartbeats 4000000 in
set_option maxRecDepth 100000 in
theorem cC_Pieces_layPiece (l : Launch) (D : va_G) (dA : Nat → ClassId) (b : Nat) (M : zM) (a0 : Int) (a1 : Int) (a2 : Int)  (Q : Int → zM → Prop) (h : wC_Pieces_layPiece a0 a1 a2 M Q) : Met l yX4_layPiece (.code yX4_layPiece cX4_layPiece 7 (some .int) :: zt) (z_rm 2) (va_Pc [.ref (b + 86), .int (iI a0), .int (iI a1), .int (iI a2)] (wPre D dA vwCl (z_tys dA) wC nC b M)) (va_Qi (wQi Q) (zB D dA vwCl wC nC b) (zA nC b)) 0 0 (zA nC b) := by
  unfold wC_Pieces_layPiece at h
  refine Met.ofW (cc := cX4_layPiece) (maxL := 7) (ret := (some .int)) (by decide) rfl ?_
  intro p e s m args below meth c s₁ B hml hv
  obtain ⟨hargs, hS, hK⟩ := hv
  have hx := B.exec
  have hb := B.bytes
  have hr := B.returns
  have hts := atoms_spec (ws := .code yX4_layPiece cX4_layPiece 7 (some .int) :: zt) B.pre
  have hown : s.vm.findClass RX4 = some m.cls := findClass_of_methodNamed B.named
  have hlocks := B.notSynchronized
  have hS0 : va_S (zA nC b) s.heap s.heap [] := va_S.rf
  have hl := lv_entry ([.ref (b + 86), .int (iI a0), .int (iI a1), .int (iI a2)]) (n := 7) (Nat.le_of_ble_eq_true rfl)
  have hent : entryFrame m args 7 = F0 m 0 ((lg_sl ([.ref (b + 86), .int (iI a0), .int (iI a1), .int (iI a2)]) ++ List.replicate (7 - (lg_sl ([.ref (b + 86), .int (iI a0), .int (iI a1), .int (iI a2)])).length) Slot.unset).toArray) [] := by rw [hargs]; exact lg_entry_eq m ([.ref (b + 86), .int (iI a0), .int (iI a1), .int (iI a2)]) 7
  rw [hent]
  generalize (lg_sl ([.ref (b + 86), .int (iI a0), .int (iI a1), .int (iI a2)]) ++ List.replicate (7 - (lg_sl ([.ref (b + 86), .int (iI a0), .int (iI a1), .int (iI a2)])).length) Slot.unset).toArray = ls at hl ⊢
  have hl : lv_has ls 7 [(0, .ref (b + 86)), (1, .int (iI a0)), (2, .int (iI a1)), (3, .int (iI a2))] := hl
  refine lv_iload_n hx hb dX4_layPiece_0 rfl (lv_at hl 3 rfl) ?_
  refine lv_aload_n hx hb dX4_layPiece_1 rfl (lv_at hl 0 rfl) ?_
  refine w_getr (j2 := 94) hx hb hts (z_memU u4) hown hK.1 hS f4_4 (by decide) (zkd_of (rfl : zcd wC 86 = 38) rfl) (zrf_of (rfl : zcd wC 86 = 38) rfl) (Or.inl (hts _ (z_mem k216))) dX4_layPiece_2 ?_
  refine lv_iload_n hx hb dX4_layPiece_5 rfl (lv_at hl 1 rfl) ?_
  obtain ⟨o1, h⟩ := h
  refine w_iald (n := 5) (i := (sI a0)) hx hb hK.1 (t0 := 0) rfl hS (by decide) (zkd_of (rfl : zcd wC 94 = 42) rfl) (zln_of (rfl : zcd wC 94 = 42) rfl) rfl o1.1 o1.2 (by decide) dX4_layPiece_6 ?_
  refine w_mmin hx hb (hml.trans hl.1.symm) hown (hts _ (z_mem k830)) (hts _ (z_mem k320)) (hts _ (z_mem k15)) (hts _ (z_mem k321)) (by exact Nat.le_of_ble_eq_true rfl) (by exact Nat.le_of_ble_eq_true rfl) (by exact Nat.le_refl _) (by exact Nat.le_refl _) rfl rfl dX4_layPiece_7 ?_
  refine lv_istore (lv' := [(4, .int (iI (min (sI a2) (sI (M 94 (sI a0).toNat))))), (0, .ref (b + 86)), (1, .int (iI a0)), (2, .int (iI a1)), (3, .int (iI a2))]) hx hb dX4_layPiece_10 hl (by decide) rfl (fun ls hl => ?_)
  obtain ⟨I3, ⟨n4, h5⟩, h6⟩ := h
  have L7 : ∀ (n8 : Nat) (x2 : Int) (H : Heap) (locs : List Loc) (ls : Array Slot), I3 n8 x2 → zR D dA vwCl wC nC b M H → va_S (zA nC b) s.heap H locs → lv_has ls 7 [(0, .ref (b + 86)), (1, .int (iI a0)), (2, .int (iI a1)), (3, .int (iI a2)), (4, .int (iI x2))] → W p l e (headSpec (.code yX4_layPiece cX4_layPiece 7 (some .int) :: zt) (z_rm 2)).room s m args below meth c H locs 0 0 (MQ below (va_Qi (wQi Q) (zB D dA vwCl wC nC b) (zA nC b)) args s 0 0 (zA nC b)) (F0 m 12 ls []) := by
    intro n8
    induction n8 using Nat.strongRecOn with
    | ind n8 i9 =>
      intro x2 H locs ls h hS hS0 hl
      have h := h6 n8 x2 h
      refine lv_iload hx hb dX4_layPiece_12 (lv_at hl 4 rfl) ?_
      obtain ⟨J35, B19, h⟩ := h
      have L18 : ∀ (H : Heap) (locs : List Loc) (ls : Array Slot), J35 → zR D dA vwCl wC nC b M H → va_S (zA nC b) s.heap H locs → lv_has ls 7 [(0, .ref (b + 86)), (1, .int (iI a0)), (2, .int (iI a1)), (3, .int (iI a2)), (4, .int (iI x2))] → W p l e (headSpec (.code yX4_layPiece cX4_layPiece 7 (some .int) :: zt) (z_rm 2)).room s m args below meth c H locs 0 0 (MQ below (va_Qi (wQi Q) (zB D dA vwCl wC nC b) (zA nC b)) args s 0 0 (zA nC b)) (F0 m 35 ls []) := by
        intro  H locs ls h hS hS0 hl
        have h := B19 h
        refine lv_iload_n hx hb dX4_layPiece_35 rfl (lv_at hl 3 rfl) ?_
        refine lv_iload hx hb dX4_layPiece_36 (lv_at hl 4 rfl) ?_
        refine z_isub hx hb dX4_layPiece_38 ?_
        refine lv_istore (lv' := [(5, .int (iI (a2 - x2))), (0, .ref (b + 86)), (1, .int (iI a0)), (2, .int (iI a1)), (3, .int (iI a2)), (4, .int (iI x2))]) hx hb dX4_layPiece_39 hl (by decide) rfl (fun ls hl => ?_)
        refine lv_iload hx hb dX4_layPiece_41 (lv_at hl 5 rfl) ?_
        refine lv_istore (lv' := [(6, .int (iI x2)), (5, .int (iI (a2 - x2))), (0, .ref (b + 86)), (1, .int (iI a0)), (2, .int (iI a1)), (3, .int (iI a2)), (4, .int (iI x2))]) hx hb dX4_layPiece_43 hl (by decide) rfl (fun ls hl => ?_)
        obtain ⟨I22, ⟨n23, h24⟩, h25⟩ := h
        have L26 : ∀ (n27 : Nat) (x20 : Int) (M21 : zM) (H : Heap) (locs : List Loc) (ls : Array Slot), I22 n27 x20 M21 → zR D dA vwCl wC nC b M21 H → va_S (zA nC b) s.heap H locs → lv_has ls 7 [(0, .ref (b + 86)), (1, .int (iI a0)), (2, .int (iI a1)), (5, .int (iI (a2 - x2))), (6, .int (iI x20))] → W p l e (headSpec (.code yX4_layPiece cX4_layPiece 7 (some .int) :: zt) (z_rm 2)).room s m args below meth c H locs 0 0 (MQ below (va_Qi (wQi Q) (zB D dA vwCl wC nC b) (zA nC b)) args s 0 0 (zA nC b)) (F0 m 45 ls []) := by
          intro n27
          induction n27 using Nat.strongRecOn with
          | ind n27 i28 =>
            intro x20 M21 H locs ls h hS hS0 hl
            have h := h25 n27 x20 M21 h
            refine lv_iload hx hb dX4_layPiece_45 (lv_at hl 4 rfl) ?_
            refine lv_aload_n hx hb dX4_layPiece_47 rfl (lv_at hl 0 rfl) ?_
            refine w_getr (j2 := 94) hx hb hts (z_memU u4) hown hK.1 hS f4_4 (by decide) (zkd_of (rfl : zcd wC 86 = 38) rfl) (zrf_of (rfl : zcd wC 86 = 38) rfl) (Or.inl (hts _ (z_mem k216))) dX4_layPiece_48 ?_
            refine lv_iload_n hx hb dX4_layPiece_51 rfl (lv_at hl 1 rfl) ?_
            obtain ⟨o29, h⟩ := h
            refine w_iald (n := 5) (i := (sI a0)) hx hb hK.1 (t0 := 0) rfl hS (by decide) (zkd_of (rfl : zcd wC 94 = 42) rfl) (zln_of (rfl : zcd wC 94 = 42) rfl) rfl o29.1 o29.2 (by decide) dX4_layPiece_52 ?_
            refine w_icmp_ge (tgt := 80) hx hb rfl rfl dX4_layPiece_53 (by decide) (fun c30 => ?_) (fun c30 => ?_)
            · skip
              have h := h.1 c30
              refine lv_iload hx hb dX4_layPiece_80 (lv_at hl 3 rfl) ?_
              refine lv_aload_n hx hb dX4_layPiece_82 rfl (lv_at hl 0 rfl) ?_
              refine w_getr (j2 := 94) hx hb hts (z_memU u4) hown hK.1 hS f4_4 (by decide) (zkd_of (rfl : zcd wC 86 = 38) rfl) (zrf_of (rfl : zcd wC 86 = 38) rfl) (Or.inl (hts _ (z_mem k216))) dX4_layPiece_83 ?_
              refine lv_iload_n hx hb dX4_layPiece_86 rfl (lv_at hl 1 rfl) ?_
              obtain ⟨o31, h⟩ := h
              refine w_iald (n := 5) (i := (sI a0)) hx hb hK.1 (t0 := 0) rfl hS (by decide) (zkd_of (rfl : zcd wC 94 = 42) rfl) (zln_of (rfl : zcd wC 94 = 42) rfl) rfl o31.1 o31.2 (by decide) dX4_layPiece_87 ?_
              refine z_iadd hx hb dX4_layPiece_88 ?_
              exact w_iret hx hb hr hlocks hS hS0 rfl h dX4_layPiece_89
            · skip
              have h := h.2 c30
              refine lv_aload_n hx hb dX4_layPiece_56 rfl (lv_at hl 0 rfl) ?_
              refine w_getr (j2 := 95) hx hb hts (z_memU u4) hown hK.1 hS f4_5 (by decide) (zkd_of (rfl : zcd wC 86 = 38) rfl) (zrf_of (rfl : zcd wC 86 = 38) rfl) (Or.inl (hts _ (z_mem k217))) dX4_layPiece_57 ?_
              refine lv_iload hx hb dX4_layPiece_60 (lv_at hl 3 rfl) ?_
              refine lv_iload hx hb dX4_layPiece_62 (lv_at hl 4 rfl) ?_
              refine z_iadd hx hb dX4_layPiece_64 ?_
              refine lv_aload_n hx hb dX4_layPiece_65 rfl (lv_at hl 0 rfl) ?_
              refine lv_iload_n hx hb dX4_layPiece_66 rfl (lv_at hl 1 rfl) ?_
              refine lv_iload_n hx hb dX4_layPiece_67 rfl (lv_at hl 2 rfl) ?_
              refine lv_iload hx hb dX4_layPiece_68 (lv_at hl 4 rfl) ?_
              refine w_calli (va_runV (As := [.int (iI a0), .int (iI a1), .int (iI x20)]) (rest := [.int (iI ((a2 - x2) + x20)), .ref (b + 95)]) ⟨hx, hb, hml, hown, hts⟩ (cC_Pieces_sound l D dA b M21 a0 a1 x20 _ h) (cwV 3 hts (z_gV k834 k835 k1388 k12 k836) rfl rfl rfl dm_X4_sound ⟨Nat.le_of_ble_eq_true rfl, Nat.le_of_ble_eq_true rfl⟩) ⟨wPre_blind, (w_recv hS hK.1 (by decide) (zkd_of (rfl : zcd wC 86 = 38) rfl) (by decide) (rfl : vwCl[4]? = some (RX4, TX4, 6))), w_pre hS hK⟩ rfl rfl hl.1 rfl (lv_room (Nat.le_of_ble_eq_true rfl)) dX4_layPiece_70 ⟨Nat.le_refl _, Nat.le_refl _⟩) hS0 (fun z33 M32 H locs r34 h hS hS0 => ?_)
              obtain ⟨e35, h⟩ := h
              rw [e35] at hS
              obtain ⟨o36, h⟩ := h
              refine w_iast (z := z33) (n := 40) (i := (sI ((a2 - x2) + x20))) hx hb hK.1 (t0 := 0) rfl hS hS0 (by decide) (zkd_of (rfl : zcd wC 95 = 43) rfl) (zln_of (rfl : zcd wC 95 = 43) rfl) rfl o36.1 o36.2 (by decide) dX4_layPiece_73 (fun H locs hS hS0 => ?_)
              obtain ⟨M37, e38⟩ : ∃ M37 : zM, M37 = zup M21 95 (sI ((a2 - x2) + x20)).toNat z33 := ⟨_, rfl⟩
              rw [← e38] at hS
              have h := h M37 e38
              refine z_iinc (lv' := [(6, .int (iI (x20 + 1))), (0, .ref (b + 86)), (1, .int (iI a0)), (2, .int (iI a1)), (5, .int (iI (a2 - x2)))]) hx hb dX4_layPiece_74 hl (k := 4) rfl (by decide) rfl (fun ls hl => ?_)
              refine lv_goto (tgt := 45) hx hb dX4_layPiece_77 (by decide) ?_
              obtain ⟨n39, h40, h⟩ := h
              exact i28 n39 h40 (x20 + 1) M37 _ _ _ h hS hS0 (lv_sub hl [1, 2, 3, 4, 0] rfl)
        exact L26 n23 x2 M _ _ _ h24 hS hS0 (lv_sub hl [2, 3, 4, 1, 0] rfl)
      refine w_if_le (tgt := 35) hx hb rfl dX4_layPiece_14 (by decide) (fun c41 => ?_) (fun c41 => ?_)
      · skip
        have h := h.1 c41
        exact L18 _ _ _ h hS hS0 (lv_sub hl [0, 1, 2, 3, 4] rfl)
      · skip
        have h := h.2 c41
        refine lv_aload_n hx hb dX4_layPiece_17 rfl (lv_at hl 0 rfl) ?_
        refine lv_iload_n hx hb dX4_layPiece_18 rfl (lv_at hl 1 rfl) ?_
        refine lv_iload_n hx hb dX4_layPiece_19 rfl (lv_at hl 2 rfl) ?_
        refine lv_iload_n hx hb dX4_layPiece_20 rfl (lv_at hl 3 rfl) ?_
        refine lv_iload hx hb dX4_layPiece_21 (lv_at hl 4 rfl) ?_
        refine w_callz (va_runV (As := [.int (iI a0), .int (iI a1), .int (iI a2), .int (iI x2)]) (rest := []) ⟨hx, hb, hml, hown, hts⟩ (cC_Pieces_alike l D dA b M a0 a1 a2 x2 _ h) (cwV 4 hts (z_gV k831 k832 k1387 k12 k833) rfl rfl rfl dm_X4_alike ⟨Nat.le_of_ble_eq_true rfl, Nat.le_of_ble_eq_true rfl⟩) ⟨wPre_blind, (w_recv hS hK.1 (by decide) (zkd_of (rfl : zcd wC 86 = 38) rfl) (by decide) (rfl : vwCl[4]? = some (RX4, TX4, 6))), w_pre hS hK⟩ rfl rfl hl.1 rfl (lv_room (Nat.le_of_ble_eq_true rfl)) dX4_layPiece_23 ⟨Nat.le_refl _, Nat.le_refl _⟩) hS0 (fun z43 M42 H locs r44 h hS hS0 => ?_)
        obtain ⟨e45, h⟩ := h
        rw [e45] at hS
        refine w_if_ne (tgt := 35) hx hb (sI_01 r44) dX4_layPiece_26 (by decide) (fun c46 => ?_) (fun c46 => ?_)
        · skip
          have h := h.1 c46
          exact L18 _ _ _ h hS hS0 (lv_sub hl [0, 1, 2, 3, 4] rfl)
        · skip
          have h := h.2 c46
          refine z_iinc (lv' := [(4, .int (iI (x2 + (-1)))), (0, .ref (b + 86)), (1, .int (iI a0)), (2, .int (iI a1)), (3, .int (iI a2))]) hx hb dX4_layPiece_29 hl (k := 4) rfl (by decide) rfl (fun ls hl => ?_)
          refine lv_goto (tgt := 12) hx hb dX4_layPiece_32 (by decide) ?_
          obtain ⟨n47, h48, h⟩ := h
          exact i9 n47 h48 (x2 + (-1)) _ _ _ h hS hS0 (lv_sub hl [1, 2, 3, 4, 0] rfl)
  exact L7 n4 (min (sI a2) (sI (M 94 (sI a0).toNat))) _ _ _ h5 hS hS0 (lv_sub hl [1, 2, 3, 4, 0] rfl)

set_option maxRecDepth 100000 in
def wC_Pieces_layRest_F (R9 : Int → Int → Int → zM → (zM → Prop) → Prop) (a1 : Int) (a2 : Int) (a3 : Int) (M : zM) (Q : zM → Prop) : Prop := ((sI a3) ≤ (sI (M 86 2)) → ((sI (M 86 0)) ≤ (sI a1) → wC_Pieces_keepBetter a3 M (fun M3 => Q M3)) ∧ ((sI a1) < (sI (M 86 0)) → ((sI a1) < 5 → wL1 (fun K31 x5 M6 => ((sI (M6 86 0)) ≤ (sI x5) → Q M6) ∧ ((sI x5) < (sI (M6 86 0)) → ((andI (shrI a2 x5) 1) ≠ 0 → K31 (x5 + 1) M6) ∧ ((andI (shrI a2 x5) 1) = 0 → wC_Pieces_layPiece x5 0 a3 M6 (fun z19 M18 => R9 (a1 + 1) (orI a2 (shlI 1 x5)) z19 M18 (fun M21 => wC_Pieces_layPiece x5 1 a3 M21 (fun z23 M22 => R9 (a1 + 1) (orI a2 (shlI 1 x5)) z23 M22 (fun M25 => K31 (x5 + 1) M25))))))) 0 M) ∧ (5 ≤ (sI a1) → wC_Pieces_keepBetter a3 M (fun M28 => Q M28)))) ∧ ((sI (M 86 2)) < (sI a3) → Q M)
set_option maxHeartbeats 4000000 in
set_option maxRecDepth 100000 in
theorem cC_Pieces_layRest_F (dd : Nat) (R9 : Int → Int → Int → zM → (zM → Prop) → Prop) (l : Launch) (D : va_G) (dA : Nat → ClassId) (hdd : 3 ≤ dd) (hrec : ∀ (b : Nat) (M : zM) (a1 : Int) (a2 : Int) (a3 : Int)  (Q : zM → Prop), R9 a1 a2 a3 M Q → Met l yX4_layRest (.code yX4_layRest cX4_layRest 6 none :: zt) (z_rm dd) (va_Pc [.ref (b + 86), .int (iI a1), .int (iI a2), .int (iI a3)] (wPre D dA vwCl (z_tys dA) wC nC b M)) (va_Qv (wQv Q) (zB D dA vwCl wC nC b) (zA nC b)) 0 0 (zA nC b)) (b : Nat) (M : zM) (a1 : Int) (a2 : Int) (a3 : Int)  (Q : zM → Prop) (h : wC_Pieces_layRest_F R9 a1 a2 a3 M Q) : Met l yX4_layRest (.code yX4_layRest cX4_layRest 6 none :: zt) (z_rm (dd + 1)) (va_Pc [.ref (b + 86), .int (iI a1), .int (iI a2), .int (iI a3)] (wPre D dA vwCl (z_tys dA) wC nC b M)) (va_Qv (wQv Q) (zB D dA vwCl wC nC b) (zA nC b)) 0 0 (zA nC b) := by
  unfold wC_Pieces_layRest_F at h
  refine Met.ofW (cc := cX4_layRest) (maxL := 6) (ret := none) (by decide) rfl ?_
  intro p e s m args below meth c s₁ B hml hv
  obtain ⟨hargs, hS, hK⟩ := hv
  have hx := B.exec
  have hb := B.bytes
  have hr := B.returns
  have hts := atoms_spec (ws := .code yX4_layRest cX4_layRest 6 none :: zt) B.pre
  have hown : s.vm.findClass RX4 = some m.cls := findClass_of_methodNamed B.named
  have hlocks := B.notSynchronized
  have hS0 : va_S (zA nC b) s.heap s.heap [] := va_S.rf
  have hl := lv_entry ([.ref (b + 86), .int (iI a1), .int (iI a2), .int (iI a3)]) (n := 6) (Nat.le_of_ble_eq_true rfl)
  have hent : entryFrame m args 6 = F0 m 0 ((lg_sl ([.ref (b + 86), .int (iI a1), .int (iI a2), .int (iI a3)]) ++ List.replicate (6 - (lg_sl ([.ref (b + 86), .int (iI a1), .int (iI a2), .int (iI a3)])).length) Slot.unset).toArray) [] := by rw [hargs]; exact lg_entry_eq m ([.ref (b + 86), .int (iI a1), .int (iI a2), .int (iI a3)]) 6
  rw [hent]
  generalize (lg_sl ([.ref (b + 86), .int (iI a1), .int (iI a2), .int (iI a3)]) ++ List.replicate (6 - (lg_sl ([.ref (b + 86), .int (iI a1), .int (iI a2), .int (iI a3)])).length) Slot.unset).toArray = ls at hl ⊢
  have hl : lv_has ls 6 [(0, .ref (b + 86)), (1, .int (iI a1)), (2, .int (iI a2)), (3, .int (iI a3))] := hl
  refine lv_iload_n hx hb dX4_layRest_0 rfl (lv_at hl 3 rfl) ?_
  refine lv_aload_n hx hb dX4_layRest_1 rfl (lv_at hl 0 rfl) ?_
  refine w_geti hx hb hts (z_memU u4) hown hK.1 hS f4_2 (by decide) (zkd_of (rfl : zcd wC 86 = 38) rfl) (Or.inl (hts _ (z_mem k214))) dX4_layRest_2 ?_
  refine w_icmp_le (tgt := 9) hx hb rfl rfl dX4_layRest_5 (by decide) (fun c1 => ?_) (fun c1 => ?_)
  · skip
    have h := h.1 c1
    refine lv_iload_n hx hb dX4_layRest_9 rfl (lv_at hl 1 rfl) ?_
    refine lv_aload_n hx hb dX4_layRest_10 rfl (lv_at hl 0 rfl) ?_
    refine w_geti hx hb hts (z_memU u4) hown hK.1 hS f4_0 (by decide) (zkd_of (rfl : zcd wC 86 = 38) rfl) (Or.inl (hts _ (z_mem k210))) dX4_layRest_11 ?_
    refine w_icmp_ge (tgt := 22) hx hb rfl rfl dX4_layRest_14 (by decide) (fun c2 => ?_) (fun c2 => ?_)
    · skip
      have h := h.1 c2
      refine lv_aload_n hx hb dX4_layRest_22 rfl (lv_at hl 0 rfl) ?_
      refine lv_iload_n hx hb dX4_layRest_23 rfl (lv_at hl 3 rfl) ?_
      refine w_callv (va_runV (As := [.int (iI a3)]) (rest := []) ⟨hx, hb, hml, hown, hts⟩ (cC_Pieces_keepBetter l D dA b M a3 _ h) (cwV 1 hts (z_gV k820 k821 k1384 k12 k822) rfl rfl rfl dm_X4_keepBetter ⟨by simp only [z_rm, headSpec]; omega, by simp only [z_rm, headSpec]; omega⟩) ⟨wPre_blind, (w_recv hS hK.1 (by decide) (zkd_of (rfl : zcd wC 86 = 38) rfl) (by decide) (rfl : vwCl[4]? = some (RX4, TX4, 6))), w_pre hS hK⟩ rfl rfl hl.1 rfl (lv_room (Nat.le_of_ble_eq_true rfl)) dX4_layRest_24 ⟨Nat.le_refl _, Nat.le_refl _⟩) hS0 (fun M3 H locs h hS hS0 => ?_)
      exact w_vret hx hb hr hlocks hS hS0 h dX4_layRest_27
    · skip
      have h := h.2 c2
      refine lv_iload_n hx hb dX4_layRest_17 rfl (lv_at hl 1 rfl) ?_
      refine z_iconst hx hb dX4_layRest_18 ?_
      refine w_icmp_lt (tgt := 28) hx hb rfl (sI_of (by decide)) dX4_layRest_19 (by decide) (fun c4 => ?_) (fun c4 => ?_)
      · skip
        have h := h.1 c4
        refine z_iconst hx hb dX4_layRest_28 ?_
        refine lv_istore (lv' := [(4, .int (iI 0)), (0, .ref (b + 86)), (1, .int (iI a1)), (2, .int (iI a2)), (3, .int (iI a3))]) hx hb dX4_layRest_29 hl (by decide) rfl (fun ls hl => ?_)
        obtain ⟨I7, ⟨n8, h9⟩, h10⟩ := h
        have L11 : ∀ (n12 : Nat) (x5 : Int) (M6 : zM) (H : Heap) (locs : List Loc) (ls : Array Slot), I7 n12 x5 M6 → zR D dA vwCl wC nC b M6 H → va_S (zA nC b) s.heap H locs → lv_has ls 6 [(0, .ref (b + 86)), (1, .int (iI a1)), (2, .int (iI a2)), (3, .int (iI a3)), (4, .int (iI x5))] → W p l e (headSpec (.code yX4_layRest cX4_layRest 6 none :: zt) (z_rm (dd + 1))).room s m args below meth c H locs 0 0 (MQ below (va_Qv (wQv Q) (zB D dA vwCl wC nC b) (zA nC b)) args s 0 0 (zA nC b)) (F0 m 31 ls []) := by
          intro n12
          induction n12 using Nat.strongRecOn with
          | ind n12 i13 =>
            intro x5 M6 H locs ls h hS hS0 hl
            have h := h10 n12 x5 M6 h
            refine lv_iload hx hb dX4_layRest_31 (lv_at hl 4 rfl) ?_
            refine lv_aload_n hx hb dX4_layRest_33 rfl (lv_at hl 0 rfl) ?_
            refine w_geti hx hb hts (z_memU u4) hown hK.1 hS f4_0 (by decide) (zkd_of (rfl : zcd wC 86 = 38) rfl) (Or.inl (hts _ (z_mem k210))) dX4_layRest_34 ?_
            refine w_icmp_ge (tgt := 97) hx hb rfl rfl dX4_layRest_37 (by decide) (fun c14 => ?_) (fun c14 => ?_)
            · skip
              have h := h.1 c14
              exact w_vret hx hb hr hlocks hS hS0 h dX4_layRest_97
            · skip
              have h := h.2 c14
              refine lv_iload_n hx hb dX4_layRest_40 rfl (lv_at hl 2 rfl) ?_
              refine lv_iload hx hb dX4_layRest_41 (lv_at hl 4 rfl) ?_
              refine w_ishr hx hb dX4_layRest_43 ?_
              refine z_iconst hx hb dX4_layRest_44 ?_
              refine w_iand hx hb dX4_layRest_45 ?_
              refine w_if_ne (tgt := 91) hx hb (sI_of (andI_R _ _)) dX4_layRest_46 (by decide) (fun c15 => ?_) (fun c15 => ?_)
              · skip
                have h := h.1 c15
                refine z_iinc (lv' := [(4, .int (iI (x5 + 1))), (0, .ref (b + 86)), (1, .int (iI a1)), (2, .int (iI a2)), (3, .int (iI a3))]) hx hb dX4_layRest_91 hl (k := 4) rfl (by decide) rfl (fun ls hl => ?_)
                refine lv_goto (tgt := 31) hx hb dX4_layRest_94 (by decide) ?_
                obtain ⟨n16, h17, h⟩ := h
                exact i13 n16 h17 (x5 + 1) M6 _ _ _ h hS hS0 (lv_sub hl [1, 2, 3, 4, 0] rfl)
              · skip
                have h := h.2 c15
                refine lv_iload_n hx hb dX4_layRest_49 rfl (lv_at hl 2 rfl) ?_
                refine z_iconst hx hb dX4_layRest_50 ?_
                refine lv_iload hx hb dX4_layRest_51 (lv_at hl 4 rfl) ?_
                refine w_ishl hx hb dX4_layRest_53 ?_
                refine w_ior hx hb dX4_layRest_54 ?_
                refine lv_istore (lv' := [(5, .int (iI (orI a2 (shlI 1 x5)))), (0, .ref (b + 86)), (1, .int (iI a1)), (2, .int (iI a2)), (3, .int (iI a3)), (4, .int (iI x5))]) hx hb dX4_layRest_55 hl (by decide) rfl (fun ls hl => ?_)
                refine lv_aload_n hx hb dX4_layRest_57 rfl (lv_at hl 1 rfl) ?_
                refine lv_iload_n hx hb dX4_layRest_58 rfl (lv_at hl 2 rfl) ?_
                refine z_iconst hx hb dX4_layRest_59 ?_
                refine z_iadd hx hb dX4_layRest_60 ?_
                refine lv_iload hx hb dX4_layRest_61 (lv_at hl 0 rfl) ?_
                refine lv_aload_n hx hb dX4_layRest_63 rfl (lv_at hl 1 rfl) ?_
                refine lv_iload hx hb dX4_layRest_64 (lv_at hl 5 rfl) ?_
                refine z_iconst hx hb dX4_layRest_66 ?_
                refine lv_iload_n hx hb dX4_layRest_67 rfl (lv_at hl 4 rfl) ?_
                refine w_calli (va_runV (As := [.int (iI x5), .int (iI 0), .int (iI a3)]) (rest := [.int (iI (orI a2 (shlI 1 x5))), .int (iI (a1 + 1)), .ref (b + 86)]) ⟨hx, hb, hml, hown, hts⟩ (cC_Pieces_layPiece l D dA b M6 x5 0 a3 _ h) (cwV 3 hts (z_gV k827 k828 k1386 k12 k829) rfl rfl rfl dm_X4_layPiece ⟨by simp only [z_rm, headSpec]; omega, by simp only [z_rm, headSpec]; omega⟩) ⟨wPre_blind, (w_recv hS hK.1 (by decide) (zkd_of (rfl : zcd wC 86 = 38) rfl) (by decide) (rfl : vwCl[4]? = some (RX4, TX4, 6))), w_pre hS hK⟩ rfl rfl hl.1 rfl (lv_room (Nat.le_of_ble_eq_true rfl)) dX4_layRest_68 ⟨Nat.le_refl _, Nat.le_refl _⟩) hS0 (fun z19 M18 H locs r20 h hS hS0 => ?_)
                refine w_callv (va_runS (As := [.ref (b + 86), .int (iI (a1 + 1)), .int (iI (orI a2 (shlI 1 x5))), .int (iI z19)]) (rest := []) ⟨hx, hb, hml, hown, hts⟩ (hrec b M18 (a1 + 1) (orI a2 (shlI 1 x5)) z19 _ h) (va_cwS 4 hts (z_gS k817 k818 k12 k819) rfl rfl rfl dm_X4_layRest.2 ⟨by simp only [z_rm, headSpec]; omega, by simp only [z_rm, headSpec]; omega⟩) ⟨wPre_blind, w_pre hS hK⟩ rfl rfl hl.1 rfl (lv_room (Nat.le_of_ble_eq_true rfl)) dX4_layRest_71 ⟨Nat.le_refl _, Nat.le_refl _⟩) hS0 (fun M21 H locs h hS hS0 => ?_)
                refine lv_aload_n hx hb dX4_layRest_74 rfl (lv_at hl 1 rfl) ?_
                refine lv_iload_n hx hb dX4_layRest_75 rfl (lv_at hl 2 rfl) ?_
                refine z_iconst hx hb dX4_layRest_76 ?_
                refine z_iadd hx hb dX4_layRest_77 ?_
                refine lv_iload hx hb dX4_layRest_78 (lv_at hl 0 rfl) ?_
                refine lv_aload_n hx hb dX4_layRest_80 rfl (lv_at hl 1 rfl) ?_
                refine lv_iload hx hb dX4_layRest_81 (lv_at hl 5 rfl) ?_
                refine z_iconst hx hb dX4_layRest_83 ?_
                refine lv_iload_n hx hb dX4_layRest_84 rfl (lv_at hl 4 rfl) ?_
                refine w_calli (va_runV (As := [.int (iI x5), .int (iI 1), .int (iI a3)]) (rest := [.int (iI (orI a2 (shlI 1 x5))), .int (iI (a1 + 1)), .ref (b + 86)]) ⟨hx, hb, hml, hown, hts⟩ (cC_Pieces_layPiece l D dA b M21 x5 1 a3 _ h) (cwV 3 hts (z_gV k827 k828 k1386 k12 k829) rfl rfl rfl dm_X4_layPiece ⟨by simp only [z_rm, headSpec]; omega, by simp only [z_rm, headSpec]; omega⟩) ⟨wPre_blind, (w_recv hS hK.1 (by decide) (zkd_of (rfl : zcd wC 86 = 38) rfl) (by decide) (rfl : vwCl[4]? = some (RX4, TX4, 6))), w_pre hS hK⟩ rfl rfl hl.1 rfl (lv_room (Nat.le_of_ble_eq_true rfl)) dX4_layRest_85 ⟨Nat.le_refl _, Nat.le_refl _⟩) hS0 (fun z23 M22 H locs r24 h hS hS0 => ?_)
                refine w_callv (va_runS (As := [.ref (b + 86), .int (iI (a1 + 1)), .int (iI (orI a2 (shlI 1 x5))), .int (iI z23)]) (rest := []) ⟨hx, hb, hml, hown, hts⟩ (hrec b M22 (a1 + 1) (orI a2 (shlI 1 x5)) z23 _ h) (va_cwS 4 hts (z_gS k817 k818 k12 k819) rfl rfl rfl dm_X4_layRest.2 ⟨by simp only [z_rm, headSpec]; omega, by simp only [z_rm, headSpec]; omega⟩) ⟨wPre_blind, w_pre hS hK⟩ rfl rfl hl.1 rfl (lv_room (Nat.le_of_ble_eq_true rfl)) dX4_layRest_88 ⟨Nat.le_refl _, Nat.le_refl _⟩) hS0 (fun M25 H locs h hS hS0 => ?_)
                refine z_iinc (lv' := [(4, .int (iI (x5 + 1))), (5, .int (iI (orI a2 (shlI 1 x5)))), (0, .ref (b + 86)), (1, .int (iI a1)), (2, .int (iI a2)), (3, .int (iI a3))]) hx hb dX4_layRest_91 hl (k := 5) rfl (by decide) rfl (fun ls hl => ?_)
                refine lv_goto (tgt := 31) hx hb dX4_layRest_94 (by decide) ?_
                obtain ⟨n26, h27, h⟩ := h
                exact i13 n26 h27 (x5 + 1) M25 _ _ _ h hS hS0 (lv_sub hl [2, 3, 4, 5, 0] rfl)
        exact L11 n8 0 M _ _ _ h9 hS hS0 (lv_sub hl [1, 2, 3, 4, 0] rfl)
      · skip
        have h := h.2 c4
        refine lv_aload_n hx hb dX4_layRest_22 rfl (lv_at hl 0 rfl) ?_
        refine lv_iload_n hx hb dX4_layRest_23 rfl (lv_at hl 3 rfl) ?_
        refine w_callv (va_runV (As := [.int (iI a3)]) (rest := []) ⟨hx, hb, hml, hown, hts⟩ (cC_Pieces_keepBetter l D dA b M a3 _ h) (cwV 1 hts (z_gV k820 k821 k1384 k12 k822) rfl rfl rfl dm_X4_keepBetter ⟨by simp only [z_rm, headSpec]; omega, by simp only [z_rm, headSpec]; omega⟩) ⟨wPre_blind, (w_recv hS hK.1 (by decide) (zkd_of (rfl : zcd wC 86 = 38) rfl) (by decide) (rfl : vwCl[4]? = some (RX4, TX4, 6))), w_pre hS hK⟩ rfl rfl hl.1 rfl (lv_room (Nat.le_of_ble_eq_true rfl)) dX4_layRest_24 ⟨Nat.le_refl _, Nat.le_refl _⟩) hS0 (fun M28 H locs h hS hS0 => ?_)
        exact w_vret hx hb hr hlocks hS hS0 h dX4_layRest_27
  · skip
    have h := h.2 c1
    exact w_vret hx hb hr hlocks hS hS0 h dX4_layRest_8

def wC_Pieces_layRest : Nat → Int → Int → Int → zM → (zM → Prop) → Prop
  | 0 => fun _ _ _ _ _ => False
  | n + 1 => wC_Pieces_layRest_F (wC_Pieces_layRest n)
set_option maxHeartbeats 4000000 in
set_option maxRecDepth 100000 in
theorem cC_Pieces_layRest (n : Nat) (l : Launch) (D : va_G) (dA : Nat → ClassId) : ∀ (b : Nat) (M : zM) (a1 : Int) (a2 : Int) (a3 : Int)  (Q : zM → Prop), wC_Pieces_layRest n a1 a2 a3 M Q → Met l yX4_layRest (.code yX4_layRest cX4_layRest 6 none :: zt) (z_rm (1 * n + 3)) (va_Pc [.ref (b + 86), .int (iI a1), .int (iI a2), .int (iI a3)] (wPre D dA vwCl (z_tys dA) wC nC b M)) (va_Qv (wQv Q) (zB D dA vwCl wC nC b) (zA nC b)) 0 0 (zA nC b) := by
  induction n with
  | zero => intro b M a1 a2 a3  Q h; exact h.elim
  | succ n ih =>
    intro b M a1 a2 a3  Q h
    rw [show 1 * (n + 1) + 3 = 1 * n + 3 + 0 + 1 from by omega]
    exact cC_Pieces_layRest_F (1 * n + 3) _ l D dA (by omega) ih b M a1 a2 a3  Q h

set_option maxRecDepth 100000 in
def wC_Pieces_joinAll  (M : zM) (Q : Int → zM → Prop) : Prop := (∀ M1 : zM, M1 = zup M 86 2 41 → wC_Pieces_layRest 6 0 0 0 M1 (fun M3 => Q (sI (M3 86 2)) M3))
set_option maxHeartbeats 4000000 in
set_option maxRecDepth 100000 in
theorem cC_Pieces_joinAll (l : Launch) (D : va_G) (dA : Nat → ClassId) (b : Nat) (M : zM)   (Q : Int → zM → Prop) (h : wC_Pieces_joinAll  M Q) : Met l yX4_joinAll (.code yX4_joinAll cX4_joinAll 1 (some .int) :: zt) (z_rm 10) (va_Pc [.ref (b + 86)] (wPre D dA vwCl (z_tys dA) wC nC b M)) (va_Qi (wQi Q) (zB D dA vwCl wC nC b) (zA nC b)) 0 0 (zA nC b) := by
  unfold wC_Pieces_joinAll at h
  refine Met.ofW (cc := cX4_joinAll) (maxL := 1) (ret := (some .int)) (by decide) rfl ?_
  intro p e s m args below meth c s₁ B hml hv
  obtain ⟨hargs, hS, hK⟩ := hv
  have hx := B.exec
  have hb := B.bytes
  have hr := B.returns
  have hts := atoms_spec (ws := .code yX4_joinAll cX4_joinAll 1 (some .int) :: zt) B.pre
  have hown : s.vm.findClass RX4 = some m.cls := findClass_of_methodNamed B.named
  have hlocks := B.notSynchronized
  have hS0 : va_S (zA nC b) s.heap s.heap [] := va_S.rf
  have hl := lv_entry ([.ref (b + 86)]) (n := 1) (Nat.le_of_ble_eq_true rfl)
  have hent : entryFrame m args 1 = F0 m 0 ((lg_sl ([.ref (b + 86)]) ++ List.replicate (1 - (lg_sl ([.ref (b + 86)])).length) Slot.unset).toArray) [] := by rw [hargs]; exact lg_entry_eq m ([.ref (b + 86)]) 1
  rw [hent]
  generalize (lg_sl ([.ref (b + 86)]) ++ List.replicate (1 - (lg_sl ([.ref (b + 86)])).length) Slot.unset).toArray = ls at hl ⊢
  have hl : lv_has ls 1 [(0, .ref (b + 86))] := hl
  refine lv_aload_n hx hb dX4_joinAll_0 rfl (lv_at hl 0 rfl) ?_
  refine z_bipush hx hb (by decide) dX4_joinAll_1 ?_
  refine w_puti hx hb hts (z_memU u4) tyX4 tyX4_ok nmX4 hown hK.1 hS hS0 f4_2 (by decide) (zkd_of (rfl : zcd wC 86 = 38) rfl) (Or.inl (hts _ (z_mem k214))) rfl (z := 41) (by decide +kernel) dX4_joinAll_3 (fun H locs hS hS0 => ?_)
  obtain ⟨M1, e2⟩ : ∃ M1 : zM, M1 = zup M 86 2 41 := ⟨_, rfl⟩
  rw [← e2] at hS
  have h := h M1 e2
  refine lv_aload_n hx hb dX4_joinAll_6 rfl (lv_at hl 0 rfl) ?_
  refine z_iconst hx hb dX4_joinAll_7 ?_
  refine z_iconst hx hb dX4_joinAll_8 ?_
  refine z_iconst hx hb dX4_joinAll_9 ?_
  refine w_callv (va_runS (As := [.ref (b + 86), .int (iI 0), .int (iI 0), .int (iI 0)]) (rest := []) ⟨hx, hb, hml, hown, hts⟩ (cC_Pieces_layRest 6 l D dA b M1 0 0 0 _ h) (va_cwS 4 hts (z_gS k817 k818 k12 k819) rfl rfl rfl dm_X4_layRest.2 ⟨Nat.le_of_ble_eq_true rfl, Nat.le_of_ble_eq_true rfl⟩) ⟨wPre_blind, w_pre hS hK⟩ rfl rfl hl.1 rfl (lv_room (Nat.le_of_ble_eq_true rfl)) dX4_joinAll_10 ⟨Nat.le_refl _, Nat.le_refl _⟩) hS0 (fun M3 H locs h hS hS0 => ?_)
  refine lv_aload_n hx hb dX4_joinAll_13 rfl (lv_at hl 0 rfl) ?_
  refine w_geti hx hb hts (z_memU u4) hown hK.1 hS f4_2 (by decide) (zkd_of (rfl : zcd wC 86 = 38) rfl) (Or.inl (hts _ (z_mem k214))) dX4_joinAll_14 ?_
  exact w_iret hx hb hr hlocks hS hS0 rfl h dX4_joinAll_17

set_option maxRecDepth 100000 in
def wC_join  (M : zM) (Q : Int → zM → Prop) : Prop := wC_Pieces_joinAll  M (fun z2 M1 => wC_tell 87 z2 M1 (fun M4 => Q z2 M4))
set_option maxHeartbeats 4000000 in
set_option maxRecDepth 100000 in
theorem cC_join (l : Launch) (D : va_G) (dA : Nat → ClassId) (b : Nat) (M : zM)   (Q : Int → zM → Prop) (h : wC_join  M Q) : Met l yX11_join (.code yX11_join cX11_join 2 (some .int) :: zt) (z_rm 11) (va_Pc [.ref (b + 0)] (wPre D dA vwCl (z_tys dA) wC nC b M)) (va_Qi (wQi Q) (zB D dA vwCl wC nC b) (zA nC b)) 0 0 (zA nC b) := by
  unfold wC_join at h
  refine Met.ofW (cc := cX11_join) (maxL := 2) (ret := (some .int)) (by decide) rfl ?_
  intro p e s m args below meth c s₁ B hml hv
  obtain ⟨hargs, hS, hK⟩ := hv
  have hx := B.exec
  have hb := B.bytes
  have hr := B.returns
  have hts := atoms_spec (ws := .code yX11_join cX11_join 2 (some .int) :: zt) B.pre
  have hown : s.vm.findClass RX11 = some m.cls := findClass_of_methodNamed B.named
  have hlocks := B.notSynchronized
  have hS0 : va_S (zA nC b) s.heap s.heap [] := va_S.rf
  have hl := lv_entry ([.ref (b + 0)]) (n := 2) (Nat.le_of_ble_eq_true rfl)
  have hent : entryFrame m args 2 = F0 m 0 ((lg_sl ([.ref (b + 0)]) ++ List.replicate (2 - (lg_sl ([.ref (b + 0)])).length) Slot.unset).toArray) [] := by rw [hargs]; exact lg_entry_eq m ([.ref (b + 0)]) 2
  rw [hent]
  generalize (lg_sl ([.ref (b + 0)]) ++ List.replicate (2 - (lg_sl ([.ref (b + 0)])).length) Slot.unset).toArray = ls at hl ⊢
  have hl : lv_has ls 2 [(0, .ref (b + 0))] := hl
  refine lv_aload_n hx hb dX11_join_0 rfl (lv_at hl 0 rfl) ?_
  refine w_getr (j2 := 86) hx hb hts (z_memU u11) hown hK.1 hS f11_7 (by decide) (zkd_of (rfl : zcd wC 0 = 0) rfl) (zrf_of (rfl : zcd wC 0 = 0) rfl) (Or.inl (hts _ (z_mem k249))) dX11_join_1 ?_
  refine w_calli (va_runV (As := []) (rest := []) ⟨hx, hb, hml, hown, hts⟩ (cC_Pieces_joinAll l D dA b M  _ h) (cwV 0 hts (z_gV k813 k814 k815 k12 k816) rfl rfl rfl dm_X4_joinAll ⟨Nat.le_of_ble_eq_true rfl, Nat.le_of_ble_eq_true rfl⟩) ⟨wPre_blind, (w_recv hS hK.1 (by decide) (zkd_of (rfl : zcd wC 86 = 38) rfl) (by decide) (rfl : vwCl[4]? = some (RX4, TX4, 6))), w_pre hS hK⟩ rfl rfl hl.1 rfl (lv_room (Nat.le_of_ble_eq_true rfl)) dX11_join_4 ⟨Nat.le_refl _, Nat.le_refl _⟩) hS0 (fun z2 M1 H locs r3 h hS hS0 => ?_)
  refine lv_istore_n (lv' := [(1, .int (iI z2)), (0, .ref (b + 0))]) hx hb dX11_join_7 rfl hl (by decide) rfl (fun ls hl => ?_)
  refine lv_aload_n hx hb dX11_join_8 rfl (lv_at hl 1 rfl) ?_
  refine lv_aload_n hx hb dX11_join_9 rfl (lv_at hl 1 rfl) ?_
  refine w_getr (j2 := 86) hx hb hts (z_memU u11) hown hK.1 hS f11_7 (by decide) (zkd_of (rfl : zcd wC 0 = 0) rfl) (zrf_of (rfl : zcd wC 0 = 0) rfl) (Or.inl (hts _ (z_mem k249))) dX11_join_10 ?_
  refine w_getr (j2 := 87) hx hb hts (z_memU u4) hown hK.1 hS f4_1 (by decide) (zkd_of (rfl : zcd wC 86 = 38) rfl) (zrf_of (rfl : zcd wC 86 = 38) rfl) (Or.inl (hts _ (z_mem k213))) dX11_join_13 ?_
  refine lv_iload_n hx hb dX11_join_16 rfl (lv_at hl 0 rfl) ?_
  refine w_callv (va_runV (As := [.ref (b + 87), .int (iI z2)]) (rest := []) ⟨hx, hb, hml, hown, hts⟩ (cC_tell l D dA b M1 87 z2 (by decide) (zkd_of (rfl : zcd wC 87 = 39) rfl) (Nat.lt_of_le_of_lt (Nat.le_of_eq (zln_of (rfl : zcd wC 87 = 39) rfl)) (by decide)) _ h) (cwV 2 hts (z_gV k653 k654 k1375 k1 k655) rfl rfl rfl dm_X11_tell ⟨Nat.le_of_ble_eq_true rfl, Nat.le_of_ble_eq_true rfl⟩) ⟨wPre_blind, (w_recv hS hK.1 (by decide) (zkd_of (rfl : zcd wC 0 = 0) rfl) (by decide) (rfl : vwCl[11]? = some (RX11, TX11, 11))), w_pre hS hK⟩ rfl rfl hl.1 rfl (lv_room (Nat.le_of_ble_eq_true rfl)) dX11_join_17 ⟨Nat.le_refl _, Nat.le_refl _⟩) hS0 (fun M4 H locs h hS hS0 => ?_)
  refine lv_iload_n hx hb dX11_join_20 rfl (lv_at hl 0 rfl) ?_
  exact w_iret hx hb hr hlocks hS hS0 (sI_of r3) h dX11_join_21

set_option maxRecDepth 100000 in
def wC_Versions_add (a0 : Nat) (a1 : Int) (a2 : Int) (M : zM) (Q : Int → zM → Prop) : Prop := (16 ≤ (sI (M 96 0)) → Q (-1) M) ∧ ((sI (M 96 0)) < 16 → pJ0 (fun J33 => ((sI (M 96 0)) ≤ 0 → J33) ∧ (0 < (sI (M 96 0)) → ((0 ≤ (sI ((M 96 0) - 1)) ∧ (sI ((M 96 0) - 1)) < 16) ∧ ((sI (M 99 (sI ((M 96 0) - 1)).toNat)) ≤ (sI a2) → J33) ∧ ((sI a2) < (sI (M 99 (sI ((M 96 0) - 1)).toNat)) → Q (-1) M)))) (((0 ≤ (sI (M 96 0)) ∧ (sI (M 96 0)) < 16) ∧ wC_Strip_copy (101 + 2 * (sI (M 96 0)).toNat) a0 M (fun M14 => ((0 ≤ (sI (M14 96 0)) ∧ (sI (M14 96 0)) < 16) ∧ (∀ M16 : zM, M16 = zup M14 98 (sI (M14 96 0)).toNat a1 → ((0 ≤ (sI (M16 96 0)) ∧ (sI (M16 96 0)) < 16) ∧ (∀ M19 : zM, M19 = zup M16 99 (sI (M16 96 0)).toNat a2 → (∀ M21 : zM, M21 = zup M19 96 0 ((M19 96 0) + 1) → Q (sI ((M21 96 0) - 1)) M21)))))))))
set_option maxHeartbeats 4000000 in
set_option maxRecDepth 100000 in
theorem cC_Versions_add (l : Launch) (D : va_G) (dA : Nat → ClassId) (b : Nat) (M : zM) (a0 : Nat) (a1 : Int) (a2 : Int) (lt_a0 : a0 < nC) (cd_a0 : zcd wC a0 = 6) (Q : Int → zM → Prop) (h : wC_Versions_add a0 a1 a2 M Q) : Met l yX10_add (.code yX10_add cX10_add 4 (some .int) :: zt) (z_rm 2) (va_Pc [.ref (b + 96), .ref (b + a0), .int (iI a1), .int (iI a2)] (wPre D dA vwCl (z_tys dA) wC nC b M)) (va_Qi (wQi Q) (zB D dA vwCl wC nC b) (zA nC b)) 0 0 (zA nC b) := by
  unfold wC_Versions_add at h
  refine Met.ofW (cc := cX10_add) (maxL := 4) (ret := (some .int)) (by decide) rfl ?_
  intro p e s m args below meth c s₁ B hml hv
  obtain ⟨hargs, hS, hK⟩ := hv
  have hx := B.exec
  have hb := B.bytes
  have hr := B.returns
  have hts := atoms_spec (ws := .code yX10_add cX10_add 4 (some .int) :: zt) B.pre
  have hown : s.vm.findClass RX10 = some m.cls := findClass_of_methodNamed B.named
  have hlocks := B.notSynchronized
  have hS0 : va_S (zA nC b) s.heap s.heap [] := va_S.rf
  have hl := lv_entry ([.ref (b + 96), .ref (b + a0), .int (iI a1), .int (iI a2)]) (n := 4) (Nat.le_of_ble_eq_true rfl)
  have hent : entryFrame m args 4 = F0 m 0 ((lg_sl ([.ref (b + 96), .ref (b + a0), .int (iI a1), .int (iI a2)]) ++ List.replicate (4 - (lg_sl ([.ref (b + 96), .ref (b + a0), .int (iI a1), .int (iI a2)])).length) Slot.unset).toArray) [] := by rw [hargs]; exact lg_entry_eq m ([.ref (b + 96), .ref (b + a0), .int (iI a1), .int (iI a2)]) 4
  rw [hent]
  generalize (lg_sl ([.ref (b + 96), .ref (b + a0), .int (iI a1), .int (iI a2)]) ++ List.replicate (4 - (lg_sl ([.ref (b + 96), .ref (b + a0), .int (iI a1), .int (iI a2)])).length) Slot.unset).toArray = ls at hl ⊢
  have hl : lv_has ls 4 [(0, .ref (b + 96)), (1, .ref (b + a0)), (2, .int (iI a1)), (3, .int (iI a2))] := hl
  obtain ⟨lt1, cd2⟩ := nx_strip a0 lt_a0 cd_a0
  refine lv_aload_n hx hb dX10_add_0 rfl (lv_at hl 0 rfl) ?_
  refine w_geti hx hb hts (z_memU u10) hown hK.1 hS f10_0 (by decide) (zkd_of (rfl : zcd wC 96 = 44) rfl) (Or.inl (hts _ (z_mem k231))) dX10_add_1 ?_
  refine z_bipush hx hb (by decide) dX10_add_4 ?_
  refine w_icmp_ge (tgt := 31) hx hb rfl (sI_of (by decide)) dX10_add_6 (by decide) (fun c3 => ?_) (fun c3 => ?_)
  · skip
    have h := h.1 c3
    refine z_iconst hx hb dX10_add_31 ?_
    exact w_iret hx hb hr hlocks hS hS0 (sI_of (by decide)) h dX10_add_32
  · skip
    have h := h.2 c3
    refine lv_aload_n hx hb dX10_add_9 rfl (lv_at hl 0 rfl) ?_
    refine w_geti hx hb hts (z_memU u10) hown hK.1 hS f10_0 (by decide) (zkd_of (rfl : zcd wC 96 = 44) rfl) (Or.inl (hts _ (z_mem k231))) dX10_add_10 ?_
    obtain ⟨J33, B8, h⟩ := h
    have L7 : ∀ (H : Heap) (locs : List Loc) (ls : Array Slot), J33 → zR D dA vwCl wC nC b M H → va_S (zA nC b) s.heap H locs → lv_has ls 4 [(0, .ref (b + 96)), (1, .ref (b + a0)), (2, .int (iI a1)), (3, .int (iI a2))] → W p l e (headSpec (.code yX10_add cX10_add 4 (some .int) :: zt) (z_rm 2)).room s m args below meth c H locs 0 0 (MQ below (va_Qi (wQi Q) (zB D dA vwCl wC nC b) (zA nC b)) args s 0 0 (zA nC b)) (F0 m 33 ls []) := by
      intro  H locs ls h hS hS0 hl
      have h := B8 h
      refine lv_aload_n hx hb dX10_add_33 rfl (lv_at hl 0 rfl) ?_
      refine w_getr (j2 := 97) hx hb hts (z_memU u10) hown hK.1 hS f10_1 (by decide) (zkd_of (rfl : zcd wC 96 = 44) rfl) (zrf_of (rfl : zcd wC 96 = 44) rfl) (Or.inl (hts _ (z_mem k233))) dX10_add_34 ?_
      refine lv_aload_n hx hb dX10_add_37 rfl (lv_at hl 0 rfl) ?_
      refine w_geti hx hb hts (z_memU u10) hown hK.1 hS f10_0 (by decide) (zkd_of (rfl : zcd wC 96 = 44) rfl) (Or.inl (hts _ (z_mem k231))) dX10_add_38 ?_
      obtain ⟨o9, h⟩ := h
      refine w_aald (n := 16) (i := (sI (M 96 0))) (j2 := (101 + 2 * (sI (M 96 0)).toNat)) hx hb hK.1 (t0 := 4) (r := 4) (by decide) rfl rfl hS (by decide) (zkd_of (rfl : zcd wC 97 = 45) rfl) (zln_of (rfl : zcd wC 97 = 45) rfl) rfl o9.1 o9.2 (by decide) (zrf_of (rfl : zcd wC 97 = 45) rfl) dX10_add_41 ?_
      obtain ⟨lt10, cd11⟩ : (101 + 2 * (sI (M 96 0)).toNat) < nC ∧ zcd wC (101 + 2 * (sI (M 96 0)).toNat) = 6 := (by decide : ∀ k : Nat, k < 16 → (101 + 2 * k) < nC ∧ zcd wC (101 + 2 * k) = 6) (sI (M 96 0)).toNat (by clear h; have h0 := o9.1; have h1 := o9.2; omega)
      obtain ⟨lt12, cd13⟩ := nx_strip (101 + 2 * (sI (M 96 0)).toNat) lt10 cd11
      refine lv_aload_n hx hb dX10_add_42 rfl (lv_at hl 1 rfl) ?_
      refine w_callv (va_runV (As := [.ref (b + a0)]) (rest := []) ⟨hx, hb, hml, hown, hts⟩ (cC_Strip_copy l D dA b M (101 + 2 * (sI (M 96 0)).toNat) a0 lt10 cd11 lt_a0 cd_a0 _ h) (cwV 1 hts (z_gV k845 k361 k362 k3 k363) rfl rfl rfl dm_X8_copy ⟨Nat.le_of_ble_eq_true rfl, Nat.le_of_ble_eq_true rfl⟩) ⟨wPre_blind, (w_recv hS hK.1 lt10 (zkd_of cd11 rfl) (by decide) (rfl : vwCl[8]? = some (RX8, TX8, 2))), w_pre hS hK⟩ rfl rfl hl.1 rfl (lv_room (Nat.le_of_ble_eq_true rfl)) dX10_add_43 ⟨Nat.le_refl _, Nat.le_refl _⟩) hS0 (fun M14 H locs h hS hS0 => ?_)
      refine lv_aload_n hx hb dX10_add_46 rfl (lv_at hl 0 rfl) ?_
      refine w_getr (j2 := 98) hx hb hts (z_memU u10) hown hK.1 hS f10_2 (by decide) (zkd_of (rfl : zcd wC 96 = 44) rfl) (zrf_of (rfl : zcd wC 96 = 44) rfl) (Or.inl (hts _ (z_mem k234))) dX10_add_47 ?_
      refine lv_aload_n hx hb dX10_add_50 rfl (lv_at hl 0 rfl) ?_
      refine w_geti hx hb hts (z_memU u10) hown hK.1 hS f10_0 (by decide) (zkd_of (rfl : zcd wC 96 = 44) rfl) (Or.inl (hts _ (z_mem k231))) dX10_add_51 ?_
      refine lv_iload_n hx hb dX10_add_54 rfl (lv_at hl 2 rfl) ?_
      obtain ⟨o15, h⟩ := h
      refine w_iast (z := a1) (n := 16) (i := (sI (M14 96 0))) hx hb hK.1 (t0 := 0) rfl hS hS0 (by decide) (zkd_of (rfl : zcd wC 98 = 46) rfl) (zln_of (rfl : zcd wC 98 = 46) rfl) rfl o15.1 o15.2 (by decide) dX10_add_55 (fun H locs hS hS0 => ?_)
      obtain ⟨M16, e17⟩ : ∃ M16 : zM, M16 = zup M14 98 (sI (M14 96 0)).toNat a1 := ⟨_, rfl⟩
      rw [← e17] at hS
      have h := h M16 e17
      refine lv_aload_n hx hb dX10_add_56 rfl (lv_at hl 0 rfl) ?_
      refine w_getr (j2 := 99) hx hb hts (z_memU u10) hown hK.1 hS f10_3 (by decide) (zkd_of (rfl : zcd wC 96 = 44) rfl) (zrf_of (rfl : zcd wC 96 = 44) rfl) (Or.inl (hts _ (z_mem k235))) dX10_add_57 ?_
      refine lv_aload_n hx hb dX10_add_60 rfl (lv_at hl 0 rfl) ?_
      refine w_geti hx hb hts (z_memU u10) hown hK.1 hS f10_0 (by decide) (zkd_of (rfl : zcd wC 96 = 44) rfl) (Or.inl (hts _ (z_mem k231))) dX10_add_61 ?_
      refine lv_iload_n hx hb dX10_add_64 rfl (lv_at hl 3 rfl) ?_
      obtain ⟨o18, h⟩ := h
      refine w_iast (z := a2) (n := 16) (i := (sI (M16 96 0))) hx hb hK.1 (t0 := 0) rfl hS hS0 (by decide) (zkd_of (rfl : zcd wC 99 = 47) rfl) (zln_of (rfl : zcd wC 99 = 47) rfl) rfl o18.1 o18.2 (by decide) dX10_add_65 (fun H locs hS hS0 => ?_)
      obtain ⟨M19, e20⟩ : ∃ M19 : zM, M19 = zup M16 99 (sI (M16 96 0)).toNat a2 := ⟨_, rfl⟩
      rw [← e20] at hS
      have h := h M19 e20
      refine lv_aload_n hx hb dX10_add_66 rfl (lv_at hl 0 rfl) ?_
      refine lv_dup hx hb dX10_add_67 rfl ?_
      refine w_geti hx hb hts (z_memU u10) hown hK.1 hS f10_0 (by decide) (zkd_of (rfl : zcd wC 96 = 44) rfl) (Or.inl (hts _ (z_mem k231))) dX10_add_68 ?_
      refine z_iconst hx hb dX10_add_71 ?_
      refine z_iadd hx hb dX10_add_72 ?_
      refine w_puti hx hb hts (z_memU u10) tyX10 tyX10_ok nmX10 hown hK.1 hS hS0 f10_0 (by decide) (zkd_of (rfl : zcd wC 96 = 44) rfl) (Or.inl (hts _ (z_mem k231))) rfl (z := ((M19 96 0) + 1)) (by decide +kernel) dX10_add_73 (fun H locs hS hS0 => ?_)
      obtain ⟨M21, e22⟩ : ∃ M21 : zM, M21 = zup M19 96 0 ((M19 96 0) + 1) := ⟨_, rfl⟩
      rw [← e22] at hS
      have h := h M21 e22
      refine lv_aload_n hx hb dX10_add_76 rfl (lv_at hl 0 rfl) ?_
      refine w_geti hx hb hts (z_memU u10) hown hK.1 hS f10_0 (by decide) (zkd_of (rfl : zcd wC 96 = 44) rfl) (Or.inl (hts _ (z_mem k231))) dX10_add_77 ?_
      refine z_iconst hx hb dX10_add_80 ?_
      refine z_isub hx hb dX10_add_81 ?_
      exact w_iret hx hb hr hlocks hS hS0 rfl h dX10_add_82
    refine w_if_le (tgt := 33) hx hb rfl dX10_add_13 (by decide) (fun c23 => ?_) (fun c23 => ?_)
    · skip
      have h := h.1 c23
      exact L7 _ _ _ h hS hS0 (lv_sub hl [0, 1, 2, 3] rfl)
    · skip
      have h := h.2 c23
      refine lv_iload_n hx hb dX10_add_16 rfl (lv_at hl 3 rfl) ?_
      refine lv_aload_n hx hb dX10_add_17 rfl (lv_at hl 0 rfl) ?_
      refine w_getr (j2 := 99) hx hb hts (z_memU u10) hown hK.1 hS f10_3 (by decide) (zkd_of (rfl : zcd wC 96 = 44) rfl) (zrf_of (rfl : zcd wC 96 = 44) rfl) (Or.inl (hts _ (z_mem k235))) dX10_add_18 ?_
      refine lv_aload_n hx hb dX10_add_21 rfl (lv_at hl 0 rfl) ?_
      refine w_geti hx hb hts (z_memU u10) hown hK.1 hS f10_0 (by decide) (zkd_of (rfl : zcd wC 96 = 44) rfl) (Or.inl (hts _ (z_mem k231))) dX10_add_22 ?_
      refine z_iconst hx hb dX10_add_25 ?_
      refine z_isub hx hb dX10_add_26 ?_
      obtain ⟨o24, h⟩ := h
      refine w_iald (n := 16) (i := (sI ((M 96 0) - 1))) hx hb hK.1 (t0 := 0) rfl hS (by decide) (zkd_of (rfl : zcd wC 99 = 47) rfl) (zln_of (rfl : zcd wC 99 = 47) rfl) rfl o24.1 o24.2 (by decide) dX10_add_27 ?_
      refine w_icmp_ge (tgt := 33) hx hb rfl rfl dX10_add_28 (by decide) (fun c25 => ?_) (fun c25 => ?_)
      · skip
        have h := h.1 c25
        exact L7 _ _ _ h hS hS0 (lv_sub hl [0, 1, 2, 3] rfl)
      · skip
        have h := h.2 c25
        refine z_iconst hx hb dX10_add_31 ?_
        exact w_iret hx hb hr hlocks hS hS0 (sI_of (by decide)) h dX10_add_32

set_option maxRecDepth 100000 in
def wC_keep (a0 : Int) (a1 : Int) (M : zM) (Q : Int → zM → Prop) : Prop := wC_Studio_find a0 M (fun z2 => (z2 = none → Q (-1) M) ∧ (∀ q4, z2 = some q4 → (q4 < nC ∧ zcd wC q4 = 14) ∧ (wC_within a1 0 999 M (fun z14 => (z14 ≠ 0 → wC_Versions_add (q4 + 1) a0 a1 M (fun z19 M18 => Q z19 M18)) ∧ (z14 = 0 → Q (-1) M)))))
set_option maxHeartbeats 4000000 in
set_option maxRecDepth 100000 in
theorem cC_keep (l : Launch) (D : va_G) (dA : Nat → ClassId) (b : Nat) (M : zM) (a0 : Int) (a1 : Int)  (Q : Int → zM → Prop) (h : wC_keep a0 a1 M Q) : Met l yX11_keep (.code yX11_keep cX11_keep 4 (some .int) :: zt) (z_rm 3) (va_Pc [.ref (b + 0), .int (iI a0), .int (iI a1)] (wPre D dA vwCl (z_tys dA) wC nC b M)) (va_Qi (wQi Q) (zB D dA vwCl wC nC b) (zA nC b)) 0 0 (zA nC b) := by
  unfold wC_keep at h
  refine Met.ofW (cc := cX11_keep) (maxL := 4) (ret := (some .int)) (by decide) rfl ?_
  intro p e s m args below meth c s₁ B hml hv
  obtain ⟨hargs, hS, hK⟩ := hv
  have hx := B.exec
  have hb := B.bytes
  have hr := B.returns
  have hts := atoms_spec (ws := .code yX11_keep cX11_keep 4 (some .int) :: zt) B.pre
  have hown : s.vm.findClass RX11 = some m.cls := findClass_of_methodNamed B.named
  have hlocks := B.notSynchronized
  have hS0 : va_S (zA nC b) s.heap s.heap [] := va_S.rf
  have hl := lv_entry ([.ref (b + 0), .int (iI a0), .int (iI a1)]) (n := 4) (Nat.le_of_ble_eq_true rfl)
  have hent : entryFrame m args 4 = F0 m 0 ((lg_sl ([.ref (b + 0), .int (iI a0), .int (iI a1)]) ++ List.replicate (4 - (lg_sl ([.ref (b + 0), .int (iI a0), .int (iI a1)])).length) Slot.unset).toArray) [] := by rw [hargs]; exact lg_entry_eq m ([.ref (b + 0), .int (iI a0), .int (iI a1)]) 4
  rw [hent]
  generalize (lg_sl ([.ref (b + 0), .int (iI a0), .int (iI a1)]) ++ List.replicate (4 - (lg_sl ([.ref (b + 0), .int (iI a0), .int (iI a1)])).length) Slot.unset).toArray = ls at hl ⊢
  have hl : lv_has ls 4 [(0, .ref (b + 0)), (1, .int (iI a0)), (2, .int (iI a1))] := hl
  refine lv_aload_n hx hb dX11_keep_0 rfl (lv_at hl 0 rfl) ?_
  refine w_getr (j2 := 32) hx hb hts (z_memU u11) hown hK.1 hS f11_2 (by decide) (zkd_of (rfl : zcd wC 0 = 0) rfl) (zrf_of (rfl : zcd wC 0 = 0) rfl) (Or.inl (hts _ (z_mem k244))) dX11_keep_1 ?_
  refine lv_iload_n hx hb dX11_keep_4 rfl (lv_at hl 1 rfl) ?_
  refine w_callq (va_runV (As := [.int (iI a0)]) (rest := []) ⟨hx, hb, hml, hown, hts⟩ (cC_Studio_find l D dA b M a0 _ h) (cwV 1 hts (z_gV k411 k412 k413 k4 k414) rfl rfl rfl dm_X9_find ⟨Nat.le_of_ble_eq_true rfl, Nat.le_of_ble_eq_true rfl⟩) ⟨wPre_blind, (w_recv hS hK.1 (by decide) (zkd_of (rfl : zcd wC 32 = 8) rfl) (by decide) (rfl : vwCl[9]? = some (RX9, TX9, 3))), w_pre hS hK⟩ rfl rfl hl.1 rfl (lv_room (Nat.le_of_ble_eq_true rfl)) dX11_keep_5 ⟨Nat.le_refl _, Nat.le_refl _⟩) hS0 (fun z2 M1 H locs h hS hS0 => ?_)
  obtain ⟨e3, h⟩ := h
  rw [e3] at hS
  rcases z2 with _ | q4
  · skip
    have h := h.1 rfl
    refine lv_astore_nN (lv' := [(3, .null), (0, .ref (b + 0)), (1, .int (iI a0)), (2, .int (iI a1))]) hx hb dX11_keep_8 rfl hl (by decide) rfl (fun ls hl => ?_)
    refine lv_aload_nN hx hb dX11_keep_9 rfl (lv_at hl 0 rfl) ?_
    refine lv_ifnullN (tgt := 24) hx hb dX11_keep_10 (by decide) ?_
    refine z_iconst hx hb dX11_keep_24 ?_
    exact w_iret hx hb hr hlocks hS hS0 (sI_of (by decide)) h dX11_keep_25
  · skip
    obtain ⟨⟨lt5, cd6⟩, h⟩ := h.2 q4 rfl
    obtain ⟨lt7, cd8, lt9, cd10, lt11, cd12⟩ := nx_ring q4 lt5 cd6
    refine lv_astore_n (lv' := [(3, .ref (b + q4)), (0, .ref (b + 0)), (1, .int (iI a0)), (2, .int (iI a1))]) hx hb dX11_keep_8 rfl hl (by decide) rfl (fun ls hl => ?_)
    refine lv_aload_n hx hb dX11_keep_9 rfl (lv_at hl 0 rfl) ?_
    refine lv_ifnull hx hb dX11_keep_10 ?_
    refine lv_iload_n hx hb dX11_keep_13 rfl (lv_at hl 3 rfl) ?_
    refine z_iconst hx hb dX11_keep_14 ?_
    refine z_sipush hx hb (by decide) dX11_keep_15 ?_
    refine w_callz (va_runS (As := [.int (iI a1), .int (iI 0), .int (iI 999)]) (rest := []) ⟨hx, hb, hml, hown, hts⟩ (cC_within l D dA b M a1 0 999 _ h) (va_cwS 3 hts (z_gS k382 k383 k1 k384) rfl rfl rfl dm_X11_within.2 ⟨Nat.le_of_ble_eq_true rfl, Nat.le_of_ble_eq_true rfl⟩) ⟨wPre_blind, w_pre hS hK⟩ rfl rfl hl.1 rfl (lv_room (Nat.le_of_ble_eq_true rfl)) dX11_keep_18 ⟨Nat.le_refl _, Nat.le_refl _⟩) hS0 (fun z14 M13 H locs r15 h hS hS0 => ?_)
    obtain ⟨e16, h⟩ := h
    rw [e16] at hS
    refine w_if_ne (tgt := 26) hx hb (sI_01 r15) dX11_keep_21 (by decide) (fun c17 => ?_) (fun c17 => ?_)
    · skip
      have h := h.1 c17
      refine lv_aload_n hx hb dX11_keep_26 rfl (lv_at hl 1 rfl) ?_
      refine w_getr (j2 := 96) hx hb hts (z_memU u11) hown hK.1 hS f11_8 (by decide) (zkd_of (rfl : zcd wC 0 = 0) rfl) (zrf_of (rfl : zcd wC 0 = 0) rfl) (Or.inl (hts _ (z_mem k250))) dX11_keep_27 ?_
      refine lv_aload_n hx hb dX11_keep_30 rfl (lv_at hl 0 rfl) ?_
      refine w_getr (j2 := (q4 + 1)) hx hb hts (z_memU u6) hown hK.1 hS f6_0 lt5 (zkd_of cd6 rfl) (zrf_of cd6 rfl) (Or.inl (hts _ (z_mem k96))) dX11_keep_31 ?_
      refine lv_iload_n hx hb dX11_keep_34 rfl (lv_at hl 2 rfl) ?_
      refine lv_iload_n hx hb dX11_keep_35 rfl (lv_at hl 3 rfl) ?_
      refine w_calli (va_runV (As := [.ref (b + (q4 + 1)), .int (iI a0), .int (iI a1)]) (rest := []) ⟨hx, hb, hml, hown, hts⟩ (cC_Versions_add l D dA b M (q4 + 1) a0 a1 lt7 cd8 _ h) (cwV 3 hts (z_gV k841 k842 k843 k13 k844) rfl rfl rfl dm_X10_add ⟨Nat.le_of_ble_eq_true rfl, Nat.le_of_ble_eq_true rfl⟩) ⟨wPre_blind, (w_recv hS hK.1 (by decide) (zkd_of (rfl : zcd wC 96 = 44) rfl) (by decide) (rfl : vwCl[10]? = some (RX10, TX10, 5))), w_pre hS hK⟩ rfl rfl hl.1 rfl (lv_room (Nat.le_of_ble_eq_true rfl)) dX11_keep_36 ⟨Nat.le_refl _, Nat.le_refl _⟩) hS0 (fun z19 M18 H locs r20 h hS hS0 => ?_)
      exact w_iret hx hb hr hlocks hS hS0 (sI_of r20) h dX11_keep_39
    · skip
      have h := h.2 c17
      refine z_iconst hx hb dX11_keep_24 ?_
      exact w_iret hx hb hr hlocks hS hS0 (sI_of (by decide)) h dX11_keep_25

set_option maxRecDepth 100000 in
def wC_Versions_latest (a0 : Int) (a1 : Int) (M : zM) (Q : Int → Prop) : Prop := pL1 (fun K7 x1 => ((sI x1) < 0 → Q (-1)) ∧ (0 ≤ (sI x1) → ((0 ≤ (sI x1) ∧ (sI x1) < 16) ∧ ((sI (M 98 (sI x1).toNat)) ≠ (sI a0) → K7 (x1 + (-1))) ∧ ((sI (M 98 (sI x1).toNat)) = (sI a0) → ((0 ≤ (sI x1) ∧ (sI x1) < 16) ∧ ((sI a1) < (sI (M 99 (sI x1).toNat)) → K7 (x1 + (-1))) ∧ ((sI (M 99 (sI x1).toNat)) ≤ (sI a1) → Q (sI x1))))))) ((M 96 0) - 1)
set_option maxHeartbeats 4000000 in
set_option maxRecDepth 100000 in
theorem cC_Versions_latest (l : Launch) (D : va_G) (dA : Nat → ClassId) (b : Nat) (M : zM) (a0 : Int) (a1 : Int)  (Q : Int → Prop) (h : wC_Versions_latest a0 a1 M Q) : Met l yX10_latest (.code yX10_latest cX10_latest 4 (some .int) :: zt) (z_rm 0) (va_Pc [.ref (b + 96), .int (iI a0), .int (iI a1)] (wPre D dA vwCl (z_tys dA) wC nC b M)) (va_Qi (wQi (fun z9 u9 => u9 = M ∧ Q z9)) (zB D dA vwCl wC nC b) (zA nC b)) 0 0 (zA nC b) := by
  unfold wC_Versions_latest at h
  refine Met.ofW (cc := cX10_latest) (maxL := 4) (ret := (some .int)) (by decide) rfl ?_
  intro p e s m args below meth c s₁ B hml hv
  obtain ⟨hargs, hS, hK⟩ := hv
  have hx := B.exec
  have hb := B.bytes
  have hr := B.returns
  have hts := atoms_spec (ws := .code yX10_latest cX10_latest 4 (some .int) :: zt) B.pre
  have hown : s.vm.findClass RX10 = some m.cls := findClass_of_methodNamed B.named
  have hlocks := B.notSynchronized
  have hS0 : va_S (zA nC b) s.heap s.heap [] := va_S.rf
  have hl := lv_entry ([.ref (b + 96), .int (iI a0), .int (iI a1)]) (n := 4) (Nat.le_of_ble_eq_true rfl)
  have hent : entryFrame m args 4 = F0 m 0 ((lg_sl ([.ref (b + 96), .int (iI a0), .int (iI a1)]) ++ List.replicate (4 - (lg_sl ([.ref (b + 96), .int (iI a0), .int (iI a1)])).length) Slot.unset).toArray) [] := by rw [hargs]; exact lg_entry_eq m ([.ref (b + 96), .int (iI a0), .int (iI a1)]) 4
  rw [hent]
  generalize (lg_sl ([.ref (b + 96), .int (iI a0), .int (iI a1)]) ++ List.replicate (4 - (lg_sl ([.ref (b + 96), .int (iI a0), .int (iI a1)])).length) Slot.unset).toArray = ls at hl ⊢
  have hl : lv_has ls 4 [(0, .ref (b + 96)), (1, .int (iI a0)), (2, .int (iI a1))] := hl
  refine lv_aload_n hx hb dX10_latest_0 rfl (lv_at hl 0 rfl) ?_
  refine w_geti hx hb hts (z_memU u10) hown hK.1 hS f10_0 (by decide) (zkd_of (rfl : zcd wC 96 = 44) rfl) (Or.inl (hts _ (z_mem k231))) dX10_latest_1 ?_
  refine z_iconst hx hb dX10_latest_4 ?_
  refine z_isub hx hb dX10_latest_5 ?_
  refine lv_istore_n (lv' := [(3, .int (iI ((M 96 0) - 1))), (0, .ref (b + 96)), (1, .int (iI a0)), (2, .int (iI a1))]) hx hb dX10_latest_6 rfl hl (by decide) rfl (fun ls hl => ?_)
  obtain ⟨I2, ⟨n3, h4⟩, h5⟩ := h
  have L6 : ∀ (n7 : Nat) (x1 : Int) (H : Heap) (locs : List Loc) (ls : Array Slot), I2 n7 x1 → zR D dA vwCl wC nC b M H → va_S (zA nC b) s.heap H locs → lv_has ls 4 [(0, .ref (b + 96)), (1, .int (iI a0)), (2, .int (iI a1)), (3, .int (iI x1))] → W p l e (headSpec (.code yX10_latest cX10_latest 4 (some .int) :: zt) (z_rm 0)).room s m args below meth c H locs 0 0 (MQ below (va_Qi (wQi (fun z9 u9 => u9 = M ∧ Q z9)) (zB D dA vwCl wC nC b) (zA nC b)) args s 0 0 (zA nC b)) (F0 m 7 ls []) := by
    intro n7
    induction n7 using Nat.strongRecOn with
    | ind n7 i8 =>
      intro x1 H locs ls h hS hS0 hl
      have h := h5 n7 x1 h
      refine lv_iload_n hx hb dX10_latest_7 rfl (lv_at hl 3 rfl) ?_
      refine w_if_lt (tgt := 39) hx hb rfl dX10_latest_8 (by decide) (fun c9 => ?_) (fun c9 => ?_)
      · skip
        have h := h.1 c9
        refine z_iconst hx hb dX10_latest_39 ?_
        exact w_iret hx hb hr hlocks hS hS0 (sI_of (by decide)) ⟨rfl, h⟩ dX10_latest_40
      · skip
        have h := h.2 c9
        refine lv_aload_n hx hb dX10_latest_11 rfl (lv_at hl 0 rfl) ?_
        refine w_getr (j2 := 98) hx hb hts (z_memU u10) hown hK.1 hS f10_2 (by decide) (zkd_of (rfl : zcd wC 96 = 44) rfl) (zrf_of (rfl : zcd wC 96 = 44) rfl) (Or.inl (hts _ (z_mem k234))) dX10_latest_12 ?_
        refine lv_iload_n hx hb dX10_latest_15 rfl (lv_at hl 3 rfl) ?_
        obtain ⟨o10, h⟩ := h
        refine w_iald (n := 16) (i := (sI x1)) hx hb hK.1 (t0 := 0) rfl hS (by decide) (zkd_of (rfl : zcd wC 98 = 46) rfl) (zln_of (rfl : zcd wC 98 = 46) rfl) rfl o10.1 o10.2 (by decide) dX10_latest_16 ?_
        refine lv_iload_n hx hb dX10_latest_17 rfl (lv_at hl 1 rfl) ?_
        refine w_icmp_ne (tgt := 33) hx hb rfl rfl dX10_latest_18 (by decide) (fun c11 => ?_) (fun c11 => ?_)
        · skip
          have h := h.1 c11
          refine z_iinc (lv' := [(3, .int (iI (x1 + (-1)))), (0, .ref (b + 96)), (1, .int (iI a0)), (2, .int (iI a1))]) hx hb dX10_latest_33 hl (k := 3) rfl (by decide) rfl (fun ls hl => ?_)
          refine lv_goto (tgt := 7) hx hb dX10_latest_36 (by decide) ?_
          obtain ⟨n12, h13, h⟩ := h
          exact i8 n12 h13 (x1 + (-1)) _ _ _ h hS hS0 (lv_sub hl [1, 2, 3, 0] rfl)
        · skip
          have h := h.2 c11
          refine lv_aload_n hx hb dX10_latest_21 rfl (lv_at hl 0 rfl) ?_
          refine w_getr (j2 := 99) hx hb hts (z_memU u10) hown hK.1 hS f10_3 (by decide) (zkd_of (rfl : zcd wC 96 = 44) rfl) (zrf_of (rfl : zcd wC 96 = 44) rfl) (Or.inl (hts _ (z_mem k235))) dX10_latest_22 ?_
          refine lv_iload_n hx hb dX10_latest_25 rfl (lv_at hl 3 rfl) ?_
          obtain ⟨o14, h⟩ := h
          refine w_iald (n := 16) (i := (sI x1)) hx hb hK.1 (t0 := 0) rfl hS (by decide) (zkd_of (rfl : zcd wC 99 = 47) rfl) (zln_of (rfl : zcd wC 99 = 47) rfl) rfl o14.1 o14.2 (by decide) dX10_latest_26 ?_
          refine lv_iload_n hx hb dX10_latest_27 rfl (lv_at hl 2 rfl) ?_
          refine w_icmp_gt (tgt := 33) hx hb rfl rfl dX10_latest_28 (by decide) (fun c15 => ?_) (fun c15 => ?_)
          · skip
            have h := h.1 c15
            refine z_iinc (lv' := [(3, .int (iI (x1 + (-1)))), (0, .ref (b + 96)), (1, .int (iI a0)), (2, .int (iI a1))]) hx hb dX10_latest_33 hl (k := 3) rfl (by decide) rfl (fun ls hl => ?_)
            refine lv_goto (tgt := 7) hx hb dX10_latest_36 (by decide) ?_
            obtain ⟨n16, h17, h⟩ := h
            exact i8 n16 h17 (x1 + (-1)) _ _ _ h hS hS0 (lv_sub hl [1, 2, 3, 0] rfl)
          · skip
            have h := h.2 c15
            refine lv_iload_n hx hb dX10_latest_31 rfl (lv_at hl 3 rfl) ?_
            exact w_iret hx hb hr hlocks hS hS0 rfl ⟨rfl, h⟩ dX10_latest_32
  exact L6 n3 ((M 96 0) - 1) _ _ _ h4 hS hS0 (lv_sub hl [1, 2, 3, 0] rfl)

set_option maxRecDepth 100000 in
def wC_known (a0 : Int) (a1 : Int) (M : zM) (Q : Int → Prop) : Prop := wC_Versions_latest a0 a1 M (fun z2 => Q z2)
set_option maxHeartbeats 4000000 in
set_option maxRecDepth 100000 in
theorem cC_known (l : Launch) (D : va_G) (dA : Nat → ClassId) (b : Nat) (M : zM) (a0 : Int) (a1 : Int)  (Q : Int → Prop) (h : wC_known a0 a1 M Q) : Met l yX11_known (.code yX11_known cX11_known 3 (some .int) :: zt) (z_rm 1) (va_Pc [.ref (b + 0), .int (iI a0), .int (iI a1)] (wPre D dA vwCl (z_tys dA) wC nC b M)) (va_Qi (wQi (fun z9 u9 => u9 = M ∧ Q z9)) (zB D dA vwCl wC nC b) (zA nC b)) 0 0 (zA nC b) := by
  unfold wC_known at h
  refine Met.ofW (cc := cX11_known) (maxL := 3) (ret := (some .int)) (by decide) rfl ?_
  intro p e s m args below meth c s₁ B hml hv
  obtain ⟨hargs, hS, hK⟩ := hv
  have hx := B.exec
  have hb := B.bytes
  have hr := B.returns
  have hts := atoms_spec (ws := .code yX11_known cX11_known 3 (some .int) :: zt) B.pre
  have hown : s.vm.findClass RX11 = some m.cls := findClass_of_methodNamed B.named
  have hlocks := B.notSynchronized
  have hS0 : va_S (zA nC b) s.heap s.heap [] := va_S.rf
  have hl := lv_entry ([.ref (b + 0), .int (iI a0), .int (iI a1)]) (n := 3) (Nat.le_of_ble_eq_true rfl)
  have hent : entryFrame m args 3 = F0 m 0 ((lg_sl ([.ref (b + 0), .int (iI a0), .int (iI a1)]) ++ List.replicate (3 - (lg_sl ([.ref (b + 0), .int (iI a0), .int (iI a1)])).length) Slot.unset).toArray) [] := by rw [hargs]; exact lg_entry_eq m ([.ref (b + 0), .int (iI a0), .int (iI a1)]) 3
  rw [hent]
  generalize (lg_sl ([.ref (b + 0), .int (iI a0), .int (iI a1)]) ++ List.replicate (3 - (lg_sl ([.ref (b + 0), .int (iI a0), .int (iI a1)])).length) Slot.unset).toArray = ls at hl ⊢
  have hl : lv_has ls 3 [(0, .ref (b + 0)), (1, .int (iI a0)), (2, .int (iI a1))] := hl
  refine lv_aload_n hx hb dX11_known_0 rfl (lv_at hl 0 rfl) ?_
  refine w_getr (j2 := 96) hx hb hts (z_memU u11) hown hK.1 hS f11_8 (by decide) (zkd_of (rfl : zcd wC 0 = 0) rfl) (zrf_of (rfl : zcd wC 0 = 0) rfl) (Or.inl (hts _ (z_mem k250))) dX11_known_1 ?_
  refine lv_iload_n hx hb dX11_known_4 rfl (lv_at hl 1 rfl) ?_
  refine lv_iload_n hx hb dX11_known_5 rfl (lv_at hl 2 rfl) ?_
  refine w_calli (va_runV (As := [.int (iI a0), .int (iI a1)]) (rest := []) ⟨hx, hb, hml, hown, hts⟩ (cC_Versions_latest l D dA b M a0 a1 _ h) (cwV 2 hts (z_gV k850 k851 k852 k13 k853) rfl rfl rfl dm_X10_latest ⟨Nat.le_of_ble_eq_true rfl, Nat.le_of_ble_eq_true rfl⟩) ⟨wPre_blind, (w_recv hS hK.1 (by decide) (zkd_of (rfl : zcd wC 96 = 44) rfl) (by decide) (rfl : vwCl[10]? = some (RX10, TX10, 5))), w_pre hS hK⟩ rfl rfl hl.1 rfl (lv_room (Nat.le_of_ble_eq_true rfl)) dX11_known_6 ⟨Nat.le_refl _, Nat.le_refl _⟩) hS0 (fun z2 M1 H locs r3 h hS hS0 => ?_)
  obtain ⟨e4, h⟩ := h
  rw [e4] at hS
  exact w_iret hx hb hr hlocks hS hS0 (sI_of r3) ⟨rfl, h⟩ dX11_known_9

set_option maxRecDepth 100000 in
def wC_Versions_find (a0 : Int) (M : zM) (Q : Option Nat → Prop) : Prop := ((sI a0) < 0 → Q none) ∧ (0 ≤ (sI a0) → ((sI (M 96 0)) ≤ (sI a0) → Q none) ∧ ((sI a0) < (sI (M 96 0)) → (16 ≤ (sI a0) → Q none) ∧ ((sI a0) < 16 → ((0 ≤ (sI a0) ∧ (sI a0) < 16) ∧ Q (some (101 + 2 * (sI a0).toNat))))))
set_option maxHeartbeats 4000000 in
set_option maxRecDepth 100000 in
theorem cC_Versions_find (l : Launch) (D : va_G) (dA : Nat → ClassId) (b : Nat) (M : zM) (a0 : Int)  (Q : Option Nat → Prop) (h : wC_Versions_find a0 M Q) : Met l yX10_find (.code yX10_find cX10_find 2 (some (.object "TapeRings$Strip")) :: zt) (z_rm 0) (va_Pc [.ref (b + 96), .int (iI a0)] (wPre D dA vwCl (z_tys dA) wC nC b M)) (va_Qq (wQq b (fun z9 u9 => u9 = M ∧ Q z9)) (zB D dA vwCl wC nC b) (zA nC b)) 0 0 (zA nC b) := by
  unfold wC_Versions_find at h
  refine Met.ofW (cc := cX10_find) (maxL := 2) (ret := (some (.object "TapeRings$Strip"))) (by decide) rfl ?_
  intro p e s m args below meth c s₁ B hml hv
  obtain ⟨hargs, hS, hK⟩ := hv
  have hx := B.exec
  have hb := B.bytes
  have hr := B.returns
  have hts := atoms_spec (ws := .code yX10_find cX10_find 2 (some (.object "TapeRings$Strip")) :: zt) B.pre
  have hown : s.vm.findClass RX10 = some m.cls := findClass_of_methodNamed B.named
  have hlocks := B.notSynchronized
  have hS0 : va_S (zA nC b) s.heap s.heap [] := va_S.rf
  have hl := lv_entry ([.ref (b + 96), .int (iI a0)]) (n := 2) (Nat.le_of_ble_eq_true rfl)
  have hent : entryFrame m args 2 = F0 m 0 ((lg_sl ([.ref (b + 96), .int (iI a0)]) ++ List.replicate (2 - (lg_sl ([.ref (b + 96), .int (iI a0)])).length) Slot.unset).toArray) [] := by rw [hargs]; exact lg_entry_eq m ([.ref (b + 96), .int (iI a0)]) 2
  rw [hent]
  generalize (lg_sl ([.ref (b + 96), .int (iI a0)]) ++ List.replicate (2 - (lg_sl ([.ref (b + 96), .int (iI a0)])).length) Slot.unset).toArray = ls at hl ⊢
  have hl : lv_has ls 2 [(0, .ref (b + 96)), (1, .int (iI a0))] := hl
  refine lv_iload_n hx hb dX10_find_0 rfl (lv_at hl 1 rfl) ?_
  refine w_if_lt (tgt := 27) hx hb rfl dX10_find_1 (by decide) (fun c1 => ?_) (fun c1 => ?_)
  · skip
    have h := h.1 c1
    refine lv_null hx hb dX10_find_27 ?_
    exact w_aret hx hb hr (Or.inl ⟨_, rfl⟩) hlocks hS hS0 none rfl ⟨rfl, h⟩ dX10_find_28
  · skip
    have h := h.2 c1
    refine lv_iload_n hx hb dX10_find_4 rfl (lv_at hl 1 rfl) ?_
    refine lv_aload_n hx hb dX10_find_5 rfl (lv_at hl 0 rfl) ?_
    refine w_geti hx hb hts (z_memU u10) hown hK.1 hS f10_0 (by decide) (zkd_of (rfl : zcd wC 96 = 44) rfl) (Or.inl (hts _ (z_mem k231))) dX10_find_6 ?_
    refine w_icmp_ge (tgt := 27) hx hb rfl rfl dX10_find_9 (by decide) (fun c2 => ?_) (fun c2 => ?_)
    · skip
      have h := h.1 c2
      refine lv_null hx hb dX10_find_27 ?_
      exact w_aret hx hb hr (Or.inl ⟨_, rfl⟩) hlocks hS hS0 none rfl ⟨rfl, h⟩ dX10_find_28
    · skip
      have h := h.2 c2
      refine lv_iload_n hx hb dX10_find_12 rfl (lv_at hl 1 rfl) ?_
      refine z_bipush hx hb (by decide) dX10_find_13 ?_
      refine w_icmp_ge (tgt := 27) hx hb rfl (sI_of (by decide)) dX10_find_15 (by decide) (fun c3 => ?_) (fun c3 => ?_)
      · skip
        have h := h.1 c3
        refine lv_null hx hb dX10_find_27 ?_
        exact w_aret hx hb hr (Or.inl ⟨_, rfl⟩) hlocks hS hS0 none rfl ⟨rfl, h⟩ dX10_find_28
      · skip
        have h := h.2 c3
        refine lv_aload_n hx hb dX10_find_18 rfl (lv_at hl 0 rfl) ?_
        refine w_getr (j2 := 97) hx hb hts (z_memU u10) hown hK.1 hS f10_1 (by decide) (zkd_of (rfl : zcd wC 96 = 44) rfl) (zrf_of (rfl : zcd wC 96 = 44) rfl) (Or.inl (hts _ (z_mem k233))) dX10_find_19 ?_
        refine lv_iload_n hx hb dX10_find_22 rfl (lv_at hl 1 rfl) ?_
        obtain ⟨o4, h⟩ := h
        refine w_aald (n := 16) (i := (sI a0)) (j2 := (101 + 2 * (sI a0).toNat)) hx hb hK.1 (t0 := 4) (r := 4) (by decide) rfl rfl hS (by decide) (zkd_of (rfl : zcd wC 97 = 45) rfl) (zln_of (rfl : zcd wC 97 = 45) rfl) rfl o4.1 o4.2 (by decide) (zrf_of (rfl : zcd wC 97 = 45) rfl) dX10_find_23 ?_
        obtain ⟨lt5, cd6⟩ : (101 + 2 * (sI a0).toNat) < nC ∧ zcd wC (101 + 2 * (sI a0).toNat) = 6 := (by decide : ∀ k : Nat, k < 16 → (101 + 2 * k) < nC ∧ zcd wC (101 + 2 * k) = 6) (sI a0).toNat (by clear h; have h0 := o4.1; have h1 := o4.2; omega)
        obtain ⟨lt7, cd8⟩ := nx_strip (101 + 2 * (sI a0).toNat) lt5 cd6
        refine lv_goto (tgt := 28) hx hb dX10_find_24 (by decide) ?_
        exact w_aret hx hb hr (Or.inl ⟨_, rfl⟩) hlocks hS hS0 (some (101 + 2 * (sI a0).toNat)) rfl ⟨rfl, h⟩ dX10_find_28

set_option maxRecDepth 100000 in
def wC_fetch (a0 : Int) (M : zM) (Q : Int → zM → Prop) : Prop := wC_Versions_find a0 M (fun z2 => (z2 = none → Q (-1) M) ∧ (∀ q4, z2 = some q4 → (q4 < nC ∧ zcd wC q4 = 6) ∧ (wC_Strip_copy 30 q4 M (fun M9 => Q (sI (M9 30 1)) M9))))
set_option maxHeartbeats 4000000 in
set_option maxRecDepth 100000 in
theorem cC_fetch (l : Launch) (D : va_G) (dA : Nat → ClassId) (b : Nat) (M : zM) (a0 : Int)  (Q : Int → zM → Prop) (h : wC_fetch a0 M Q) : Met l yX11_fetch (.code yX11_fetch cX11_fetch 3 (some .int) :: zt) (z_rm 2) (va_Pc [.ref (b + 0), .int (iI a0)] (wPre D dA vwCl (z_tys dA) wC nC b M)) (va_Qi (wQi Q) (zB D dA vwCl wC nC b) (zA nC b)) 0 0 (zA nC b) := by
  unfold wC_fetch at h
  refine Met.ofW (cc := cX11_fetch) (maxL := 3) (ret := (some .int)) (by decide) rfl ?_
  intro p e s m args below meth c s₁ B hml hv
  obtain ⟨hargs, hS, hK⟩ := hv
  have hx := B.exec
  have hb := B.bytes
  have hr := B.returns
  have hts := atoms_spec (ws := .code yX11_fetch cX11_fetch 3 (some .int) :: zt) B.pre
  have hown : s.vm.findClass RX11 = some m.cls := findClass_of_methodNamed B.named
  have hlocks := B.notSynchronized
  have hS0 : va_S (zA nC b) s.heap s.heap [] := va_S.rf
  have hl := lv_entry ([.ref (b + 0), .int (iI a0)]) (n := 3) (Nat.le_of_ble_eq_true rfl)
  have hent : entryFrame m args 3 = F0 m 0 ((lg_sl ([.ref (b + 0), .int (iI a0)]) ++ List.replicate (3 - (lg_sl ([.ref (b + 0), .int (iI a0)])).length) Slot.unset).toArray) [] := by rw [hargs]; exact lg_entry_eq m ([.ref (b + 0), .int (iI a0)]) 3
  rw [hent]
  generalize (lg_sl ([.ref (b + 0), .int (iI a0)]) ++ List.replicate (3 - (lg_sl ([.ref (b + 0), .int (iI a0)])).length) Slot.unset).toArray = ls at hl ⊢
  have hl : lv_has ls 3 [(0, .ref (b + 0)), (1, .int (iI a0))] := hl
  refine lv_aload_n hx hb dX11_fetch_0 rfl (lv_at hl 0 rfl) ?_
  refine w_getr (j2 := 96) hx hb hts (z_memU u11) hown hK.1 hS f11_8 (by decide) (zkd_of (rfl : zcd wC 0 = 0) rfl) (zrf_of (rfl : zcd wC 0 = 0) rfl) (Or.inl (hts _ (z_mem k250))) dX11_fetch_1 ?_
  refine lv_iload_n hx hb dX11_fetch_4 rfl (lv_at hl 1 rfl) ?_
  refine w_callq (va_runV (As := [.int (iI a0)]) (rest := []) ⟨hx, hb, hml, hown, hts⟩ (cC_Versions_find l D dA b M a0 _ h) (cwV 1 hts (z_gV k858 k859 k860 k13 k861) rfl rfl rfl dm_X10_find ⟨Nat.le_of_ble_eq_true rfl, Nat.le_of_ble_eq_true rfl⟩) ⟨wPre_blind, (w_recv hS hK.1 (by decide) (zkd_of (rfl : zcd wC 96 = 44) rfl) (by decide) (rfl : vwCl[10]? = some (RX10, TX10, 5))), w_pre hS hK⟩ rfl rfl hl.1 rfl (lv_room (Nat.le_of_ble_eq_true rfl)) dX11_fetch_5 ⟨Nat.le_refl _, Nat.le_refl _⟩) hS0 (fun z2 M1 H locs h hS hS0 => ?_)
  obtain ⟨e3, h⟩ := h
  rw [e3] at hS
  rcases z2 with _ | q4
  · skip
    have h := h.1 rfl
    refine lv_astore_nN (lv' := [(2, .null), (0, .ref (b + 0)), (1, .int (iI a0))]) hx hb dX11_fetch_8 rfl hl (by decide) rfl (fun ls hl => ?_)
    refine lv_aload_nN hx hb dX11_fetch_9 rfl (lv_at hl 0 rfl) ?_
    refine lv_ifnonnullN hx hb dX11_fetch_10 ?_
    refine z_iconst hx hb dX11_fetch_13 ?_
    exact w_iret hx hb hr hlocks hS hS0 (sI_of (by decide)) h dX11_fetch_14
  · skip
    obtain ⟨⟨lt5, cd6⟩, h⟩ := h.2 q4 rfl
    obtain ⟨lt7, cd8⟩ := nx_strip q4 lt5 cd6
    refine lv_astore_n (lv' := [(2, .ref (b + q4)), (0, .ref (b + 0)), (1, .int (iI a0))]) hx hb dX11_fetch_8 rfl hl (by decide) rfl (fun ls hl => ?_)
    refine lv_aload_n hx hb dX11_fetch_9 rfl (lv_at hl 0 rfl) ?_
    refine lv_ifnonnull (tgt := 15) hx hb dX11_fetch_10 (by decide) ?_
    refine lv_aload_n hx hb dX11_fetch_15 rfl (lv_at hl 1 rfl) ?_
    refine w_getr (j2 := 30) hx hb hts (z_memU u11) hown hK.1 hS f11_1 (by decide) (zkd_of (rfl : zcd wC 0 = 0) rfl) (zrf_of (rfl : zcd wC 0 = 0) rfl) (Or.inl (hts _ (z_mem k243))) dX11_fetch_16 ?_
    refine lv_aload_n hx hb dX11_fetch_19 rfl (lv_at hl 0 rfl) ?_
    refine w_callv (va_runV (As := [.ref (b + q4)]) (rest := []) ⟨hx, hb, hml, hown, hts⟩ (cC_Strip_copy l D dA b M 30 q4 (by decide) (rfl : zcd wC 30 = 6) lt5 cd6 _ h) (cwV 1 hts (z_gV k862 k361 k362 k3 k363) rfl rfl rfl dm_X8_copy ⟨Nat.le_of_ble_eq_true rfl, Nat.le_of_ble_eq_true rfl⟩) ⟨wPre_blind, (w_recv hS hK.1 (by decide) (zkd_of (rfl : zcd wC 30 = 6) rfl) (by decide) (rfl : vwCl[8]? = some (RX8, TX8, 2))), w_pre hS hK⟩ rfl rfl hl.1 rfl (lv_room (Nat.le_of_ble_eq_true rfl)) dX11_fetch_20 ⟨Nat.le_refl _, Nat.le_refl _⟩) hS0 (fun M9 H locs h hS hS0 => ?_)
    refine lv_aload_n hx hb dX11_fetch_23 rfl (lv_at hl 1 rfl) ?_
    refine w_getr (j2 := 30) hx hb hts (z_memU u11) hown hK.1 hS f11_1 (by decide) (zkd_of (rfl : zcd wC 0 = 0) rfl) (zrf_of (rfl : zcd wC 0 = 0) rfl) (Or.inl (hts _ (z_mem k243))) dX11_fetch_24 ?_
    refine w_geti hx hb hts (z_memU u8) hown hK.1 hS f8_1 (by decide) (zkd_of (rfl : zcd wC 30 = 6) rfl) (Or.inl (hts _ (z_mem k50))) dX11_fetch_27 ?_
    exact w_iret hx hb hr hlocks hS hS0 rfl h dX11_fetch_30
end zz10_w12
